theorem dX7_get_53 : decode cX7_get 53 = .ok (.iload_n 2, 1) := by decide +kernel
theorem dX7_get_54 : decode cX7_get 54 = .ok (.iadd, 1) := by decide +kernel
theorem dX7_get_55 : decode cX7_get 55 = .ok (.laload, 1) := by decide +kernel
theorem dX7_get_56 : decode cX7_get 56 = .ok (.lstore 4, 2) := by decide +kernel
theorem dX7_get_58 : decode cX7_get 58 = .ok (.lload 4, 2) := by decide +kernel
theorem dX7_get_60 : decode cX7_get 60 = .ok (.ldc2_w 118, 3) := by decide +kernel
theorem dX7_get_63 : decode cX7_get 63 = .ok (.lcmp, 1) := by decide +kernel
theorem dX7_get_64 : decode cX7_get 64 = .ok (.ifCond .le 8, 3) := by decide +kernel
theorem dX7_get_67 : decode cX7_get 67 = .ok (.ldc 120, 2) := by decide +kernel
theorem dX7_get_69 : decode cX7_get 69 = .ok (.goto 6, 3) := by decide +kernel
theorem dX7_get_72 : decode cX7_get 72 = .ok (.lload 4, 2) := by decide +kernel
theorem dX7_get_74 : decode cX7_get 74 = .ok (.l2i, 1) := by decide +kernel
theorem dX7_get_75 : decode cX7_get 75 = .ok (.ireturn, 1) := by decide +kernel
theorem dX7_wanted_0 : decode cX7_wanted 0 = .ok (.iload_n 0, 1) := by decide +kernel
theorem dX7_wanted_1 : decode cX7_wanted 1 = .ok (.iconst 4, 1) := by decide +kernel
theorem dX7_wanted_2 : decode cX7_wanted 2 = .ok (.if_icmp .ne 7, 3) := by decide +kernel
theorem dX7_wanted_5 : decode cX7_wanted 5 = .ok (.iconst 0, 1) := by decide +kernel
theorem dX7_wanted_6 : decode cX7_wanted 6 = .ok (.goto 26, 3) := by decide +kernel
theorem dX7_wanted_9 : decode cX7_wanted 9 = .ok (.iload_n 0, 1) := by decide +kernel
theorem dX7_wanted_10 : decode cX7_wanted 10 = .ok (.bipush 10, 2) := by decide +kernel
theorem dX7_wanted_12 : decode cX7_wanted 12 = .ok (.if_icmp .ne 8, 3) := by decide +kernel
theorem dX7_wanted_15 : decode cX7_wanted 15 = .ok (.bipush 13, 2) := by decide +kernel
theorem dX7_wanted_17 : decode cX7_wanted 17 = .ok (.goto 15, 3) := by decide +kernel
theorem dX7_wanted_20 : decode cX7_wanted 20 = .ok (.iload_n 0, 1) := by decide +kernel
theorem dX7_wanted_21 : decode cX7_wanted 21 = .ok (.bipush 10, 2) := by decide +kernel
theorem dX7_wanted_23 : decode cX7_wanted 23 = .ok (.if_icmp .ge 7, 3) := by decide +kernel
theorem dX7_wanted_26 : decode cX7_wanted 26 = .ok (.iconst 5, 1) := by decide +kernel
theorem dX7_wanted_27 : decode cX7_wanted 27 = .ok (.goto 5, 3) := by decide +kernel
theorem dX7_wanted_30 : decode cX7_wanted 30 = .ok (.bipush 8, 2) := by decide +kernel
theorem dX7_wanted_32 : decode cX7_wanted 32 = .ok (.ireturn, 1) := by decide +kernel
theorem dX7_holds_0 : decode cX7_holds 0 = .ok (.iload_n 0, 1) := by decide +kernel
theorem dX7_holds_1 : decode cX7_holds 1 = .ok (.bipush 9, 2) := by decide +kernel
theorem dX7_holds_3 : decode cX7_holds 3 = .ok (.if_icmp .ne 8, 3) := by decide +kernel
theorem dX7_holds_6 : decode cX7_holds 6 = .ok (.bipush 6, 2) := by decide +kernel
theorem dX7_holds_8 : decode cX7_holds 8 = .ok (.goto 18, 3) := by decide +kernel
theorem dX7_holds_11 : decode cX7_holds 11 = .ok (.iload_n 0, 1) := by decide +kernel
theorem dX7_holds_12 : decode cX7_holds 12 = .ok (.bipush 12, 2) := by decide +kernel
theorem dX7_holds_14 : decode cX7_holds 14 = .ok (.if_icmp .ne 8, 3) := by decide +kernel
theorem dX7_holds_17 : decode cX7_holds 17 = .ok (.bipush 9, 2) := by decide +kernel
theorem dX7_holds_19 : decode cX7_holds 19 = .ok (.goto 7, 3) := by decide +kernel
theorem dX7_holds_22 : decode cX7_holds 22 = .ok (.iload_n 0, 1) := by decide +kernel
theorem dX7_holds_23 : decode cX7_holds 23 = .ok (.invokestatic 121, 3) := by decide +kernel
theorem dX7_holds_26 : decode cX7_holds 26 = .ok (.ireturn, 1) := by decide +kernel
theorem dX7_lay_0 : decode cX7_lay 0 = .ok (.aload_n 0, 1) := by decide +kernel
theorem dX7_lay_1 : decode cX7_lay 1 = .ok (.iconst 0, 1) := by decide +kernel
theorem dX7_lay_2 : decode cX7_lay 2 = .ok (.putfield 77, 3) := by decide +kernel
theorem dX7_lay_5 : decode cX7_lay 5 = .ok (.aload_n 0, 1) := by decide +kernel
theorem dX7_lay_6 : decode cX7_lay 6 = .ok (.iload_n 1, 1) := by decide +kernel
theorem dX7_lay_7 : decode cX7_lay 7 = .ok (.invokevirtual 104, 3) := by decide +kernel
theorem dX7_lay_10 : decode cX7_lay 10 = .ok (.ifCond .eq 16, 3) := by decide +kernel
theorem dX7_lay_13 : decode cX7_lay 13 = .ok (.iload_n 3, 1) := by decide +kernel
theorem dX7_lay_14 : decode cX7_lay 14 = .ok (.iconst (-1), 1) := by decide +kernel
theorem dX7_lay_15 : decode cX7_lay 15 = .ok (.if_icmp .eq 18, 3) := by decide +kernel
theorem dX7_lay_18 : decode cX7_lay 18 = .ok (.aload_n 0, 1) := by decide +kernel
theorem dX7_lay_19 : decode cX7_lay 19 = .ok (.iload_n 3, 1) := by decide +kernel
theorem dX7_lay_20 : decode cX7_lay 20 = .ok (.invokevirtual 104, 3) := by decide +kernel
theorem dX7_lay_23 : decode cX7_lay 23 = .ok (.ifCond .ne 10, 3) := by decide +kernel
theorem dX7_lay_26 : decode cX7_lay 26 = .ok (.aload_n 0, 1) := by decide +kernel
theorem dX7_lay_27 : decode cX7_lay 27 = .ok (.bipush (-2), 2) := by decide +kernel
theorem dX7_lay_29 : decode cX7_lay 29 = .ok (.invokevirtual 93, 3) := by decide +kernel
theorem dX7_lay_32 : decode cX7_lay 32 = .ok (.ireturn, 1) := by decide +kernel
theorem dX7_lay_33 : decode cX7_lay 33 = .ok (.aload_n 0, 1) := by decide +kernel
theorem dX7_lay_34 : decode cX7_lay 34 = .ok (.iload_n 1, 1) := by decide +kernel
theorem dX7_lay_35 : decode cX7_lay 35 = .ok (.iload_n 2, 1) := by decide +kernel
theorem dX7_lay_36 : decode cX7_lay 36 = .ok (.aload_n 0, 1) := by decide +kernel
theorem dX7_lay_37 : decode cX7_lay 37 = .ok (.getfield 7, 3) := by decide +kernel
theorem dX7_lay_40 : decode cX7_lay 40 = .ok (.iload_n 1, 1) := by decide +kernel
theorem dX7_lay_41 : decode cX7_lay 41 = .ok (.iaload, 1) := by decide +kernel
theorem dX7_lay_42 : decode cX7_lay 42 = .ok (.invokestatic 97, 3) := by decide +kernel
theorem dX7_lay_45 : decode cX7_lay 45 = .ok (.ifCond .eq 33, 3) := by decide +kernel
theorem dX7_lay_48 : decode cX7_lay 48 = .ok (.iload_n 3, 1) := by decide +kernel
theorem dX7_lay_49 : decode cX7_lay 49 = .ok (.iconst (-1), 1) := by decide +kernel
theorem dX7_lay_50 : decode cX7_lay 50 = .ok (.if_icmp .eq 24, 3) := by decide +kernel
theorem dX7_lay_53 : decode cX7_lay 53 = .ok (.aload_n 0, 1) := by decide +kernel
theorem dX7_lay_54 : decode cX7_lay 54 = .ok (.getfield 7, 3) := by decide +kernel
theorem dX7_lay_57 : decode cX7_lay 57 = .ok (.iload_n 3, 1) := by decide +kernel
theorem dX7_lay_58 : decode cX7_lay 58 = .ok (.iaload, 1) := by decide +kernel
theorem dX7_lay_59 : decode cX7_lay 59 = .ok (.aload_n 0, 1) := by decide +kernel
theorem dX7_lay_60 : decode cX7_lay 60 = .ok (.getfield 7, 3) := by decide +kernel
theorem dX7_lay_63 : decode cX7_lay 63 = .ok (.iload_n 1, 1) := by decide +kernel
theorem dX7_lay_64 : decode cX7_lay 64 = .ok (.iaload, 1) := by decide +kernel
theorem dX7_lay_65 : decode cX7_lay 65 = .ok (.invokestatic 121, 3) := by decide +kernel
theorem dX7_lay_68 : decode cX7_lay 68 = .ok (.invokestatic 124, 3) := by decide +kernel
theorem dX7_lay_71 : decode cX7_lay 71 = .ok (.ifCond .eq 7, 3) := by decide +kernel
theorem dX7_lay_74 : decode cX7_lay 74 = .ok (.iconst 1, 1) := by decide +kernel
theorem dX7_lay_75 : decode cX7_lay 75 = .ok (.goto 4, 3) := by decide +kernel
theorem dX7_lay_78 : decode cX7_lay 78 = .ok (.iconst 0, 1) := by decide +kernel
theorem dX7_lay_79 : decode cX7_lay 79 = .ok (.invokevirtual 110, 3) := by decide +kernel
theorem dX7_lay_82 : decode cX7_lay 82 = .ok (.istore 4, 2) := by decide +kernel
theorem dX7_lay_84 : decode cX7_lay 84 = .ok (.iload 4, 2) := by decide +kernel
theorem dX7_lay_86 : decode cX7_lay 86 = .ok (.ifCond .eq 10, 3) := by decide +kernel
theorem dX7_lay_89 : decode cX7_lay 89 = .ok (.aload_n 0, 1) := by decide +kernel
theorem dX7_lay_90 : decode cX7_lay 90 = .ok (.iload 4, 2) := by decide +kernel
theorem dX7_lay_92 : decode cX7_lay 92 = .ok (.invokevirtual 93, 3) := by decide +kernel
theorem dX7_lay_95 : decode cX7_lay 95 = .ok (.ireturn, 1) := by decide +kernel
theorem dX7_lay_96 : decode cX7_lay 96 = .ok (.iload_n 3, 1) := by decide +kernel
theorem dX7_lay_97 : decode cX7_lay 97 = .ok (.iconst (-1), 1) := by decide +kernel
theorem dX7_lay_98 : decode cX7_lay 98 = .ok (.if_icmp .eq 31, 3) := by decide +kernel
theorem dX7_lay_101 : decode cX7_lay 101 = .ok (.aload_n 0, 1) := by decide +kernel
theorem dX7_lay_102 : decode cX7_lay 102 = .ok (.getfield 7, 3) := by decide +kernel
theorem dX7_lay_105 : decode cX7_lay 105 = .ok (.iload_n 3, 1) := by decide +kernel
theorem dX7_lay_106 : decode cX7_lay 106 = .ok (.iaload, 1) := by decide +kernel
theorem dX7_lay_107 : decode cX7_lay 107 = .ok (.aload_n 0, 1) := by decide +kernel
theorem dX7_lay_108 : decode cX7_lay 108 = .ok (.getfield 7, 3) := by decide +kernel
theorem dX7_lay_111 : decode cX7_lay 111 = .ok (.iload_n 1, 1) := by decide +kernel
theorem dX7_lay_112 : decode cX7_lay 112 = .ok (.iaload, 1) := by decide +kernel
theorem dX7_lay_113 : decode cX7_lay 113 = .ok (.invokestatic 128, 3) := by decide +kernel
theorem dX7_lay_116 : decode cX7_lay 116 = .ok (.invokestatic 124, 3) := by decide +kernel
theorem dX7_lay_119 : decode cX7_lay 119 = .ok (.ifCond .ne 10, 3) := by decide +kernel
theorem dX7_lay_122 : decode cX7_lay 122 = .ok (.aload_n 0, 1) := by decide +kernel
theorem dX7_lay_123 : decode cX7_lay 123 = .ok (.bipush (-6), 2) := by decide +kernel
theorem dX7_lay_125 : decode cX7_lay 125 = .ok (.invokevirtual 93, 3) := by decide +kernel
theorem dX7_lay_128 : decode cX7_lay 128 = .ok (.ireturn, 1) := by decide +kernel
theorem dX7_lay_129 : decode cX7_lay 129 = .ok (.aload_n 0, 1) := by decide +kernel
theorem dX7_lay_130 : decode cX7_lay 130 = .ok (.getfield 19, 3) := by decide +kernel
theorem dX7_lay_133 : decode cX7_lay 133 = .ok (.iconst 3, 1) := by decide +kernel
theorem dX7_lay_134 : decode cX7_lay 134 = .ok (.iload_n 1, 1) := by decide +kernel
theorem dX7_lay_135 : decode cX7_lay 135 = .ok (.imul, 1) := by decide +kernel
theorem dX7_lay_136 : decode cX7_lay 136 = .ok (.iload_n 2, 1) := by decide +kernel
theorem dX7_lay_137 : decode cX7_lay 137 = .ok (.iadd, 1) := by decide +kernel
theorem dX7_lay_138 : decode cX7_lay 138 = .ok (.iload_n 3, 1) := by decide +kernel
theorem dX7_lay_139 : decode cX7_lay 139 = .ok (.i2l, 1) := by decide +kernel
theorem dX7_lay_140 : decode cX7_lay 140 = .ok (.lastore, 1) := by decide +kernel
theorem dX7_lay_141 : decode cX7_lay 141 = .ok (.iconst 1, 1) := by decide +kernel
theorem dX7_lay_142 : decode cX7_lay 142 = .ok (.ireturn, 1) := by decide +kernel
theorem dX7_at_0 : decode cX7_at 0 = .ok (.aload_n 0, 1) := by decide +kernel
theorem dX7_at_1 : decode cX7_at 1 = .ok (.iconst 0, 1) := by decide +kernel
theorem dX7_at_2 : decode cX7_at 2 = .ok (.putfield 77, 3) := by decide +kernel
theorem dX7_at_5 : decode cX7_at 5 = .ok (.aload_n 0, 1) := by decide +kernel
theorem dX7_at_6 : decode cX7_at 6 = .ok (.iload_n 1, 1) := by decide +kernel
theorem dX7_at_7 : decode cX7_at 7 = .ok (.invokevirtual 104, 3) := by decide +kernel
theorem dX7_at_10 : decode cX7_at 10 = .ok (.ifCond .ne 8, 3) := by decide +kernel
theorem dX7_at_13 : decode cX7_at 13 = .ok (.bipush (-2), 2) := by decide +kernel
theorem dX7_at_15 : decode cX7_at 15 = .ok (.goto 18, 3) := by decide +kernel
theorem dX7_at_18 : decode cX7_at 18 = .ok (.aload_n 0, 1) := by decide +kernel
theorem dX7_at_19 : decode cX7_at 19 = .ok (.iload_n 1, 1) := by decide +kernel
theorem dX7_at_20 : decode cX7_at 20 = .ok (.iload_n 2, 1) := by decide +kernel
theorem dX7_at_21 : decode cX7_at 21 = .ok (.aload_n 0, 1) := by decide +kernel
theorem dX7_at_22 : decode cX7_at 22 = .ok (.getfield 7, 3) := by decide +kernel
theorem dX7_at_25 : decode cX7_at 25 = .ok (.iload_n 1, 1) := by decide +kernel
theorem dX7_at_26 : decode cX7_at 26 = .ok (.iaload, 1) := by decide +kernel
theorem dX7_at_27 : decode cX7_at 27 = .ok (.invokestatic 97, 3) := by decide +kernel
theorem dX7_at_30 : decode cX7_at 30 = .ok (.invokevirtual 110, 3) := by decide +kernel
theorem dX7_at_33 : decode cX7_at 33 = .ok (.istore_n 3, 1) := by decide +kernel
theorem dX7_at_34 : decode cX7_at 34 = .ok (.iload_n 3, 1) := by decide +kernel
theorem dX7_at_35 : decode cX7_at 35 = .ok (.ifCond .eq 11, 3) := by decide +kernel
theorem dX7_at_38 : decode cX7_at 38 = .ok (.aload_n 0, 1) := by decide +kernel
theorem dX7_at_39 : decode cX7_at 39 = .ok (.iload_n 3, 1) := by decide +kernel
theorem dX7_at_40 : decode cX7_at 40 = .ok (.invokevirtual 93, 3) := by decide +kernel
theorem dX7_at_43 : decode cX7_at 43 = .ok (.goto 14, 3) := by decide +kernel
theorem dX7_at_46 : decode cX7_at 46 = .ok (.aload_n 0, 1) := by decide +kernel
theorem dX7_at_47 : decode cX7_at 47 = .ok (.getfield 19, 3) := by decide +kernel
theorem dX7_at_50 : decode cX7_at 50 = .ok (.iconst 3, 1) := by decide +kernel
theorem dX7_at_51 : decode cX7_at 51 = .ok (.iload_n 1, 1) := by decide +kernel
theorem dX7_at_52 : decode cX7_at 52 = .ok (.imul, 1) := by decide +kernel
theorem dX7_at_53 : decode cX7_at 53 = .ok (.iload_n 2, 1) := by decide +kernel
theorem dX7_at_54 : decode cX7_at 54 = .ok (.iadd, 1) := by decide +kernel
theorem dX7_at_55 : decode cX7_at 55 = .ok (.laload, 1) := by decide +kernel
theorem dX7_at_56 : decode cX7_at 56 = .ok (.l2i, 1) := by decide +kernel
theorem dX7_at_57 : decode cX7_at 57 = .ok (.ireturn, 1) := by decide +kernel
theorem dX7_is_0 : decode cX7_is 0 = .ok (.aload_n 0, 1) := by decide +kernel
theorem dX7_is_1 : decode cX7_is 1 = .ok (.iconst 0, 1) := by decide +kernel
theorem dX7_is_2 : decode cX7_is 2 = .ok (.putfield 77, 3) := by decide +kernel
theorem dX7_is_5 : decode cX7_is 5 = .ok (.aload_n 0, 1) := by decide +kernel
theorem dX7_is_6 : decode cX7_is 6 = .ok (.iload_n 1, 1) := by decide +kernel
theorem dX7_is_7 : decode cX7_is 7 = .ok (.invokevirtual 104, 3) := by decide +kernel
theorem dX7_is_10 : decode cX7_is 10 = .ok (.ifCond .eq 13, 3) := by decide +kernel
theorem dX7_is_13 : decode cX7_is 13 = .ok (.iload_n 2, 1) := by decide +kernel
theorem dX7_is_14 : decode cX7_is 14 = .ok (.iconst 0, 1) := by decide +kernel
theorem dX7_is_15 : decode cX7_is 15 = .ok (.bipush 13, 2) := by decide +kernel
theorem dX7_is_17 : decode cX7_is 17 = .ok (.invokestatic 73, 3) := by decide +kernel
theorem dX7_is_20 : decode cX7_is 20 = .ok (.ifCond .ne 12, 3) := by decide +kernel
theorem dX7_is_23 : decode cX7_is 23 = .ok (.aload_n 0, 1) := by decide +kernel
theorem dX7_is_24 : decode cX7_is 24 = .ok (.bipush (-2), 2) := by decide +kernel
theorem dX7_is_26 : decode cX7_is 26 = .ok (.invokevirtual 93, 3) := by decide +kernel
theorem dX7_is_29 : decode cX7_is 29 = .ok (.goto 21, 3) := by decide +kernel
theorem dX7_is_32 : decode cX7_is 32 = .ok (.aload_n 0, 1) := by decide +kernel
theorem dX7_is_33 : decode cX7_is 33 = .ok (.getfield 7, 3) := by decide +kernel
theorem dX7_is_36 : decode cX7_is 36 = .ok (.iload_n 1, 1) := by decide +kernel
theorem dX7_is_37 : decode cX7_is 37 = .ok (.iaload, 1) := by decide +kernel
theorem dX7_is_38 : decode cX7_is 38 = .ok (.iload_n 2, 1) := by decide +kernel
theorem dX7_is_39 : decode cX7_is 39 = .ok (.invokestatic 124, 3) := by decide +kernel
theorem dX7_is_42 : decode cX7_is 42 = .ok (.ifCond .eq 7, 3) := by decide +kernel
theorem dX7_is_45 : decode cX7_is 45 = .ok (.iconst 1, 1) := by decide +kernel
theorem dX7_is_46 : decode cX7_is 46 = .ok (.goto 4, 3) := by decide +kernel
theorem dX7_is_49 : decode cX7_is 49 = .ok (.iconst 0, 1) := by decide +kernel
theorem dX7_is_50 : decode cX7_is 50 = .ok (.ireturn, 1) := by decide +kernel
theorem dX7_stamps_0 : decode cX7_stamps 0 = .ok (.aload_n 0, 1) := by decide +kernel
theorem dX7_stamps_1 : decode cX7_stamps 1 = .ok (.iconst 0, 1) := by decide +kernel
theorem dX7_stamps_2 : decode cX7_stamps 2 = .ok (.putfield 77, 3) := by decide +kernel
theorem dX7_stamps_5 : decode cX7_stamps 5 = .ok (.aload_n 0, 1) := by decide +kernel
theorem dX7_stamps_6 : decode cX7_stamps 6 = .ok (.iload_n 1, 1) := by decide +kernel
theorem dX7_stamps_7 : decode cX7_stamps 7 = .ok (.invokevirtual 104, 3) := by decide +kernel
theorem dX7_stamps_10 : decode cX7_stamps 10 = .ok (.ifCond .ne 8, 3) := by decide +kernel
theorem dX7_stamps_13 : decode cX7_stamps 13 = .ok (.bipush (-2), 2) := by decide +kernel
theorem dX7_stamps_15 : decode cX7_stamps 15 = .ok (.goto 21, 3) := by decide +kernel
theorem dX7_stamps_18 : decode cX7_stamps 18 = .ok (.aload_n 0, 1) := by decide +kernel
theorem dX7_stamps_19 : decode cX7_stamps 19 = .ok (.getfield 7, 3) := by decide +kernel
theorem dX7_stamps_22 : decode cX7_stamps 22 = .ok (.iload_n 1, 1) := by decide +kernel
theorem dX7_stamps_23 : decode cX7_stamps 23 = .ok (.iaload, 1) := by decide +kernel
theorem dX7_stamps_24 : decode cX7_stamps 24 = .ok (.invokestatic 89, 3) := by decide +kernel
theorem dX7_stamps_27 : decode cX7_stamps 27 = .ok (.ifCond .ne 8, 3) := by decide +kernel
theorem dX7_stamps_30 : decode cX7_stamps 30 = .ok (.bipush (-4), 2) := by decide +kernel
theorem dX7_stamps_32 : decode cX7_stamps 32 = .ok (.goto 4, 3) := by decide +kernel
theorem dX7_stamps_35 : decode cX7_stamps 35 = .ok (.iconst 0, 1) := by decide +kernel
theorem dX7_stamps_36 : decode cX7_stamps 36 = .ok (.istore_n 2, 1) := by decide +kernel
theorem dX7_stamps_37 : decode cX7_stamps 37 = .ok (.iload_n 2, 1) := by decide +kernel
theorem dX7_stamps_38 : decode cX7_stamps 38 = .ok (.ifCond .eq 11, 3) := by decide +kernel
theorem dX7_stamps_41 : decode cX7_stamps 41 = .ok (.aload_n 0, 1) := by decide +kernel
theorem dX7_stamps_42 : decode cX7_stamps 42 = .ok (.iload_n 2, 1) := by decide +kernel
theorem dX7_stamps_43 : decode cX7_stamps 43 = .ok (.invokevirtual 93, 3) := by decide +kernel
theorem dX7_stamps_46 : decode cX7_stamps 46 = .ok (.istore_n 2, 1) := by decide +kernel
theorem dX7_stamps_47 : decode cX7_stamps 47 = .ok (.iconst 0, 1) := by decide +kernel
theorem dX7_stamps_48 : decode cX7_stamps 48 = .ok (.ireturn, 1) := by decide +kernel
theorem dX7_stamps_49 : decode cX7_stamps 49 = .ok (.aload_n 0, 1) := by decide +kernel
theorem dX7_stamps_50 : decode cX7_stamps 50 = .ok (.getfield 16, 3) := by decide +kernel
theorem dX7_stamps_53 : decode cX7_stamps 53 = .ok (.iload_n 1, 1) := by decide +kernel
theorem dX7_stamps_54 : decode cX7_stamps 54 = .ok (.iaload, 1) := by decide +kernel
theorem dX7_stamps_55 : decode cX7_stamps 55 = .ok (.ireturn, 1) := by decide +kernel
theorem dX7_isRoom_0 : decode cX7_isRoom 0 = .ok (.iload_n 0, 1) := by decide +kernel
theorem dX7_isRoom_1 : decode cX7_isRoom 1 = .ok (.iconst 0, 1) := by decide +kernel
theorem dX7_isRoom_2 : decode cX7_isRoom 2 = .ok (.bipush 7, 2) := by decide +kernel
theorem dX7_isRoom_4 : decode cX7_isRoom 4 = .ok (.invokestatic 73, 3) := by decide +kernel
theorem dX7_isRoom_7 : decode cX7_isRoom 7 = .ok (.ireturn, 1) := by decide +kernel
theorem dX7_settle_0 : decode cX7_settle 0 = .ok (.aload_n 0, 1) := by decide +kernel
theorem dX7_settle_1 : decode cX7_settle 1 = .ok (.getfield 26, 3) := by decide +kernel
theorem dX7_settle_4 : decode cX7_settle 4 = .ok (.iload_n 1, 1) := by decide +kernel
theorem dX7_settle_5 : decode cX7_settle 5 = .ok (.iload_n 2, 1) := by decide +kernel
theorem dX7_settle_6 : decode cX7_settle 6 = .ok (.iastore, 1) := by decide +kernel
theorem dX7_settle_7 : decode cX7_settle 7 = .ok (.aload_n 0, 1) := by decide +kernel
theorem dX7_settle_8 : decode cX7_settle 8 = .ok (.getfield 29, 3) := by decide +kernel
theorem dX7_settle_11 : decode cX7_settle 11 = .ok (.iload_n 1, 1) := by decide +kernel
theorem dX7_settle_12 : decode cX7_settle 12 = .ok (.iload_n 3, 1) := by decide +kernel
theorem dX7_settle_13 : decode cX7_settle 13 = .ok (.iastore, 1) := by decide +kernel
theorem dX7_settle_14 : decode cX7_settle 14 = .ok (.aload_n 0, 1) := by decide +kernel
theorem dX7_settle_15 : decode cX7_settle 15 = .ok (.getfield 32, 3) := by decide +kernel
theorem dX7_settle_18 : decode cX7_settle 18 = .ok (.iload_n 1, 1) := by decide +kernel
theorem dX7_settle_19 : decode cX7_settle 19 = .ok (.iload 4, 2) := by decide +kernel
theorem dX7_settle_21 : decode cX7_settle 21 = .ok (.bastore, 1) := by decide +kernel
theorem dX7_settle_22 : decode cX7_settle 22 = .ok (.return_, 1) := by decide +kernel
theorem dX7_desk_0 : decode cX7_desk 0 = .ok (.aload_n 0, 1) := by decide +kernel
theorem dX7_desk_1 : decode cX7_desk 1 = .ok (.iconst 0, 1) := by decide +kernel
theorem dX7_desk_2 : decode cX7_desk 2 = .ok (.putfield 77, 3) := by decide +kernel
theorem dX7_desk_5 : decode cX7_desk 5 = .ok (.iload_n 1, 1) := by decide +kernel
theorem dX7_desk_6 : decode cX7_desk 6 = .ok (.invokestatic 131, 3) := by decide +kernel
theorem dX7_desk_9 : decode cX7_desk 9 = .ok (.ifCond .eq 22, 3) := by decide +kernel
theorem dX7_desk_12 : decode cX7_desk 12 = .ok (.iload_n 2, 1) := by decide +kernel
theorem dX7_desk_13 : decode cX7_desk 13 = .ok (.iconst 0, 1) := by decide +kernel
theorem dX7_desk_14 : decode cX7_desk 14 = .ok (.bipush 13, 2) := by decide +kernel
theorem dX7_desk_16 : decode cX7_desk 16 = .ok (.invokestatic 73, 3) := by decide +kernel
theorem dX7_desk_19 : decode cX7_desk 19 = .ok (.ifCond .eq 12, 3) := by decide +kernel
theorem dX7_desk_22 : decode cX7_desk 22 = .ok (.iload_n 3, 1) := by decide +kernel
theorem dX7_desk_23 : decode cX7_desk 23 = .ok (.iconst 0, 1) := by decide +kernel
theorem dX7_desk_24 : decode cX7_desk 24 = .ok (.iconst 4, 1) := by decide +kernel
theorem dX7_desk_25 : decode cX7_desk 25 = .ok (.invokestatic 73, 3) := by decide +kernel
theorem dX7_desk_28 : decode cX7_desk 28 = .ok (.ifCond .ne 10, 3) := by decide +kernel
theorem dX7_desk_31 : decode cX7_desk 31 = .ok (.aload_n 0, 1) := by decide +kernel
theorem dX7_desk_32 : decode cX7_desk 32 = .ok (.bipush (-2), 2) := by decide +kernel
theorem dX7_desk_34 : decode cX7_desk 34 = .ok (.invokevirtual 93, 3) := by decide +kernel
theorem dX7_desk_37 : decode cX7_desk 37 = .ok (.ireturn, 1) := by decide +kernel
theorem dX7_desk_38 : decode cX7_desk 38 = .ok (.aload_n 0, 1) := by decide +kernel
theorem dX7_desk_39 : decode cX7_desk 39 = .ok (.getfield 23, 3) := by decide +kernel
theorem dX7_desk_42 : decode cX7_desk 42 = .ok (.iload_n 1, 1) := by decide +kernel
theorem dX7_desk_43 : decode cX7_desk 43 = .ok (.iaload, 1) := by decide +kernel
theorem dX7_desk_44 : decode cX7_desk 44 = .ok (.iconst 4, 1) := by decide +kernel
theorem dX7_desk_45 : decode cX7_desk 45 = .ok (.if_icmp .ne 10, 3) := by decide +kernel
theorem dX7_desk_48 : decode cX7_desk 48 = .ok (.aload_n 0, 1) := by decide +kernel
theorem dX7_desk_49 : decode cX7_desk 49 = .ok (.bipush (-3), 2) := by decide +kernel
theorem dX7_desk_51 : decode cX7_desk 51 = .ok (.invokevirtual 93, 3) := by decide +kernel
theorem dX7_desk_54 : decode cX7_desk 54 = .ok (.ireturn, 1) := by decide +kernel
theorem dX7_desk_55 : decode cX7_desk 55 = .ok (.iconst 4, 1) := by decide +kernel
theorem dX7_desk_56 : decode cX7_desk 56 = .ok (.iload_n 1, 1) := by decide +kernel
theorem dX7_desk_57 : decode cX7_desk 57 = .ok (.imul, 1) := by decide +kernel
theorem dX7_desk_58 : decode cX7_desk 58 = .ok (.aload_n 0, 1) := by decide +kernel
theorem dX7_desk_59 : decode cX7_desk 59 = .ok (.getfield 23, 3) := by decide +kernel
theorem dX7_desk_62 : decode cX7_desk 62 = .ok (.iload_n 1, 1) := by decide +kernel
theorem dX7_desk_63 : decode cX7_desk 63 = .ok (.iaload, 1) := by decide +kernel
theorem dX7_desk_64 : decode cX7_desk 64 = .ok (.iadd, 1) := by decide +kernel
theorem dX7_desk_65 : decode cX7_desk 65 = .ok (.istore 5, 2) := by decide +kernel
theorem dX7_desk_67 : decode cX7_desk 67 = .ok (.aload_n 0, 1) := by decide +kernel
theorem dX7_desk_68 : decode cX7_desk 68 = .ok (.iload 5, 2) := by decide +kernel
theorem dX7_desk_70 : decode cX7_desk 70 = .ok (.iload_n 2, 1) := by decide +kernel
theorem dX7_desk_71 : decode cX7_desk 71 = .ok (.iload_n 3, 1) := by decide +kernel
theorem dX7_desk_72 : decode cX7_desk 72 = .ok (.iload 4, 2) := by decide +kernel
theorem dX7_desk_74 : decode cX7_desk 74 = .ok (.invokevirtual 134, 3) := by decide +kernel
theorem dX7_desk_77 : decode cX7_desk 77 = .ok (.aload_n 0, 1) := by decide +kernel
theorem dX7_desk_78 : decode cX7_desk 78 = .ok (.getfield 36, 3) := by decide +kernel
theorem dX7_desk_81 : decode cX7_desk 81 = .ok (.iload 5, 2) := by decide +kernel
theorem dX7_desk_83 : decode cX7_desk 83 = .ok (.iconst 0, 1) := by decide +kernel
theorem dX7_desk_84 : decode cX7_desk 84 = .ok (.iastore, 1) := by decide +kernel
theorem dX7_desk_85 : decode cX7_desk 85 = .ok (.aload_n 0, 1) := by decide +kernel
theorem dX7_desk_86 : decode cX7_desk 86 = .ok (.getfield 39, 3) := by decide +kernel
theorem dX7_desk_89 : decode cX7_desk 89 = .ok (.iload 5, 2) := by decide +kernel
theorem dX7_desk_91 : decode cX7_desk 91 = .ok (.iconst (-1), 1) := by decide +kernel
theorem dX7_desk_92 : decode cX7_desk 92 = .ok (.iastore, 1) := by decide +kernel
theorem dX7_desk_93 : decode cX7_desk 93 = .ok (.aload_n 0, 1) := by decide +kernel
theorem dX7_desk_94 : decode cX7_desk 94 = .ok (.getfield 42, 3) := by decide +kernel
theorem dX7_desk_97 : decode cX7_desk 97 = .ok (.iload 5, 2) := by decide +kernel
theorem dX7_desk_99 : decode cX7_desk 99 = .ok (.iconst 0, 1) := by decide +kernel
theorem dX7_desk_100 : decode cX7_desk 100 = .ok (.iastore, 1) := by decide +kernel
theorem dX7_desk_101 : decode cX7_desk 101 = .ok (.aload_n 0, 1) := by decide +kernel
theorem dX7_desk_102 : decode cX7_desk 102 = .ok (.getfield 45, 3) := by decide +kernel
theorem dX7_desk_105 : decode cX7_desk 105 = .ok (.iload 5, 2) := by decide +kernel
theorem dX7_desk_107 : decode cX7_desk 107 = .ok (.iconst 0, 1) := by decide +kernel
theorem dX7_desk_108 : decode cX7_desk 108 = .ok (.iastore, 1) := by decide +kernel
theorem dX7_desk_109 : decode cX7_desk 109 = .ok (.aload_n 0, 1) := by decide +kernel
theorem dX7_desk_110 : decode cX7_desk 110 = .ok (.getfield 48, 3) := by decide +kernel
theorem dX7_desk_113 : decode cX7_desk 113 = .ok (.iload 5, 2) := by decide +kernel
theorem dX7_desk_115 : decode cX7_desk 115 = .ok (.iconst (-1), 1) := by decide +kernel
theorem dX7_desk_116 : decode cX7_desk 116 = .ok (.iastore, 1) := by decide +kernel
theorem dX7_desk_117 : decode cX7_desk 117 = .ok (.aload_n 0, 1) := by decide +kernel
theorem dX7_desk_118 : decode cX7_desk 118 = .ok (.getfield 23, 3) := by decide +kernel
theorem dX7_desk_121 : decode cX7_desk 121 = .ok (.iload_n 1, 1) := by decide +kernel
theorem dX7_desk_122 : decode cX7_desk 122 = .ok (.dup2, 1) := by decide +kernel
theorem dX7_desk_123 : decode cX7_desk 123 = .ok (.iaload, 1) := by decide +kernel
theorem dX7_desk_124 : decode cX7_desk 124 = .ok (.iconst 1, 1) := by decide +kernel
theorem dX7_desk_125 : decode cX7_desk 125 = .ok (.iadd, 1) := by decide +kernel
theorem dX7_desk_126 : decode cX7_desk 126 = .ok (.iastore, 1) := by decide +kernel
theorem dX7_desk_127 : decode cX7_desk 127 = .ok (.aload_n 0, 1) := by decide +kernel
theorem dX7_desk_128 : decode cX7_desk 128 = .ok (.getfield 23, 3) := by decide +kernel
theorem dX7_desk_131 : decode cX7_desk 131 = .ok (.iload_n 1, 1) := by decide +kernel
theorem dX7_desk_132 : decode cX7_desk 132 = .ok (.iaload, 1) := by decide +kernel
theorem dX7_desk_133 : decode cX7_desk 133 = .ok (.iconst 1, 1) := by decide +kernel
theorem dX7_desk_134 : decode cX7_desk 134 = .ok (.isub, 1) := by decide +kernel
theorem dX7_desk_135 : decode cX7_desk 135 = .ok (.ireturn, 1) := by decide +kernel
theorem dX7_change_0 : decode cX7_change 0 = .ok (.aload_n 0, 1) := by decide +kernel
theorem dX7_change_1 : decode cX7_change 1 = .ok (.iconst 0, 1) := by decide +kernel
theorem dX7_change_2 : decode cX7_change 2 = .ok (.putfield 77, 3) := by decide +kernel
theorem dX7_change_5 : decode cX7_change 5 = .ok (.iload_n 1, 1) := by decide +kernel
theorem dX7_change_6 : decode cX7_change 6 = .ok (.invokestatic 131, 3) := by decide +kernel
theorem dX7_change_9 : decode cX7_change 9 = .ok (.ifCond .eq 39, 3) := by decide +kernel
theorem dX7_change_12 : decode cX7_change 12 = .ok (.iload_n 2, 1) := by decide +kernel
theorem dX7_change_13 : decode cX7_change 13 = .ok (.iconst 0, 1) := by decide +kernel
theorem dX7_change_14 : decode cX7_change 14 = .ok (.aload_n 0, 1) := by decide +kernel
theorem dX7_change_15 : decode cX7_change 15 = .ok (.getfield 23, 3) := by decide +kernel
theorem dX7_change_18 : decode cX7_change 18 = .ok (.iload_n 1, 1) := by decide +kernel
theorem dX7_change_19 : decode cX7_change 19 = .ok (.iaload, 1) := by decide +kernel
theorem dX7_change_20 : decode cX7_change 20 = .ok (.iconst 1, 1) := by decide +kernel
theorem dX7_change_21 : decode cX7_change 21 = .ok (.isub, 1) := by decide +kernel
theorem dX7_change_22 : decode cX7_change 22 = .ok (.invokestatic 73, 3) := by decide +kernel
theorem dX7_change_25 : decode cX7_change 25 = .ok (.ifCond .eq 23, 3) := by decide +kernel
theorem dX7_change_28 : decode cX7_change 28 = .ok (.iload_n 3, 1) := by decide +kernel
theorem dX7_change_29 : decode cX7_change 29 = .ok (.iconst 0, 1) := by decide +kernel
theorem dX7_change_30 : decode cX7_change 30 = .ok (.bipush 13, 2) := by decide +kernel
theorem dX7_change_32 : decode cX7_change 32 = .ok (.invokestatic 73, 3) := by decide +kernel
theorem dX7_change_35 : decode cX7_change 35 = .ok (.ifCond .eq 13, 3) := by decide +kernel
theorem dX7_change_38 : decode cX7_change 38 = .ok (.iload 4, 2) := by decide +kernel
theorem dX7_change_40 : decode cX7_change 40 = .ok (.iconst 0, 1) := by decide +kernel
theorem dX7_change_41 : decode cX7_change 41 = .ok (.iconst 4, 1) := by decide +kernel
theorem dX7_change_42 : decode cX7_change 42 = .ok (.invokestatic 73, 3) := by decide +kernel
theorem dX7_change_45 : decode cX7_change 45 = .ok (.ifCond .ne 10, 3) := by decide +kernel
theorem dX7_change_48 : decode cX7_change 48 = .ok (.aload_n 0, 1) := by decide +kernel
theorem dX7_change_49 : decode cX7_change 49 = .ok (.bipush (-2), 2) := by decide +kernel
theorem dX7_change_51 : decode cX7_change 51 = .ok (.invokevirtual 93, 3) := by decide +kernel
theorem dX7_change_54 : decode cX7_change 54 = .ok (.ireturn, 1) := by decide +kernel
theorem dX7_change_55 : decode cX7_change 55 = .ok (.aload_n 0, 1) := by decide +kernel
theorem dX7_change_56 : decode cX7_change 56 = .ok (.iconst 4, 1) := by decide +kernel
theorem dX7_change_57 : decode cX7_change 57 = .ok (.iload_n 1, 1) := by decide +kernel
theorem dX7_change_58 : decode cX7_change 58 = .ok (.imul, 1) := by decide +kernel
theorem dX7_change_59 : decode cX7_change 59 = .ok (.iload_n 2, 1) := by decide +kernel
theorem dX7_change_60 : decode cX7_change 60 = .ok (.iadd, 1) := by decide +kernel
theorem dX7_change_61 : decode cX7_change 61 = .ok (.iload_n 3, 1) := by decide +kernel
theorem dX7_change_62 : decode cX7_change 62 = .ok (.iload 4, 2) := by decide +kernel
theorem dX7_change_64 : decode cX7_change 64 = .ok (.iload 5, 2) := by decide +kernel
theorem dX7_change_66 : decode cX7_change 66 = .ok (.invokevirtual 134, 3) := by decide +kernel
theorem dX7_change_69 : decode cX7_change 69 = .ok (.iconst 1, 1) := by decide +kernel
theorem dX7_change_70 : decode cX7_change 70 = .ok (.ireturn, 1) := by decide +kernel
theorem dX7_turn_0 : decode cX7_turn 0 = .ok (.iconst 0, 1) := by decide +kernel
theorem dX7_turn_1 : decode cX7_turn 1 = .ok (.istore_n 2, 1) := by decide +kernel
theorem dX7_turn_2 : decode cX7_turn 2 = .ok (.iload_n 2, 1) := by decide +kernel
theorem dX7_turn_3 : decode cX7_turn 3 = .ok (.aload_n 0, 1) := by decide +kernel
theorem dX7_turn_4 : decode cX7_turn 4 = .ok (.getfield 13, 3) := by decide +kernel
theorem dX7_turn_7 : decode cX7_turn 7 = .ok (.iload_n 1, 1) := by decide +kernel
theorem dX7_turn_8 : decode cX7_turn 8 = .ok (.iaload, 1) := by decide +kernel
theorem dX7_turn_9 : decode cX7_turn 9 = .ok (.iconst 2, 1) := by decide +kernel
theorem dX7_turn_10 : decode cX7_turn 10 = .ok (.idiv, 1) := by decide +kernel
theorem dX7_turn_11 : decode cX7_turn 11 = .ok (.if_icmp .ge 69, 3) := by decide +kernel
theorem dX7_turn_14 : decode cX7_turn 14 = .ok (.aload_n 0, 1) := by decide +kernel
theorem dX7_turn_15 : decode cX7_turn 15 = .ok (.getfield 19, 3) := by decide +kernel
theorem dX7_turn_18 : decode cX7_turn 18 = .ok (.iconst 3, 1) := by decide +kernel
theorem dX7_turn_19 : decode cX7_turn 19 = .ok (.iload_n 1, 1) := by decide +kernel
theorem dX7_turn_20 : decode cX7_turn 20 = .ok (.imul, 1) := by decide +kernel
theorem dX7_turn_21 : decode cX7_turn 21 = .ok (.iload_n 2, 1) := by decide +kernel
theorem dX7_turn_22 : decode cX7_turn 22 = .ok (.iadd, 1) := by decide +kernel
theorem dX7_turn_23 : decode cX7_turn 23 = .ok (.laload, 1) := by decide +kernel
theorem dX7_turn_24 : decode cX7_turn 24 = .ok (.lstore_n 3, 1) := by decide +kernel
theorem dX7_turn_25 : decode cX7_turn 25 = .ok (.aload_n 0, 1) := by decide +kernel
theorem dX7_turn_26 : decode cX7_turn 26 = .ok (.getfield 19, 3) := by decide +kernel
theorem dX7_turn_29 : decode cX7_turn 29 = .ok (.iconst 3, 1) := by decide +kernel
theorem dX7_turn_30 : decode cX7_turn 30 = .ok (.iload_n 1, 1) := by decide +kernel
theorem dX7_turn_31 : decode cX7_turn 31 = .ok (.imul, 1) := by decide +kernel
theorem dX7_turn_32 : decode cX7_turn 32 = .ok (.iload_n 2, 1) := by decide +kernel
theorem dX7_turn_33 : decode cX7_turn 33 = .ok (.iadd, 1) := by decide +kernel
theorem dX7_turn_34 : decode cX7_turn 34 = .ok (.aload_n 0, 1) := by decide +kernel
theorem dX7_turn_35 : decode cX7_turn 35 = .ok (.getfield 19, 3) := by decide +kernel
theorem dX7_turn_38 : decode cX7_turn 38 = .ok (.iconst 3, 1) := by decide +kernel
theorem dX7_turn_39 : decode cX7_turn 39 = .ok (.iload_n 1, 1) := by decide +kernel
theorem dX7_turn_40 : decode cX7_turn 40 = .ok (.imul, 1) := by decide +kernel
theorem dX7_turn_41 : decode cX7_turn 41 = .ok (.aload_n 0, 1) := by decide +kernel
theorem dX7_turn_42 : decode cX7_turn 42 = .ok (.getfield 13, 3) := by decide +kernel
theorem dX7_turn_45 : decode cX7_turn 45 = .ok (.iload_n 1, 1) := by decide +kernel
theorem dX7_turn_46 : decode cX7_turn 46 = .ok (.iaload, 1) := by decide +kernel
theorem dX7_turn_47 : decode cX7_turn 47 = .ok (.iadd, 1) := by decide +kernel
theorem dX7_turn_48 : decode cX7_turn 48 = .ok (.iconst 1, 1) := by decide +kernel
theorem dX7_turn_49 : decode cX7_turn 49 = .ok (.isub, 1) := by decide +kernel
theorem dX7_turn_50 : decode cX7_turn 50 = .ok (.iload_n 2, 1) := by decide +kernel
theorem dX7_turn_51 : decode cX7_turn 51 = .ok (.isub, 1) := by decide +kernel
theorem dX7_turn_52 : decode cX7_turn 52 = .ok (.laload, 1) := by decide +kernel
theorem dX7_turn_53 : decode cX7_turn 53 = .ok (.lastore, 1) := by decide +kernel
theorem dX7_turn_54 : decode cX7_turn 54 = .ok (.aload_n 0, 1) := by decide +kernel
theorem dX7_turn_55 : decode cX7_turn 55 = .ok (.getfield 19, 3) := by decide +kernel
theorem dX7_turn_58 : decode cX7_turn 58 = .ok (.iconst 3, 1) := by decide +kernel
theorem dX7_turn_59 : decode cX7_turn 59 = .ok (.iload_n 1, 1) := by decide +kernel
theorem dX7_turn_60 : decode cX7_turn 60 = .ok (.imul, 1) := by decide +kernel
theorem dX7_turn_61 : decode cX7_turn 61 = .ok (.aload_n 0, 1) := by decide +kernel
theorem dX7_turn_62 : decode cX7_turn 62 = .ok (.getfield 13, 3) := by decide +kernel
theorem dX7_turn_65 : decode cX7_turn 65 = .ok (.iload_n 1, 1) := by decide +kernel
theorem dX7_turn_66 : decode cX7_turn 66 = .ok (.iaload, 1) := by decide +kernel
theorem dX7_turn_67 : decode cX7_turn 67 = .ok (.iadd, 1) := by decide +kernel
theorem dX7_turn_68 : decode cX7_turn 68 = .ok (.iconst 1, 1) := by decide +kernel
theorem dX7_turn_69 : decode cX7_turn 69 = .ok (.isub, 1) := by decide +kernel
theorem dX7_turn_70 : decode cX7_turn 70 = .ok (.iload_n 2, 1) := by decide +kernel
theorem dX7_turn_71 : decode cX7_turn 71 = .ok (.isub, 1) := by decide +kernel
theorem dX7_turn_72 : decode cX7_turn 72 = .ok (.lload_n 3, 1) := by decide +kernel
theorem dX7_turn_73 : decode cX7_turn 73 = .ok (.lastore, 1) := by decide +kernel
theorem dX7_turn_74 : decode cX7_turn 74 = .ok (.iinc 2 1, 3) := by decide +kernel
theorem dX7_turn_77 : decode cX7_turn 77 = .ok (.goto (-75), 3) := by decide +kernel
theorem dX7_turn_80 : decode cX7_turn 80 = .ok (.return_, 1) := by decide +kernel
theorem dX7_stampLow_0 : decode cX7_stampLow 0 = .ok (.aload_n 0, 1) := by decide +kernel
theorem dX7_stampLow_1 : decode cX7_stampLow 1 = .ok (.getfield 16, 3) := by decide +kernel
theorem dX7_stampLow_4 : decode cX7_stampLow 4 = .ok (.iload_n 1, 1) := by decide +kernel
theorem dX7_stampLow_5 : decode cX7_stampLow 5 = .ok (.dup2, 1) := by decide +kernel
theorem dX7_stampLow_6 : decode cX7_stampLow 6 = .ok (.iaload, 1) := by decide +kernel
theorem dX7_stampLow_7 : decode cX7_stampLow 7 = .ok (.aload_n 0, 1) := by decide +kernel
theorem dX7_stampLow_8 : decode cX7_stampLow 8 = .ok (.getfield 7, 3) := by decide +kernel
theorem dX7_stampLow_11 : decode cX7_stampLow 11 = .ok (.iload_n 1, 1) := by decide +kernel
theorem dX7_stampLow_12 : decode cX7_stampLow 12 = .ok (.iaload, 1) := by decide +kernel
theorem dX7_stampLow_13 : decode cX7_stampLow 13 = .ok (.bipush 6, 2) := by decide +kernel
theorem dX7_stampLow_15 : decode cX7_stampLow 15 = .ok (.if_icmp .ne 7, 3) := by decide +kernel
theorem dX7_stampLow_18 : decode cX7_stampLow 18 = .ok (.iconst 2, 1) := by decide +kernel
theorem dX7_stampLow_19 : decode cX7_stampLow 19 = .ok (.goto 20, 3) := by decide +kernel
theorem dX7_stampLow_22 : decode cX7_stampLow 22 = .ok (.aload_n 0, 1) := by decide +kernel
theorem dX7_stampLow_23 : decode cX7_stampLow 23 = .ok (.getfield 7, 3) := by decide +kernel
theorem dX7_stampLow_26 : decode cX7_stampLow 26 = .ok (.iload_n 1, 1) := by decide +kernel
theorem dX7_stampLow_27 : decode cX7_stampLow 27 = .ok (.iaload, 1) := by decide +kernel
theorem dX7_stampLow_28 : decode cX7_stampLow 28 = .ok (.invokestatic 89, 3) := by decide +kernel
theorem dX7_stampLow_31 : decode cX7_stampLow 31 = .ok (.ifCond .eq 7, 3) := by decide +kernel
theorem dX7_stampLow_34 : decode cX7_stampLow 34 = .ok (.iconst 1, 1) := by decide +kernel
theorem dX7_stampLow_35 : decode cX7_stampLow 35 = .ok (.goto 4, 3) := by decide +kernel
theorem dX7_stampLow_38 : decode cX7_stampLow 38 = .ok (.iconst 0, 1) := by decide +kernel
theorem dX7_stampLow_39 : decode cX7_stampLow 39 = .ok (.iadd, 1) := by decide +kernel
theorem dX7_stampLow_40 : decode cX7_stampLow 40 = .ok (.iastore, 1) := by decide +kernel
theorem dX7_stampLow_41 : decode cX7_stampLow 41 = .ok (.iconst 0, 1) := by decide +kernel
theorem dX7_stampLow_42 : decode cX7_stampLow 42 = .ok (.istore_n 2, 1) := by decide +kernel
theorem dX7_stampLow_43 : decode cX7_stampLow 43 = .ok (.iload_n 2, 1) := by decide +kernel
theorem dX7_stampLow_44 : decode cX7_stampLow 44 = .ok (.aload_n 0, 1) := by decide +kernel
theorem dX7_stampLow_45 : decode cX7_stampLow 45 = .ok (.getfield 13, 3) := by decide +kernel
theorem dX7_stampLow_48 : decode cX7_stampLow 48 = .ok (.iload_n 1, 1) := by decide +kernel
theorem dX7_stampLow_49 : decode cX7_stampLow 49 = .ok (.iaload, 1) := by decide +kernel
theorem dX7_stampLow_50 : decode cX7_stampLow 50 = .ok (.if_icmp .ge 70, 3) := by decide +kernel
theorem dX7_stampLow_53 : decode cX7_stampLow 53 = .ok (.aload_n 0, 1) := by decide +kernel
theorem dX7_stampLow_54 : decode cX7_stampLow 54 = .ok (.getfield 7, 3) := by decide +kernel
theorem dX7_stampLow_57 : decode cX7_stampLow 57 = .ok (.iload_n 1, 1) := by decide +kernel
theorem dX7_stampLow_58 : decode cX7_stampLow 58 = .ok (.iaload, 1) := by decide +kernel
theorem dX7_stampLow_59 : decode cX7_stampLow 59 = .ok (.invokestatic 107, 3) := by decide +kernel
theorem dX7_stampLow_62 : decode cX7_stampLow 62 = .ok (.ifCond .eq 58, 3) := by decide +kernel
theorem dX7_stampLow_65 : decode cX7_stampLow 65 = .ok (.aload_n 0, 1) := by decide +kernel
theorem dX7_stampLow_66 : decode cX7_stampLow 66 = .ok (.getfield 19, 3) := by decide +kernel
theorem dX7_stampLow_69 : decode cX7_stampLow 69 = .ok (.iconst 3, 1) := by decide +kernel
theorem dX7_stampLow_70 : decode cX7_stampLow 70 = .ok (.iload_n 1, 1) := by decide +kernel
theorem dX7_stampLow_71 : decode cX7_stampLow 71 = .ok (.imul, 1) := by decide +kernel
theorem dX7_stampLow_72 : decode cX7_stampLow 72 = .ok (.iload_n 2, 1) := by decide +kernel
theorem dX7_stampLow_73 : decode cX7_stampLow 73 = .ok (.iadd, 1) := by decide +kernel
theorem dX7_stampLow_74 : decode cX7_stampLow 74 = .ok (.laload, 1) := by decide +kernel
theorem dX7_stampLow_75 : decode cX7_stampLow 75 = .ok (.lstore_n 3, 1) := by decide +kernel
theorem dX7_stampLow_76 : decode cX7_stampLow 76 = .ok (.aload_n 0, 1) := by decide +kernel
theorem dX7_stampLow_77 : decode cX7_stampLow 77 = .ok (.getfield 19, 3) := by decide +kernel
theorem dX7_stampLow_80 : decode cX7_stampLow 80 = .ok (.iconst 3, 1) := by decide +kernel
theorem dX7_stampLow_81 : decode cX7_stampLow 81 = .ok (.iload_n 1, 1) := by decide +kernel
theorem dX7_stampLow_82 : decode cX7_stampLow 82 = .ok (.imul, 1) := by decide +kernel
theorem dX7_stampLow_83 : decode cX7_stampLow 83 = .ok (.iload_n 2, 1) := by decide +kernel
theorem dX7_stampLow_84 : decode cX7_stampLow 84 = .ok (.iadd, 1) := by decide +kernel
theorem dX7_stampLow_85 : decode cX7_stampLow 85 = .ok (.aload_n 0, 1) := by decide +kernel
theorem dX7_stampLow_86 : decode cX7_stampLow 86 = .ok (.getfield 7, 3) := by decide +kernel
theorem dX7_stampLow_89 : decode cX7_stampLow 89 = .ok (.iload_n 1, 1) := by decide +kernel
theorem dX7_stampLow_90 : decode cX7_stampLow 90 = .ok (.iaload, 1) := by decide +kernel
theorem dX7_stampLow_91 : decode cX7_stampLow 91 = .ok (.iconst 3, 1) := by decide +kernel
theorem dX7_stampLow_92 : decode cX7_stampLow 92 = .ok (.if_icmp .ne 9, 3) := by decide +kernel
theorem dX7_stampLow_95 : decode cX7_stampLow 95 = .ok (.lconst 1, 1) := by decide +kernel
theorem dX7_stampLow_96 : decode cX7_stampLow 96 = .ok (.lload_n 3, 1) := by decide +kernel
theorem dX7_stampLow_97 : decode cX7_stampLow 97 = .ok (.lsub, 1) := by decide +kernel
theorem dX7_stampLow_98 : decode cX7_stampLow 98 = .ok (.goto 15, 3) := by decide +kernel
theorem dX7_stampLow_101 : decode cX7_stampLow 101 = .ok (.aload_n 0, 1) := by decide +kernel
theorem dX7_stampLow_102 : decode cX7_stampLow 102 = .ok (.getfield 7, 3) := by decide +kernel
theorem dX7_stampLow_105 : decode cX7_stampLow 105 = .ok (.iload_n 1, 1) := by decide +kernel
theorem dX7_stampLow_106 : decode cX7_stampLow 106 = .ok (.iaload, 1) := by decide +kernel
theorem dX7_stampLow_107 : decode cX7_stampLow 107 = .ok (.lload_n 3, 1) := by decide +kernel
theorem dX7_stampLow_108 : decode cX7_stampLow 108 = .ok (.lconst 1, 1) := by decide +kernel
theorem dX7_stampLow_109 : decode cX7_stampLow 109 = .ok (.ladd, 1) := by decide +kernel
theorem dX7_stampLow_110 : decode cX7_stampLow 110 = .ok (.invokestatic 114, 3) := by decide +kernel
theorem dX7_stampLow_113 : decode cX7_stampLow 113 = .ok (.lastore, 1) := by decide +kernel
theorem dX7_stampLow_114 : decode cX7_stampLow 114 = .ok (.iinc 2 1, 3) := by decide +kernel
theorem dX7_stampLow_117 : decode cX7_stampLow 117 = .ok (.goto (-74), 3) := by decide +kernel
theorem dX7_stampLow_120 : decode cX7_stampLow 120 = .ok (.return_, 1) := by decide +kernel
theorem dX7_stampRow_0 : decode cX7_stampRow 0 = .ok (.aload_n 0, 1) := by decide +kernel
theorem dX7_stampRow_1 : decode cX7_stampRow 1 = .ok (.iload_n 1, 1) := by decide +kernel
theorem dX7_stampRow_2 : decode cX7_stampRow 2 = .ok (.invokevirtual 138, 3) := by decide +kernel
theorem dX7_stampRow_5 : decode cX7_stampRow 5 = .ok (.iconst 0, 1) := by decide +kernel
theorem dX7_stampRow_6 : decode cX7_stampRow 6 = .ok (.istore_n 2, 1) := by decide +kernel
theorem dX7_stampRow_7 : decode cX7_stampRow 7 = .ok (.iload_n 2, 1) := by decide +kernel
theorem dX7_stampRow_8 : decode cX7_stampRow 8 = .ok (.aload_n 0, 1) := by decide +kernel
theorem dX7_stampRow_9 : decode cX7_stampRow 9 = .ok (.getfield 13, 3) := by decide +kernel
theorem dX7_stampRow_12 : decode cX7_stampRow 12 = .ok (.iload_n 1, 1) := by decide +kernel
theorem dX7_stampRow_13 : decode cX7_stampRow 13 = .ok (.iaload, 1) := by decide +kernel
theorem dX7_stampRow_14 : decode cX7_stampRow 14 = .ok (.if_icmp .ge 53, 3) := by decide +kernel
theorem dX7_stampRow_17 : decode cX7_stampRow 17 = .ok (.aload_n 0, 1) := by decide +kernel
theorem dX7_stampRow_18 : decode cX7_stampRow 18 = .ok (.getfield 7, 3) := by decide +kernel
theorem dX7_stampRow_21 : decode cX7_stampRow 21 = .ok (.iload_n 1, 1) := by decide +kernel
theorem dX7_stampRow_22 : decode cX7_stampRow 22 = .ok (.iaload, 1) := by decide +kernel
theorem dX7_stampRow_23 : decode cX7_stampRow 23 = .ok (.invokestatic 97, 3) := by decide +kernel
theorem dX7_stampRow_26 : decode cX7_stampRow 26 = .ok (.ifCond .eq 41, 3) := by decide +kernel
theorem dX7_stampRow_29 : decode cX7_stampRow 29 = .ok (.aload_n 0, 1) := by decide +kernel
theorem dX7_stampRow_30 : decode cX7_stampRow 30 = .ok (.getfield 19, 3) := by decide +kernel
theorem dX7_stampRow_33 : decode cX7_stampRow 33 = .ok (.iconst 3, 1) := by decide +kernel
theorem dX7_stampRow_34 : decode cX7_stampRow 34 = .ok (.iload_n 1, 1) := by decide +kernel
theorem dX7_stampRow_35 : decode cX7_stampRow 35 = .ok (.imul, 1) := by decide +kernel
theorem dX7_stampRow_36 : decode cX7_stampRow 36 = .ok (.iload_n 2, 1) := by decide +kernel
theorem dX7_stampRow_37 : decode cX7_stampRow 37 = .ok (.iadd, 1) := by decide +kernel
theorem dX7_stampRow_38 : decode cX7_stampRow 38 = .ok (.laload, 1) := by decide +kernel
theorem dX7_stampRow_39 : decode cX7_stampRow 39 = .ok (.ldc2_w 100, 3) := by decide +kernel
theorem dX7_stampRow_42 : decode cX7_stampRow 42 = .ok (.lcmp, 1) := by decide +kernel
theorem dX7_stampRow_43 : decode cX7_stampRow 43 = .ok (.ifCond .eq 18, 3) := by decide +kernel
theorem dX7_stampRow_46 : decode cX7_stampRow 46 = .ok (.aload_n 0, 1) := by decide +kernel
theorem dX7_stampRow_47 : decode cX7_stampRow 47 = .ok (.aload_n 0, 1) := by decide +kernel
theorem dX7_stampRow_48 : decode cX7_stampRow 48 = .ok (.getfield 19, 3) := by decide +kernel
theorem dX7_stampRow_51 : decode cX7_stampRow 51 = .ok (.iconst 3, 1) := by decide +kernel
theorem dX7_stampRow_52 : decode cX7_stampRow 52 = .ok (.iload_n 1, 1) := by decide +kernel
theorem dX7_stampRow_53 : decode cX7_stampRow 53 = .ok (.imul, 1) := by decide +kernel
theorem dX7_stampRow_54 : decode cX7_stampRow 54 = .ok (.iload_n 2, 1) := by decide +kernel
theorem dX7_stampRow_55 : decode cX7_stampRow 55 = .ok (.iadd, 1) := by decide +kernel
theorem dX7_stampRow_56 : decode cX7_stampRow 56 = .ok (.laload, 1) := by decide +kernel
theorem dX7_stampRow_57 : decode cX7_stampRow 57 = .ok (.l2i, 1) := by decide +kernel
theorem dX7_stampRow_58 : decode cX7_stampRow 58 = .ok (.invokevirtual 138, 3) := by decide +kernel
theorem dX7_stampRow_61 : decode cX7_stampRow 61 = .ok (.iinc 2 1, 3) := by decide +kernel
theorem dX7_stampRow_64 : decode cX7_stampRow 64 = .ok (.goto (-57), 3) := by decide +kernel
theorem dX7_stampRow_67 : decode cX7_stampRow 67 = .ok (.return_, 1) := by decide +kernel
theorem dX7_stampAll_0 : decode cX7_stampAll 0 = .ok (.aload_n 0, 1) := by decide +kernel
theorem dX7_stampAll_1 : decode cX7_stampAll 1 = .ok (.getfield 7, 3) := by decide +kernel
theorem dX7_stampAll_4 : decode cX7_stampAll 4 = .ok (.iload_n 1, 1) := by decide +kernel
theorem dX7_stampAll_5 : decode cX7_stampAll 5 = .ok (.iaload, 1) := by decide +kernel
theorem dX7_stampAll_6 : decode cX7_stampAll 6 = .ok (.bipush 11, 2) := by decide +kernel
theorem dX7_stampAll_8 : decode cX7_stampAll 8 = .ok (.if_icmp .ge 9, 3) := by decide +kernel
theorem dX7_stampAll_11 : decode cX7_stampAll 11 = .ok (.aload_n 0, 1) := by decide +kernel
theorem dX7_stampAll_12 : decode cX7_stampAll 12 = .ok (.iload_n 1, 1) := by decide +kernel
theorem dX7_stampAll_13 : decode cX7_stampAll 13 = .ok (.invokevirtual 142, 3) := by decide +kernel
theorem dX7_stampAll_16 : decode cX7_stampAll 16 = .ok (.return_, 1) := by decide +kernel
theorem dX7_stampAll_17 : decode cX7_stampAll 17 = .ok (.iconst 0, 1) := by decide +kernel
theorem dX7_stampAll_18 : decode cX7_stampAll 18 = .ok (.istore_n 2, 1) := by decide +kernel
theorem dX7_stampAll_19 : decode cX7_stampAll 19 = .ok (.iload_n 2, 1) := by decide +kernel
theorem dX7_stampAll_20 : decode cX7_stampAll 20 = .ok (.aload_n 0, 1) := by decide +kernel
theorem dX7_stampAll_21 : decode cX7_stampAll 21 = .ok (.getfield 13, 3) := by decide +kernel
theorem dX7_stampAll_24 : decode cX7_stampAll 24 = .ok (.iload_n 1, 1) := by decide +kernel
theorem dX7_stampAll_25 : decode cX7_stampAll 25 = .ok (.iaload, 1) := by decide +kernel
theorem dX7_stampAll_26 : decode cX7_stampAll 26 = .ok (.if_icmp .ge 41, 3) := by decide +kernel
theorem dX7_stampAll_29 : decode cX7_stampAll 29 = .ok (.aload_n 0, 1) := by decide +kernel
theorem dX7_stampAll_30 : decode cX7_stampAll 30 = .ok (.getfield 19, 3) := by decide +kernel
theorem dX7_stampAll_33 : decode cX7_stampAll 33 = .ok (.iconst 3, 1) := by decide +kernel
theorem dX7_stampAll_34 : decode cX7_stampAll 34 = .ok (.iload_n 1, 1) := by decide +kernel
theorem dX7_stampAll_35 : decode cX7_stampAll 35 = .ok (.imul, 1) := by decide +kernel
theorem dX7_stampAll_36 : decode cX7_stampAll 36 = .ok (.iload_n 2, 1) := by decide +kernel
theorem dX7_stampAll_37 : decode cX7_stampAll 37 = .ok (.iadd, 1) := by decide +kernel
theorem dX7_stampAll_38 : decode cX7_stampAll 38 = .ok (.laload, 1) := by decide +kernel
theorem dX7_stampAll_39 : decode cX7_stampAll 39 = .ok (.ldc2_w 100, 3) := by decide +kernel
theorem dX7_stampAll_42 : decode cX7_stampAll 42 = .ok (.lcmp, 1) := by decide +kernel
theorem dX7_stampAll_43 : decode cX7_stampAll 43 = .ok (.ifCond .eq 18, 3) := by decide +kernel
theorem dX7_stampAll_46 : decode cX7_stampAll 46 = .ok (.aload_n 0, 1) := by decide +kernel
theorem dX7_stampAll_47 : decode cX7_stampAll 47 = .ok (.aload_n 0, 1) := by decide +kernel
theorem dX7_stampAll_48 : decode cX7_stampAll 48 = .ok (.getfield 19, 3) := by decide +kernel
theorem dX7_stampAll_51 : decode cX7_stampAll 51 = .ok (.iconst 3, 1) := by decide +kernel
theorem dX7_stampAll_52 : decode cX7_stampAll 52 = .ok (.iload_n 1, 1) := by decide +kernel
theorem dX7_stampAll_53 : decode cX7_stampAll 53 = .ok (.imul, 1) := by decide +kernel
theorem dX7_stampAll_54 : decode cX7_stampAll 54 = .ok (.iload_n 2, 1) := by decide +kernel
theorem dX7_stampAll_55 : decode cX7_stampAll 55 = .ok (.iadd, 1) := by decide +kernel
theorem dX7_stampAll_56 : decode cX7_stampAll 56 = .ok (.laload, 1) := by decide +kernel
theorem dX7_stampAll_57 : decode cX7_stampAll 57 = .ok (.l2i, 1) := by decide +kernel
theorem dX7_stampAll_58 : decode cX7_stampAll 58 = .ok (.invokevirtual 142, 3) := by decide +kernel
theorem dX7_stampAll_61 : decode cX7_stampAll 61 = .ok (.iinc 2 1, 3) := by decide +kernel
theorem dX7_stampAll_64 : decode cX7_stampAll 64 = .ok (.goto (-45), 3) := by decide +kernel
theorem dX7_stampAll_67 : decode cX7_stampAll 67 = .ok (.return_, 1) := by decide +kernel
theorem dX7_begin_0 : decode cX7_begin 0 = .ok (.aload_n 0, 1) := by decide +kernel
theorem dX7_begin_1 : decode cX7_begin 1 = .ok (.getfield 58, 3) := by decide +kernel
theorem dX7_begin_4 : decode cX7_begin 4 = .ok (.aload_n 0, 1) := by decide +kernel
theorem dX7_begin_5 : decode cX7_begin 5 = .ok (.getfield 145, 3) := by decide +kernel
theorem dX7_begin_8 : decode cX7_begin 8 = .ok (.iload_n 1, 1) := by decide +kernel
theorem dX7_begin_9 : decode cX7_begin 9 = .ok (.iastore, 1) := by decide +kernel
theorem dX7_begin_10 : decode cX7_begin 10 = .ok (.aload_n 0, 1) := by decide +kernel
theorem dX7_begin_11 : decode cX7_begin 11 = .ok (.getfield 61, 3) := by decide +kernel
theorem dX7_begin_14 : decode cX7_begin 14 = .ok (.aload_n 0, 1) := by decide +kernel
theorem dX7_begin_15 : decode cX7_begin 15 = .ok (.getfield 145, 3) := by decide +kernel
theorem dX7_begin_18 : decode cX7_begin 18 = .ok (.iload_n 2, 1) := by decide +kernel
theorem dX7_begin_19 : decode cX7_begin 19 = .ok (.iastore, 1) := by decide +kernel
theorem dX7_begin_20 : decode cX7_begin 20 = .ok (.aload_n 0, 1) := by decide +kernel
theorem dX7_begin_21 : decode cX7_begin 21 = .ok (.getfield 64, 3) := by decide +kernel
theorem dX7_begin_24 : decode cX7_begin 24 = .ok (.aload_n 0, 1) := by decide +kernel
theorem dX7_begin_25 : decode cX7_begin 25 = .ok (.getfield 145, 3) := by decide +kernel
theorem dX7_begin_28 : decode cX7_begin 28 = .ok (.iconst 0, 1) := by decide +kernel
theorem dX7_begin_29 : decode cX7_begin 29 = .ok (.iastore, 1) := by decide +kernel
theorem dX7_begin_30 : decode cX7_begin 30 = .ok (.aload_n 0, 1) := by decide +kernel
theorem dX7_begin_31 : decode cX7_begin 31 = .ok (.getfield 67, 3) := by decide +kernel
theorem dX7_begin_34 : decode cX7_begin 34 = .ok (.aload_n 0, 1) := by decide +kernel
theorem dX7_begin_35 : decode cX7_begin 35 = .ok (.getfield 145, 3) := by decide +kernel
theorem dX7_begin_38 : decode cX7_begin 38 = .ok (.iconst (-1), 1) := by decide +kernel
theorem dX7_begin_39 : decode cX7_begin 39 = .ok (.iastore, 1) := by decide +kernel
theorem dX7_begin_40 : decode cX7_begin 40 = .ok (.aload_n 0, 1) := by decide +kernel
theorem dX7_begin_41 : decode cX7_begin 41 = .ok (.dup, 1) := by decide +kernel
theorem dX7_begin_42 : decode cX7_begin 42 = .ok (.getfield 145, 3) := by decide +kernel
theorem dX7_begin_45 : decode cX7_begin 45 = .ok (.iconst 1, 1) := by decide +kernel
theorem dX7_begin_46 : decode cX7_begin 46 = .ok (.iadd, 1) := by decide +kernel
theorem dX7_begin_47 : decode cX7_begin 47 = .ok (.putfield 145, 3) := by decide +kernel
theorem dX7_begin_50 : decode cX7_begin 50 = .ok (.return_, 1) := by decide +kernel
theorem dX7_ends_0 : decode cX7_ends 0 = .ok (.aload_n 0, 1) := by decide +kernel
theorem dX7_ends_1 : decode cX7_ends 1 = .ok (.dup, 1) := by decide +kernel
theorem dX7_ends_2 : decode cX7_ends 2 = .ok (.getfield 145, 3) := by decide +kernel
theorem dX7_ends_5 : decode cX7_ends 5 = .ok (.iconst 1, 1) := by decide +kernel
theorem dX7_ends_6 : decode cX7_ends 6 = .ok (.isub, 1) := by decide +kernel
theorem dX7_ends_7 : decode cX7_ends 7 = .ok (.putfield 145, 3) := by decide +kernel
theorem dX7_ends_10 : decode cX7_ends 10 = .ok (.aload_n 0, 1) := by decide +kernel
theorem dX7_ends_11 : decode cX7_ends 11 = .ok (.aload_n 0, 1) := by decide +kernel
theorem dX7_ends_12 : decode cX7_ends 12 = .ok (.getfield 145, 3) := by decide +kernel
theorem dX7_ends_15 : decode cX7_ends 15 = .ok (.ifCond .ne 7, 3) := by decide +kernel
theorem dX7_ends_18 : decode cX7_ends 18 = .ok (.iload_n 1, 1) := by decide +kernel
theorem dX7_ends_19 : decode cX7_ends 19 = .ok (.goto 7, 3) := by decide +kernel
theorem dX7_ends_22 : decode cX7_ends 22 = .ok (.aload_n 0, 1) := by decide +kernel
theorem dX7_ends_23 : decode cX7_ends 23 = .ok (.getfield 54, 3) := by decide +kernel
theorem dX7_ends_26 : decode cX7_ends 26 = .ok (.putfield 54, 3) := by decide +kernel
theorem dX7_ends_29 : decode cX7_ends 29 = .ok (.return_, 1) := by decide +kernel
theorem dX7_split_0 : decode cX7_split 0 = .ok (.aload_n 0, 1) := by decide +kernel
theorem dX7_split_1 : decode cX7_split 1 = .ok (.getfield 58, 3) := by decide +kernel
theorem dX7_split_4 : decode cX7_split 4 = .ok (.iload_n 1, 1) := by decide +kernel
theorem dX7_split_5 : decode cX7_split 5 = .ok (.iaload, 1) := by decide +kernel
theorem dX7_split_6 : decode cX7_split 6 = .ok (.istore_n 2, 1) := by decide +kernel
theorem dX7_split_7 : decode cX7_split 7 = .ok (.aload_n 0, 1) := by decide +kernel
theorem dX7_split_8 : decode cX7_split 8 = .ok (.getfield 67, 3) := by decide +kernel
theorem dX7_split_11 : decode cX7_split 11 = .ok (.iload_n 1, 1) := by decide +kernel
theorem dX7_split_12 : decode cX7_split 12 = .ok (.iaload, 1) := by decide +kernel
theorem dX7_split_13 : decode cX7_split 13 = .ok (.istore_n 3, 1) := by decide +kernel
theorem dX7_split_14 : decode cX7_split 14 = .ok (.iload_n 3, 1) := by decide +kernel
theorem dX7_split_15 : decode cX7_split 15 = .ok (.aload_n 0, 1) := by decide +kernel
theorem dX7_split_16 : decode cX7_split 16 = .ok (.getfield 13, 3) := by decide +kernel
theorem dX7_split_19 : decode cX7_split 19 = .ok (.iload_n 2, 1) := by decide +kernel
theorem dX7_split_20 : decode cX7_split 20 = .ok (.iaload, 1) := by decide +kernel
theorem dX7_split_21 : decode cX7_split 21 = .ok (.if_icmp .ge 26, 3) := by decide +kernel
theorem dX7_split_24 : decode cX7_split 24 = .ok (.aload_n 0, 1) := by decide +kernel
theorem dX7_split_25 : decode cX7_split 25 = .ok (.getfield 19, 3) := by decide +kernel
theorem dX7_split_28 : decode cX7_split 28 = .ok (.iconst 3, 1) := by decide +kernel
theorem dX7_split_29 : decode cX7_split 29 = .ok (.iload_n 2, 1) := by decide +kernel
theorem dX7_split_30 : decode cX7_split 30 = .ok (.imul, 1) := by decide +kernel
theorem dX7_split_31 : decode cX7_split 31 = .ok (.iload_n 3, 1) := by decide +kernel
theorem dX7_split_32 : decode cX7_split 32 = .ok (.iadd, 1) := by decide +kernel
theorem dX7_split_33 : decode cX7_split 33 = .ok (.laload, 1) := by decide +kernel
theorem dX7_split_34 : decode cX7_split 34 = .ok (.ldc2_w 100, 3) := by decide +kernel
theorem dX7_split_37 : decode cX7_split 37 = .ok (.lcmp, 1) := by decide +kernel
theorem dX7_split_38 : decode cX7_split 38 = .ok (.ifCond .ne 9, 3) := by decide +kernel
theorem dX7_split_41 : decode cX7_split 41 = .ok (.iinc 3 1, 3) := by decide +kernel
theorem dX7_split_44 : decode cX7_split 44 = .ok (.goto (-30), 3) := by decide +kernel
theorem dX7_split_47 : decode cX7_split 47 = .ok (.iload_n 3, 1) := by decide +kernel
theorem dX7_split_48 : decode cX7_split 48 = .ok (.aload_n 0, 1) := by decide +kernel
theorem dX7_split_49 : decode cX7_split 49 = .ok (.getfield 13, 3) := by decide +kernel
theorem dX7_split_52 : decode cX7_split 52 = .ok (.iload_n 2, 1) := by decide +kernel
theorem dX7_split_53 : decode cX7_split 53 = .ok (.iaload, 1) := by decide +kernel
theorem dX7_split_54 : decode cX7_split 54 = .ok (.if_icmp .ge 38, 3) := by decide +kernel
theorem dX7_split_57 : decode cX7_split 57 = .ok (.aload_n 0, 1) := by decide +kernel
theorem dX7_split_58 : decode cX7_split 58 = .ok (.getfield 67, 3) := by decide +kernel
theorem dX7_split_61 : decode cX7_split 61 = .ok (.iload_n 1, 1) := by decide +kernel
theorem dX7_split_62 : decode cX7_split 62 = .ok (.iload_n 3, 1) := by decide +kernel
theorem dX7_split_63 : decode cX7_split 63 = .ok (.iconst 1, 1) := by decide +kernel
theorem dX7_split_64 : decode cX7_split 64 = .ok (.iadd, 1) := by decide +kernel
theorem dX7_split_65 : decode cX7_split 65 = .ok (.iastore, 1) := by decide +kernel
theorem dX7_split_66 : decode cX7_split 66 = .ok (.aload_n 0, 1) := by decide +kernel
theorem dX7_split_67 : decode cX7_split 67 = .ok (.aload_n 0, 1) := by decide +kernel
theorem dX7_split_68 : decode cX7_split 68 = .ok (.getfield 19, 3) := by decide +kernel
theorem dX7_split_71 : decode cX7_split 71 = .ok (.iconst 3, 1) := by decide +kernel
theorem dX7_split_72 : decode cX7_split 72 = .ok (.iload_n 2, 1) := by decide +kernel
theorem dX7_split_73 : decode cX7_split 73 = .ok (.imul, 1) := by decide +kernel
theorem dX7_split_74 : decode cX7_split 74 = .ok (.iload_n 3, 1) := by decide +kernel
theorem dX7_split_75 : decode cX7_split 75 = .ok (.iadd, 1) := by decide +kernel
theorem dX7_split_76 : decode cX7_split 76 = .ok (.laload, 1) := by decide +kernel
theorem dX7_split_77 : decode cX7_split 77 = .ok (.l2i, 1) := by decide +kernel
theorem dX7_split_78 : decode cX7_split 78 = .ok (.aload_n 0, 1) := by decide +kernel
theorem dX7_split_79 : decode cX7_split 79 = .ok (.getfield 61, 3) := by decide +kernel
theorem dX7_split_82 : decode cX7_split 82 = .ok (.iload_n 1, 1) := by decide +kernel
theorem dX7_split_83 : decode cX7_split 83 = .ok (.iaload, 1) := by decide +kernel
theorem dX7_split_84 : decode cX7_split 84 = .ok (.iconst 1, 1) := by decide +kernel
theorem dX7_split_85 : decode cX7_split 85 = .ok (.iadd, 1) := by decide +kernel
theorem dX7_split_86 : decode cX7_split 86 = .ok (.invokevirtual 148, 3) := by decide +kernel
theorem dX7_split_89 : decode cX7_split 89 = .ok (.goto 20, 3) := by decide +kernel
theorem dX7_split_92 : decode cX7_split 92 = .ok (.aload_n 0, 1) := by decide +kernel
theorem dX7_split_93 : decode cX7_split 93 = .ok (.getfield 67, 3) := by decide +kernel
theorem dX7_split_96 : decode cX7_split 96 = .ok (.iload_n 1, 1) := by decide +kernel
theorem dX7_split_97 : decode cX7_split 97 = .ok (.iconst (-1), 1) := by decide +kernel
theorem dX7_split_98 : decode cX7_split 98 = .ok (.iastore, 1) := by decide +kernel
theorem dX7_split_99 : decode cX7_split 99 = .ok (.aload_n 0, 1) := by decide +kernel
theorem dX7_split_100 : decode cX7_split 100 = .ok (.getfield 64, 3) := by decide +kernel
theorem dX7_split_103 : decode cX7_split 103 = .ok (.iload_n 1, 1) := by decide +kernel
theorem dX7_split_104 : decode cX7_split 104 = .ok (.dup2, 1) := by decide +kernel
theorem dX7_split_105 : decode cX7_split 105 = .ok (.iaload, 1) := by decide +kernel
theorem dX7_split_106 : decode cX7_split 106 = .ok (.iconst 1, 1) := by decide +kernel
theorem dX7_split_107 : decode cX7_split 107 = .ok (.iadd, 1) := by decide +kernel
theorem dX7_split_108 : decode cX7_split 108 = .ok (.iastore, 1) := by decide +kernel
theorem dX7_split_109 : decode cX7_split 109 = .ok (.return_, 1) := by decide +kernel
theorem dX7_work_0 : decode cX7_work 0 = .ok (.aload_n 0, 1) := by decide +kernel
theorem dX7_work_1 : decode cX7_work 1 = .ok (.getfield 58, 3) := by decide +kernel
theorem dX7_work_4 : decode cX7_work 4 = .ok (.iload_n 1, 1) := by decide +kernel
theorem dX7_work_5 : decode cX7_work 5 = .ok (.iaload, 1) := by decide +kernel
theorem dX7_work_6 : decode cX7_work 6 = .ok (.istore_n 3, 1) := by decide +kernel
theorem dX7_work_7 : decode cX7_work 7 = .ok (.aload_n 0, 1) := by decide +kernel
theorem dX7_work_8 : decode cX7_work 8 = .ok (.getfield 42, 3) := by decide +kernel
theorem dX7_work_11 : decode cX7_work 11 = .ok (.iload_n 2, 1) := by decide +kernel
theorem dX7_work_12 : decode cX7_work 12 = .ok (.dup2, 1) := by decide +kernel
theorem dX7_work_13 : decode cX7_work 13 = .ok (.iaload, 1) := by decide +kernel
theorem dX7_work_14 : decode cX7_work 14 = .ok (.iconst 1, 1) := by decide +kernel
theorem dX7_work_15 : decode cX7_work 15 = .ok (.iadd, 1) := by decide +kernel
theorem dX7_work_16 : decode cX7_work 16 = .ok (.iastore, 1) := by decide +kernel
theorem dX7_work_17 : decode cX7_work 17 = .ok (.aload_n 0, 1) := by decide +kernel
theorem dX7_work_18 : decode cX7_work 18 = .ok (.dup, 1) := by decide +kernel
theorem dX7_work_19 : decode cX7_work 19 = .ok (.getfield 152, 3) := by decide +kernel
theorem dX7_work_22 : decode cX7_work 22 = .ok (.iconst 1, 1) := by decide +kernel
theorem dX7_work_23 : decode cX7_work 23 = .ok (.iadd, 1) := by decide +kernel
theorem dX7_work_24 : decode cX7_work 24 = .ok (.putfield 152, 3) := by decide +kernel
theorem dX7_work_27 : decode cX7_work 27 = .ok (.aload_n 0, 1) := by decide +kernel
theorem dX7_work_28 : decode cX7_work 28 = .ok (.getfield 29, 3) := by decide +kernel
theorem dX7_work_31 : decode cX7_work 31 = .ok (.iload_n 2, 1) := by decide +kernel
theorem dX7_work_32 : decode cX7_work 32 = .ok (.iaload, 1) := by decide +kernel
theorem dX7_work_33 : decode cX7_work 33 = .ok (.tableswitch 112 0 3 #[31, 65, 73, 81], 31) := by decide +kernel
theorem dX7_work_64 : decode cX7_work 64 = .ok (.aload_n 0, 1) := by decide +kernel
theorem dX7_work_65 : decode cX7_work 65 = .ok (.getfield 36, 3) := by decide +kernel
theorem dX7_work_68 : decode cX7_work 68 = .ok (.iload_n 2, 1) := by decide +kernel
theorem dX7_work_69 : decode cX7_work 69 = .ok (.dup2, 1) := by decide +kernel
theorem dX7_work_70 : decode cX7_work 70 = .ok (.iaload, 1) := by decide +kernel
theorem dX7_work_71 : decode cX7_work 71 = .ok (.aload_n 0, 1) := by decide +kernel
theorem dX7_work_72 : decode cX7_work 72 = .ok (.getfield 7, 3) := by decide +kernel
theorem dX7_work_75 : decode cX7_work 75 = .ok (.iload_n 3, 1) := by decide +kernel
theorem dX7_work_76 : decode cX7_work 76 = .ok (.iaload, 1) := by decide +kernel
theorem dX7_work_77 : decode cX7_work 77 = .ok (.invokestatic 89, 3) := by decide +kernel
theorem dX7_work_80 : decode cX7_work 80 = .ok (.ifCond .eq 7, 3) := by decide +kernel
theorem dX7_work_83 : decode cX7_work 83 = .ok (.iconst 1, 1) := by decide +kernel
theorem dX7_work_84 : decode cX7_work 84 = .ok (.goto 9, 3) := by decide +kernel
theorem dX7_work_87 : decode cX7_work 87 = .ok (.aload_n 0, 1) := by decide +kernel
theorem dX7_work_88 : decode cX7_work 88 = .ok (.getfield 13, 3) := by decide +kernel
theorem dX7_work_91 : decode cX7_work 91 = .ok (.iload_n 3, 1) := by decide +kernel
theorem dX7_work_92 : decode cX7_work 92 = .ok (.iaload, 1) := by decide +kernel
theorem dX7_work_93 : decode cX7_work 93 = .ok (.iadd, 1) := by decide +kernel
theorem dX7_work_94 : decode cX7_work 94 = .ok (.iastore, 1) := by decide +kernel
theorem dX7_work_95 : decode cX7_work 95 = .ok (.goto 85, 3) := by decide +kernel
theorem dX7_work_98 : decode cX7_work 98 = .ok (.aload_n 0, 1) := by decide +kernel
theorem dX7_work_99 : decode cX7_work 99 = .ok (.iload_n 3, 1) := by decide +kernel
theorem dX7_work_100 : decode cX7_work 100 = .ok (.invokevirtual 155, 3) := by decide +kernel
theorem dX7_work_103 : decode cX7_work 103 = .ok (.goto 77, 3) := by decide +kernel
theorem dX7_work_106 : decode cX7_work 106 = .ok (.aload_n 0, 1) := by decide +kernel
theorem dX7_work_107 : decode cX7_work 107 = .ok (.iload_n 3, 1) := by decide +kernel
theorem dX7_work_108 : decode cX7_work 108 = .ok (.invokevirtual 158, 3) := by decide +kernel
theorem dX7_work_111 : decode cX7_work 111 = .ok (.goto 69, 3) := by decide +kernel
theorem dX7_work_114 : decode cX7_work 114 = .ok (.aload_n 0, 1) := by decide +kernel
theorem dX7_work_115 : decode cX7_work 115 = .ok (.getfield 7, 3) := by decide +kernel
theorem dX7_work_118 : decode cX7_work 118 = .ok (.iload_n 3, 1) := by decide +kernel
theorem dX7_work_119 : decode cX7_work 119 = .ok (.iaload, 1) := by decide +kernel
theorem dX7_work_120 : decode cX7_work 120 = .ok (.invokestatic 97, 3) := by decide +kernel
theorem dX7_work_123 : decode cX7_work 123 = .ok (.ifCond .eq 57, 3) := by decide +kernel
theorem dX7_work_126 : decode cX7_work 126 = .ok (.aload_n 0, 1) := by decide +kernel
theorem dX7_work_127 : decode cX7_work 127 = .ok (.getfield 61, 3) := by decide +kernel
theorem dX7_work_130 : decode cX7_work 130 = .ok (.iload_n 1, 1) := by decide +kernel
theorem dX7_work_131 : decode cX7_work 131 = .ok (.iaload, 1) := by decide +kernel
theorem dX7_work_132 : decode cX7_work 132 = .ok (.bipush 7, 2) := by decide +kernel
theorem dX7_work_134 : decode cX7_work 134 = .ok (.if_icmp .ge 46, 3) := by decide +kernel
theorem dX7_work_137 : decode cX7_work 137 = .ok (.aload_n 0, 1) := by decide +kernel
theorem dX7_work_138 : decode cX7_work 138 = .ok (.getfield 67, 3) := by decide +kernel
theorem dX7_work_141 : decode cX7_work 141 = .ok (.iload_n 1, 1) := by decide +kernel
theorem dX7_work_142 : decode cX7_work 142 = .ok (.iconst 0, 1) := by decide +kernel
theorem dX7_work_143 : decode cX7_work 143 = .ok (.iastore, 1) := by decide +kernel
theorem dX7_work_144 : decode cX7_work 144 = .ok (.return_, 1) := by decide +kernel
theorem dX7_work_145 : decode cX7_work 145 = .ok (.aload_n 0, 1) := by decide +kernel
theorem dX7_work_146 : decode cX7_work 146 = .ok (.getfield 39, 3) := by decide +kernel
theorem dX7_work_149 : decode cX7_work 149 = .ok (.iload_n 2, 1) := by decide +kernel
theorem dX7_work_150 : decode cX7_work 150 = .ok (.iaload, 1) := by decide +kernel
theorem dX7_work_151 : decode cX7_work 151 = .ok (.istore 4, 2) := by decide +kernel
theorem dX7_work_153 : decode cX7_work 153 = .ok (.aload_n 0, 1) := by decide +kernel
theorem dX7_work_154 : decode cX7_work 154 = .ok (.getfield 39, 3) := by decide +kernel
theorem dX7_work_157 : decode cX7_work 157 = .ok (.iload_n 2, 1) := by decide +kernel
theorem dX7_work_158 : decode cX7_work 158 = .ok (.iload_n 3, 1) := by decide +kernel
theorem dX7_work_159 : decode cX7_work 159 = .ok (.iastore, 1) := by decide +kernel
theorem dX7_work_160 : decode cX7_work 160 = .ok (.iload 4, 2) := by decide +kernel
theorem dX7_work_162 : decode cX7_work 162 = .ok (.iconst (-1), 1) := by decide +kernel
theorem dX7_work_163 : decode cX7_work 163 = .ok (.if_icmp .ne 9, 3) := by decide +kernel
theorem dX7_work_166 : decode cX7_work 166 = .ok (.aload_n 0, 1) := by decide +kernel
theorem dX7_work_167 : decode cX7_work 167 = .ok (.iconst (-1), 1) := by decide +kernel
theorem dX7_work_168 : decode cX7_work 168 = .ok (.invokevirtual 161, 3) := by decide +kernel
theorem dX7_work_171 : decode cX7_work 171 = .ok (.return_, 1) := by decide +kernel
theorem dX7_work_172 : decode cX7_work 172 = .ok (.aload_n 0, 1) := by decide +kernel
theorem dX7_work_173 : decode cX7_work 173 = .ok (.getfield 58, 3) := by decide +kernel
theorem dX7_work_176 : decode cX7_work 176 = .ok (.iload_n 1, 1) := by decide +kernel
