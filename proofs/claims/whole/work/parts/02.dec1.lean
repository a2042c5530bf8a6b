theorem dX6_hand_11 : decode cX6_hand 11 = .ok (.iload_n 2, 1) := by decide +kernel
theorem dX6_hand_12 : decode cX6_hand 12 = .ok (.invokevirtual 112, 3) := by decide +kernel
theorem dX6_hand_15 : decode cX6_hand 15 = .ok (.ifnonnull 10, 3) := by decide +kernel
theorem dX6_hand_18 : decode cX6_hand 18 = .ok (.aload_n 0, 1) := by decide +kernel
theorem dX6_hand_19 : decode cX6_hand 19 = .ok (.bipush (-2), 2) := by decide +kernel
theorem dX6_hand_21 : decode cX6_hand 21 = .ok (.invokevirtual 50, 3) := by decide +kernel
theorem dX6_hand_24 : decode cX6_hand 24 = .ok (.ireturn, 1) := by decide +kernel
theorem dX6_hand_25 : decode cX6_hand 25 = .ok (.aload_n 0, 1) := by decide +kernel
theorem dX6_hand_26 : decode cX6_hand 26 = .ok (.dup, 1) := by decide +kernel
theorem dX6_hand_27 : decode cX6_hand 27 = .ok (.getfield 25, 3) := by decide +kernel
theorem dX6_hand_30 : decode cX6_hand 30 = .ok (.iconst 1, 1) := by decide +kernel
theorem dX6_hand_31 : decode cX6_hand 31 = .ok (.iadd, 1) := by decide +kernel
theorem dX6_hand_32 : decode cX6_hand 32 = .ok (.putfield 25, 3) := by decide +kernel
theorem dX6_hand_35 : decode cX6_hand 35 = .ok (.aload_n 0, 1) := by decide +kernel
theorem dX6_hand_36 : decode cX6_hand 36 = .ok (.iconst 0, 1) := by decide +kernel
theorem dX6_hand_37 : decode cX6_hand 37 = .ok (.putfield 28, 3) := by decide +kernel
theorem dX6_hand_40 : decode cX6_hand 40 = .ok (.aload_n 0, 1) := by decide +kernel
theorem dX6_hand_41 : decode cX6_hand 41 = .ok (.aload_n 0, 1) := by decide +kernel
theorem dX6_hand_42 : decode cX6_hand 42 = .ok (.aload_n 3, 1) := by decide +kernel
theorem dX6_hand_43 : decode cX6_hand 43 = .ok (.iload_n 2, 1) := by decide +kernel
theorem dX6_hand_44 : decode cX6_hand 44 = .ok (.invokevirtual 145, 3) := by decide +kernel
theorem dX6_hand_47 : decode cX6_hand 47 = .ok (.invokestatic 97, 3) := by decide +kernel
theorem dX6_hand_50 : decode cX6_hand 50 = .ok (.putfield 31, 3) := by decide +kernel
theorem dX6_hand_53 : decode cX6_hand 53 = .ok (.aload_n 0, 1) := by decide +kernel
theorem dX6_hand_54 : decode cX6_hand 54 = .ok (.aload_n 0, 1) := by decide +kernel
theorem dX6_hand_55 : decode cX6_hand 55 = .ok (.getfield 28, 3) := by decide +kernel
theorem dX6_hand_58 : decode cX6_hand 58 = .ok (.invokevirtual 62, 3) := by decide +kernel
theorem dX6_hand_61 : decode cX6_hand 61 = .ok (.ireturn, 1) := by decide +kernel
theorem dX6_out_0 : decode cX6_out 0 = .ok (.aload_n 0, 1) := by decide +kernel
theorem dX6_out_1 : decode cX6_out 1 = .ok (.getfield 31, 3) := by decide +kernel
theorem dX6_out_4 : decode cX6_out 4 = .ok (.ireturn, 1) := by decide +kernel
theorem dX6_told_0 : decode cX6_told 0 = .ok (.aload_n 0, 1) := by decide +kernel
theorem dX6_told_1 : decode cX6_told 1 = .ok (.iload_n 1, 1) := by decide +kernel
theorem dX6_told_2 : decode cX6_told 2 = .ok (.iload_n 2, 1) := by decide +kernel
theorem dX6_told_3 : decode cX6_told 3 = .ok (.invokevirtual 131, 3) := by decide +kernel
theorem dX6_told_6 : decode cX6_told 6 = .ok (.astore 4, 2) := by decide +kernel
theorem dX6_told_8 : decode cX6_told 8 = .ok (.aload 4, 2) := by decide +kernel
theorem dX6_told_10 : decode cX6_told 10 = .ok (.ifnonnull 6, 3) := by decide +kernel
theorem dX6_told_13 : decode cX6_told 13 = .ok (.bipush (-2), 2) := by decide +kernel
theorem dX6_told_15 : decode cX6_told 15 = .ok (.ireturn, 1) := by decide +kernel
theorem dX6_told_16 : decode cX6_told 16 = .ok (.iload_n 3, 1) := by decide +kernel
theorem dX6_told_17 : decode cX6_told 17 = .ok (.tableswitch 71 0 4 #[35, 41, 50, 56, 62], 35) := by decide +kernel
theorem dX6_told_52 : decode cX6_told 52 = .ok (.aload 4, 2) := by decide +kernel
theorem dX6_told_54 : decode cX6_told 54 = .ok (.getfield 149, 3) := by decide +kernel
theorem dX6_told_57 : decode cX6_told 57 = .ok (.ireturn, 1) := by decide +kernel
theorem dX6_told_58 : decode cX6_told 58 = .ok (.aload 4, 2) := by decide +kernel
theorem dX6_told_60 : decode cX6_told 60 = .ok (.getfield 152, 3) := by decide +kernel
theorem dX6_told_63 : decode cX6_told 63 = .ok (.invokestatic 97, 3) := by decide +kernel
theorem dX6_told_66 : decode cX6_told 66 = .ok (.ireturn, 1) := by decide +kernel
theorem dX6_told_67 : decode cX6_told 67 = .ok (.aload 4, 2) := by decide +kernel
theorem dX6_told_69 : decode cX6_told 69 = .ok (.getfield 156, 3) := by decide +kernel
theorem dX6_told_72 : decode cX6_told 72 = .ok (.ireturn, 1) := by decide +kernel
theorem dX6_told_73 : decode cX6_told 73 = .ok (.aload 4, 2) := by decide +kernel
theorem dX6_told_75 : decode cX6_told 75 = .ok (.getfield 159, 3) := by decide +kernel
theorem dX6_told_78 : decode cX6_told 78 = .ok (.ireturn, 1) := by decide +kernel
theorem dX6_told_79 : decode cX6_told 79 = .ok (.aload 4, 2) := by decide +kernel
theorem dX6_told_81 : decode cX6_told 81 = .ok (.getfield 162, 3) := by decide +kernel
theorem dX6_told_84 : decode cX6_told 84 = .ok (.invokestatic 97, 3) := by decide +kernel
theorem dX6_told_87 : decode cX6_told 87 = .ok (.ireturn, 1) := by decide +kernel
theorem dX6_told_88 : decode cX6_told 88 = .ok (.bipush (-2), 2) := by decide +kernel
theorem dX6_told_90 : decode cX6_told 90 = .ok (.ireturn, 1) := by decide +kernel
theorem dX6_count_0 : decode cX6_count 0 = .ok (.iload_n 1, 1) := by decide +kernel
theorem dX6_count_1 : decode cX6_count 1 = .ok (.tableswitch 60 0 4 #[35, 40, 45, 50, 55], 35) := by decide +kernel
theorem dX6_count_36 : decode cX6_count 36 = .ok (.aload_n 0, 1) := by decide +kernel
theorem dX6_count_37 : decode cX6_count 37 = .ok (.getfield 21, 3) := by decide +kernel
theorem dX6_count_40 : decode cX6_count 40 = .ok (.ireturn, 1) := by decide +kernel
theorem dX6_count_41 : decode cX6_count 41 = .ok (.aload_n 0, 1) := by decide +kernel
theorem dX6_count_42 : decode cX6_count 42 = .ok (.getfield 37, 3) := by decide +kernel
theorem dX6_count_45 : decode cX6_count 45 = .ok (.ireturn, 1) := by decide +kernel
theorem dX6_count_46 : decode cX6_count 46 = .ok (.aload_n 0, 1) := by decide +kernel
theorem dX6_count_47 : decode cX6_count 47 = .ok (.getfield 40, 3) := by decide +kernel
theorem dX6_count_50 : decode cX6_count 50 = .ok (.ireturn, 1) := by decide +kernel
theorem dX6_count_51 : decode cX6_count 51 = .ok (.aload_n 0, 1) := by decide +kernel
theorem dX6_count_52 : decode cX6_count 52 = .ok (.getfield 43, 3) := by decide +kernel
theorem dX6_count_55 : decode cX6_count 55 = .ok (.ireturn, 1) := by decide +kernel
theorem dX6_count_56 : decode cX6_count 56 = .ok (.aload_n 0, 1) := by decide +kernel
theorem dX6_count_57 : decode cX6_count 57 = .ok (.getfield 46, 3) := by decide +kernel
theorem dX6_count_60 : decode cX6_count 60 = .ok (.ireturn, 1) := by decide +kernel
theorem dX6_count_61 : decode cX6_count 61 = .ok (.bipush (-2), 2) := by decide +kernel
theorem dX6_count_63 : decode cX6_count 63 = .ok (.ireturn, 1) := by decide +kernel
theorem dX6_refused_0 : decode cX6_refused 0 = .ok (.aload_n 0, 1) := by decide +kernel
theorem dX6_refused_1 : decode cX6_refused 1 = .ok (.getfield 34, 3) := by decide +kernel
theorem dX6_refused_4 : decode cX6_refused 4 = .ok (.ireturn, 1) := by decide +kernel
theorem dX6_accept_0 : decode cX6_accept 0 = .ok (.aload_n 0, 1) := by decide +kernel
theorem dX6_accept_1 : decode cX6_accept 1 = .ok (.iconst 0, 1) := by decide +kernel
theorem dX6_accept_2 : decode cX6_accept 2 = .ok (.putfield 34, 3) := by decide +kernel
theorem dX6_accept_5 : decode cX6_accept 5 = .ok (.iload_n 1, 1) := by decide +kernel
theorem dX6_accept_6 : decode cX6_accept 6 = .ok (.ireturn, 1) := by decide +kernel
theorem dX6_refuse_0 : decode cX6_refuse 0 = .ok (.aload_n 0, 1) := by decide +kernel
theorem dX6_refuse_1 : decode cX6_refuse 1 = .ok (.iload_n 1, 1) := by decide +kernel
theorem dX6_refuse_2 : decode cX6_refuse 2 = .ok (.putfield 34, 3) := by decide +kernel
theorem dX6_refuse_5 : decode cX6_refuse 5 = .ok (.iload_n 1, 1) := by decide +kernel
theorem dX6_refuse_6 : decode cX6_refuse 6 = .ok (.bipush (-4), 2) := by decide +kernel
theorem dX6_refuse_8 : decode cX6_refuse 8 = .ok (.if_icmp .ne 16, 3) := by decide +kernel
theorem dX6_refuse_11 : decode cX6_refuse 11 = .ok (.aload_n 0, 1) := by decide +kernel
theorem dX6_refuse_12 : decode cX6_refuse 12 = .ok (.dup, 1) := by decide +kernel
theorem dX6_refuse_13 : decode cX6_refuse 13 = .ok (.getfield 37, 3) := by decide +kernel
theorem dX6_refuse_16 : decode cX6_refuse 16 = .ok (.iconst 1, 1) := by decide +kernel
theorem dX6_refuse_17 : decode cX6_refuse 17 = .ok (.iadd, 1) := by decide +kernel
theorem dX6_refuse_18 : decode cX6_refuse 18 = .ok (.putfield 37, 3) := by decide +kernel
theorem dX6_refuse_21 : decode cX6_refuse 21 = .ok (.goto 38, 3) := by decide +kernel
theorem dX6_refuse_24 : decode cX6_refuse 24 = .ok (.iload_n 1, 1) := by decide +kernel
theorem dX6_refuse_25 : decode cX6_refuse 25 = .ok (.bipush (-5), 2) := by decide +kernel
theorem dX6_refuse_27 : decode cX6_refuse 27 = .ok (.if_icmp .ne 16, 3) := by decide +kernel
theorem dX6_refuse_30 : decode cX6_refuse 30 = .ok (.aload_n 0, 1) := by decide +kernel
theorem dX6_refuse_31 : decode cX6_refuse 31 = .ok (.dup, 1) := by decide +kernel
theorem dX6_refuse_32 : decode cX6_refuse 32 = .ok (.getfield 40, 3) := by decide +kernel
theorem dX6_refuse_35 : decode cX6_refuse 35 = .ok (.iconst 1, 1) := by decide +kernel
theorem dX6_refuse_36 : decode cX6_refuse 36 = .ok (.iadd, 1) := by decide +kernel
theorem dX6_refuse_37 : decode cX6_refuse 37 = .ok (.putfield 40, 3) := by decide +kernel
theorem dX6_refuse_40 : decode cX6_refuse 40 = .ok (.goto 19, 3) := by decide +kernel
theorem dX6_refuse_43 : decode cX6_refuse 43 = .ok (.iload_n 1, 1) := by decide +kernel
theorem dX6_refuse_44 : decode cX6_refuse 44 = .ok (.bipush (-6), 2) := by decide +kernel
theorem dX6_refuse_46 : decode cX6_refuse 46 = .ok (.if_icmp .ne 13, 3) := by decide +kernel
theorem dX6_refuse_49 : decode cX6_refuse 49 = .ok (.aload_n 0, 1) := by decide +kernel
theorem dX6_refuse_50 : decode cX6_refuse 50 = .ok (.dup, 1) := by decide +kernel
theorem dX6_refuse_51 : decode cX6_refuse 51 = .ok (.getfield 43, 3) := by decide +kernel
theorem dX6_refuse_54 : decode cX6_refuse 54 = .ok (.iconst 1, 1) := by decide +kernel
theorem dX6_refuse_55 : decode cX6_refuse 55 = .ok (.iadd, 1) := by decide +kernel
theorem dX6_refuse_56 : decode cX6_refuse 56 = .ok (.putfield 43, 3) := by decide +kernel
theorem dX6_refuse_59 : decode cX6_refuse 59 = .ok (.iload_n 1, 1) := by decide +kernel
theorem dX6_refuse_60 : decode cX6_refuse 60 = .ok (.ireturn, 1) := by decide +kernel
theorem dX6_numberRow_0 : decode cX6_numberRow 0 = .ok (.aload_n 0, 1) := by decide +kernel
theorem dX6_numberRow_1 : decode cX6_numberRow 1 = .ok (.iload_n 1, 1) := by decide +kernel
theorem dX6_numberRow_2 : decode cX6_numberRow 2 = .ok (.invokevirtual 78, 3) := by decide +kernel
theorem dX6_numberRow_5 : decode cX6_numberRow 5 = .ok (.astore_n 3, 1) := by decide +kernel
theorem dX6_numberRow_6 : decode cX6_numberRow 6 = .ok (.aload_n 3, 1) := by decide +kernel
theorem dX6_numberRow_7 : decode cX6_numberRow 7 = .ok (.instanceof 70, 3) := by decide +kernel
theorem dX6_numberRow_10 : decode cX6_numberRow 10 = .ok (.ifCond .eq 30, 3) := by decide +kernel
theorem dX6_numberRow_13 : decode cX6_numberRow 13 = .ok (.aload_n 3, 1) := by decide +kernel
theorem dX6_numberRow_14 : decode cX6_numberRow 14 = .ok (.checkcast 70, 3) := by decide +kernel
theorem dX6_numberRow_17 : decode cX6_numberRow 17 = .ok (.astore 4, 2) := by decide +kernel
theorem dX6_numberRow_19 : decode cX6_numberRow 19 = .ok (.aload 4, 2) := by decide +kernel
theorem dX6_numberRow_21 : decode cX6_numberRow 21 = .ok (.iload_n 2, 1) := by decide +kernel
theorem dX6_numberRow_22 : decode cX6_numberRow 22 = .ok (.invokevirtual 165, 3) := by decide +kernel
theorem dX6_numberRow_25 : decode cX6_numberRow 25 = .ok (.ifCond .eq 6, 3) := by decide +kernel
theorem dX6_numberRow_28 : decode cX6_numberRow 28 = .ok (.aload 4, 2) := by decide +kernel
theorem dX6_numberRow_30 : decode cX6_numberRow 30 = .ok (.areturn, 1) := by decide +kernel
theorem dX6_numberRow_31 : decode cX6_numberRow 31 = .ok (.aload_n 0, 1) := by decide +kernel
theorem dX6_numberRow_32 : decode cX6_numberRow 32 = .ok (.bipush (-5), 2) := by decide +kernel
theorem dX6_numberRow_34 : decode cX6_numberRow 34 = .ok (.invokevirtual 50, 3) := by decide +kernel
theorem dX6_numberRow_37 : decode cX6_numberRow 37 = .ok (.pop, 1) := by decide +kernel
theorem dX6_numberRow_38 : decode cX6_numberRow 38 = .ok (.aconst_null, 1) := by decide +kernel
theorem dX6_numberRow_39 : decode cX6_numberRow 39 = .ok (.areturn, 1) := by decide +kernel
theorem dX6_numberRow_40 : decode cX6_numberRow 40 = .ok (.aload_n 0, 1) := by decide +kernel
theorem dX6_numberRow_41 : decode cX6_numberRow 41 = .ok (.aload_n 3, 1) := by decide +kernel
theorem dX6_numberRow_42 : decode cX6_numberRow 42 = .ok (.ifnonnull 8, 3) := by decide +kernel
theorem dX6_numberRow_45 : decode cX6_numberRow 45 = .ok (.bipush (-2), 2) := by decide +kernel
theorem dX6_numberRow_47 : decode cX6_numberRow 47 = .ok (.goto 5, 3) := by decide +kernel
theorem dX6_numberRow_50 : decode cX6_numberRow 50 = .ok (.bipush (-4), 2) := by decide +kernel
theorem dX6_numberRow_52 : decode cX6_numberRow 52 = .ok (.invokevirtual 50, 3) := by decide +kernel
theorem dX6_numberRow_55 : decode cX6_numberRow 55 = .ok (.pop, 1) := by decide +kernel
theorem dX6_numberRow_56 : decode cX6_numberRow 56 = .ok (.aconst_null, 1) := by decide +kernel
theorem dX6_numberRow_57 : decode cX6_numberRow 57 = .ok (.areturn, 1) := by decide +kernel
theorem dX6_isForm_0 : decode cX6_isForm 0 = .ok (.iload_n 0, 1) := by decide +kernel
theorem dX6_isForm_1 : decode cX6_isForm 1 = .ok (.ifCond .lt 13, 3) := by decide +kernel
theorem dX6_isForm_4 : decode cX6_isForm 4 = .ok (.iload_n 0, 1) := by decide +kernel
theorem dX6_isForm_5 : decode cX6_isForm 5 = .ok (.bipush 13, 2) := by decide +kernel
theorem dX6_isForm_7 : decode cX6_isForm 7 = .ok (.if_icmp .gt 7, 3) := by decide +kernel
theorem dX6_isForm_10 : decode cX6_isForm 10 = .ok (.iconst 1, 1) := by decide +kernel
theorem dX6_isForm_11 : decode cX6_isForm 11 = .ok (.goto 4, 3) := by decide +kernel
theorem dX6_isForm_14 : decode cX6_isForm 14 = .ok (.iconst 0, 1) := by decide +kernel
theorem dX6_isForm_15 : decode cX6_isForm 15 = .ok (.ireturn, 1) := by decide +kernel
theorem dX6_isAct_0 : decode cX6_isAct 0 = .ok (.iload_n 0, 1) := by decide +kernel
theorem dX6_isAct_1 : decode cX6_isAct 1 = .ok (.ifCond .lt 12, 3) := by decide +kernel
theorem dX6_isAct_4 : decode cX6_isAct 4 = .ok (.iload_n 0, 1) := by decide +kernel
theorem dX6_isAct_5 : decode cX6_isAct 5 = .ok (.iconst 4, 1) := by decide +kernel
theorem dX6_isAct_6 : decode cX6_isAct 6 = .ok (.if_icmp .gt 7, 3) := by decide +kernel
theorem dX6_isAct_9 : decode cX6_isAct 9 = .ok (.iconst 1, 1) := by decide +kernel
theorem dX6_isAct_10 : decode cX6_isAct 10 = .ok (.goto 4, 3) := by decide +kernel
theorem dX6_isAct_13 : decode cX6_isAct 13 = .ok (.iconst 0, 1) := by decide +kernel
theorem dX6_isAct_14 : decode cX6_isAct 14 = .ok (.ireturn, 1) := by decide +kernel
theorem dX6_isPiece_0 : decode cX6_isPiece 0 = .ok (.iload_n 0, 1) := by decide +kernel
theorem dX6_isPiece_1 : decode cX6_isPiece 1 = .ok (.iconst 5, 1) := by decide +kernel
theorem dX6_isPiece_2 : decode cX6_isPiece 2 = .ok (.if_icmp .lt 13, 3) := by decide +kernel
theorem dX6_isPiece_5 : decode cX6_isPiece 5 = .ok (.iload_n 0, 1) := by decide +kernel
theorem dX6_isPiece_6 : decode cX6_isPiece 6 = .ok (.bipush 7, 2) := by decide +kernel
theorem dX6_isPiece_8 : decode cX6_isPiece 8 = .ok (.if_icmp .gt 7, 3) := by decide +kernel
theorem dX6_isPiece_11 : decode cX6_isPiece 11 = .ok (.iconst 1, 1) := by decide +kernel
theorem dX6_isPiece_12 : decode cX6_isPiece 12 = .ok (.goto 4, 3) := by decide +kernel
theorem dX6_isPiece_15 : decode cX6_isPiece 15 = .ok (.iconst 0, 1) := by decide +kernel
theorem dX6_isPiece_16 : decode cX6_isPiece 16 = .ok (.ireturn, 1) := by decide +kernel
theorem dX6_newItem_0 : decode cX6_newItem 0 = .ok (.iload_n 1, 1) := by decide +kernel
theorem dX6_newItem_1 : decode cX6_newItem 1 = .ok (.invokestatic 54, 3) := by decide +kernel
theorem dX6_newItem_4 : decode cX6_newItem 4 = .ok (.ifCond .eq 13, 3) := by decide +kernel
theorem dX6_newItem_7 : decode cX6_newItem 7 = .ok (.new 107, 3) := by decide +kernel
theorem dX6_newItem_10 : decode cX6_newItem 10 = .ok (.dup, 1) := by decide +kernel
theorem dX6_newItem_11 : decode cX6_newItem 11 = .ok (.iload_n 0, 1) := by decide +kernel
theorem dX6_newItem_12 : decode cX6_newItem 12 = .ok (.iload_n 1, 1) := by decide +kernel
theorem dX6_newItem_13 : decode cX6_newItem 13 = .ok (.invokespecial 166, 3) := by decide +kernel
theorem dX6_newItem_16 : decode cX6_newItem 16 = .ok (.areturn, 1) := by decide +kernel
theorem dX6_newItem_17 : decode cX6_newItem 17 = .ok (.iload_n 1, 1) := by decide +kernel
theorem dX6_newItem_18 : decode cX6_newItem 18 = .ok (.iconst 3, 1) := by decide +kernel
theorem dX6_newItem_19 : decode cX6_newItem 19 = .ok (.if_icmp .gt 16, 3) := by decide +kernel
theorem dX6_newItem_22 : decode cX6_newItem 22 = .ok (.new 70, 3) := by decide +kernel
theorem dX6_newItem_25 : decode cX6_newItem 25 = .ok (.dup, 1) := by decide +kernel
theorem dX6_newItem_26 : decode cX6_newItem 26 = .ok (.iload_n 0, 1) := by decide +kernel
theorem dX6_newItem_27 : decode cX6_newItem 27 = .ok (.iload_n 1, 1) := by decide +kernel
theorem dX6_newItem_28 : decode cX6_newItem 28 = .ok (.iload_n 2, 1) := by decide +kernel
theorem dX6_newItem_29 : decode cX6_newItem 29 = .ok (.invokespecial 168, 3) := by decide +kernel
theorem dX6_newItem_32 : decode cX6_newItem 32 = .ok (.goto 13, 3) := by decide +kernel
theorem dX6_newItem_35 : decode cX6_newItem 35 = .ok (.new 82, 3) := by decide +kernel
theorem dX6_newItem_38 : decode cX6_newItem 38 = .ok (.dup, 1) := by decide +kernel
theorem dX6_newItem_39 : decode cX6_newItem 39 = .ok (.iload_n 0, 1) := by decide +kernel
theorem dX6_newItem_40 : decode cX6_newItem 40 = .ok (.iload_n 1, 1) := by decide +kernel
theorem dX6_newItem_41 : decode cX6_newItem 41 = .ok (.iload_n 2, 1) := by decide +kernel
theorem dX6_newItem_42 : decode cX6_newItem 42 = .ok (.invokespecial 171, 3) := by decide +kernel
theorem dX6_newItem_45 : decode cX6_newItem 45 = .ok (.areturn, 1) := by decide +kernel
theorem dX6_findItem_0 : decode cX6_findItem 0 = .ok (.iload_n 1, 1) := by decide +kernel
theorem dX6_findItem_1 : decode cX6_findItem 1 = .ok (.ifCond .lt 18, 3) := by decide +kernel
theorem dX6_findItem_4 : decode cX6_findItem 4 = .ok (.iload_n 1, 1) := by decide +kernel
theorem dX6_findItem_5 : decode cX6_findItem 5 = .ok (.bipush 60, 2) := by decide +kernel
theorem dX6_findItem_7 : decode cX6_findItem 7 = .ok (.if_icmp .ge 12, 3) := by decide +kernel
theorem dX6_findItem_10 : decode cX6_findItem 10 = .ok (.aload_n 0, 1) := by decide +kernel
theorem dX6_findItem_11 : decode cX6_findItem 11 = .ok (.getfield 11, 3) := by decide +kernel
theorem dX6_findItem_14 : decode cX6_findItem 14 = .ok (.iload_n 1, 1) := by decide +kernel
theorem dX6_findItem_15 : decode cX6_findItem 15 = .ok (.aaload, 1) := by decide +kernel
theorem dX6_findItem_16 : decode cX6_findItem 16 = .ok (.goto 4, 3) := by decide +kernel
theorem dX6_findItem_19 : decode cX6_findItem 19 = .ok (.aconst_null, 1) := by decide +kernel
theorem dX6_findItem_20 : decode cX6_findItem 20 = .ok (.areturn, 1) := by decide +kernel
theorem dX6_findRoom_0 : decode cX6_findRoom 0 = .ok (.iload_n 1, 1) := by decide +kernel
theorem dX6_findRoom_1 : decode cX6_findRoom 1 = .ok (.ifCond .lt 18, 3) := by decide +kernel
theorem dX6_findRoom_4 : decode cX6_findRoom 4 = .ok (.iload_n 1, 1) := by decide +kernel
theorem dX6_findRoom_5 : decode cX6_findRoom 5 = .ok (.bipush 8, 2) := by decide +kernel
theorem dX6_findRoom_7 : decode cX6_findRoom 7 = .ok (.if_icmp .ge 12, 3) := by decide +kernel
theorem dX6_findRoom_10 : decode cX6_findRoom 10 = .ok (.aload_n 0, 1) := by decide +kernel
theorem dX6_findRoom_11 : decode cX6_findRoom 11 = .ok (.getfield 17, 3) := by decide +kernel
theorem dX6_findRoom_14 : decode cX6_findRoom 14 = .ok (.iload_n 1, 1) := by decide +kernel
theorem dX6_findRoom_15 : decode cX6_findRoom 15 = .ok (.aaload, 1) := by decide +kernel
theorem dX6_findRoom_16 : decode cX6_findRoom 16 = .ok (.goto 4, 3) := by decide +kernel
theorem dX6_findRoom_19 : decode cX6_findRoom 19 = .ok (.aconst_null, 1) := by decide +kernel
theorem dX6_findRoom_20 : decode cX6_findRoom 20 = .ok (.areturn, 1) := by decide +kernel
theorem dX6_findDesk_0 : decode cX6_findDesk 0 = .ok (.aload_n 0, 1) := by decide +kernel
theorem dX6_findDesk_1 : decode cX6_findDesk 1 = .ok (.iload_n 1, 1) := by decide +kernel
theorem dX6_findDesk_2 : decode cX6_findDesk 2 = .ok (.invokevirtual 112, 3) := by decide +kernel
theorem dX6_findDesk_5 : decode cX6_findDesk 5 = .ok (.astore_n 3, 1) := by decide +kernel
theorem dX6_findDesk_6 : decode cX6_findDesk 6 = .ok (.aload_n 3, 1) := by decide +kernel
theorem dX6_findDesk_7 : decode cX6_findDesk 7 = .ok (.ifnonnull 7, 3) := by decide +kernel
theorem dX6_findDesk_10 : decode cX6_findDesk 10 = .ok (.aconst_null, 1) := by decide +kernel
theorem dX6_findDesk_11 : decode cX6_findDesk 11 = .ok (.goto 8, 3) := by decide +kernel
theorem dX6_findDesk_14 : decode cX6_findDesk 14 = .ok (.aload_n 3, 1) := by decide +kernel
theorem dX6_findDesk_15 : decode cX6_findDesk 15 = .ok (.iload_n 2, 1) := by decide +kernel
theorem dX6_findDesk_16 : decode cX6_findDesk 16 = .ok (.invokevirtual 172, 3) := by decide +kernel
theorem dX6_findDesk_19 : decode cX6_findDesk 19 = .ok (.areturn, 1) := by decide +kernel
theorem dX6_numberOf_0 : decode cX6_numberOf 0 = .ok (.aload_n 0, 1) := by decide +kernel
theorem dX6_numberOf_1 : decode cX6_numberOf 1 = .ok (.ifnonnull 7, 3) := by decide +kernel
theorem dX6_numberOf_4 : decode cX6_numberOf 4 = .ok (.iconst (-1), 1) := by decide +kernel
theorem dX6_numberOf_5 : decode cX6_numberOf 5 = .ok (.goto 7, 3) := by decide +kernel
theorem dX6_numberOf_8 : decode cX6_numberOf 8 = .ok (.aload_n 0, 1) := by decide +kernel
theorem dX6_numberOf_9 : decode cX6_numberOf 9 = .ok (.getfield 175, 3) := by decide +kernel
theorem dX6_numberOf_12 : decode cX6_numberOf 12 = .ok (.ireturn, 1) := by decide +kernel
theorem dX6_pass_0 : decode cX6_pass 0 = .ok (.aload_n 0, 1) := by decide +kernel
theorem dX6_pass_1 : decode cX6_pass 1 = .ok (.iload_n 2, 1) := by decide +kernel
theorem dX6_pass_2 : decode cX6_pass 2 = .ok (.invokevirtual 112, 3) := by decide +kernel
theorem dX6_pass_5 : decode cX6_pass 5 = .ok (.astore_n 3, 1) := by decide +kernel
theorem dX6_pass_6 : decode cX6_pass 6 = .ok (.aload_n 3, 1) := by decide +kernel
theorem dX6_pass_7 : decode cX6_pass 7 = .ok (.ifnonnull 5, 3) := by decide +kernel
theorem dX6_pass_10 : decode cX6_pass 10 = .ok (.aconst_null, 1) := by decide +kernel
theorem dX6_pass_11 : decode cX6_pass 11 = .ok (.areturn, 1) := by decide +kernel
theorem dX6_pass_12 : decode cX6_pass 12 = .ok (.aload_n 1, 1) := by decide +kernel
theorem dX6_pass_13 : decode cX6_pass 13 = .ok (.astore 4, 2) := by decide +kernel
theorem dX6_pass_15 : decode cX6_pass 15 = .ok (.iconst 0, 1) := by decide +kernel
theorem dX6_pass_16 : decode cX6_pass 16 = .ok (.istore 5, 2) := by decide +kernel
theorem dX6_pass_18 : decode cX6_pass 18 = .ok (.iload 5, 2) := by decide +kernel
theorem dX6_pass_20 : decode cX6_pass 20 = .ok (.iconst 4, 1) := by decide +kernel
theorem dX6_pass_21 : decode cX6_pass 21 = .ok (.if_icmp .ge 38, 3) := by decide +kernel
theorem dX6_pass_24 : decode cX6_pass 24 = .ok (.aload_n 3, 1) := by decide +kernel
theorem dX6_pass_25 : decode cX6_pass 25 = .ok (.iload 5, 2) := by decide +kernel
theorem dX6_pass_27 : decode cX6_pass 27 = .ok (.invokevirtual 172, 3) := by decide +kernel
theorem dX6_pass_30 : decode cX6_pass 30 = .ok (.astore 6, 2) := by decide +kernel
theorem dX6_pass_32 : decode cX6_pass 32 = .ok (.aload 6, 2) := by decide +kernel
theorem dX6_pass_34 : decode cX6_pass 34 = .ok (.ifnull 19, 3) := by decide +kernel
theorem dX6_pass_37 : decode cX6_pass 37 = .ok (.aload 4, 2) := by decide +kernel
theorem dX6_pass_39 : decode cX6_pass 39 = .ok (.ifnull 14, 3) := by decide +kernel
theorem dX6_pass_42 : decode cX6_pass 42 = .ok (.aload_n 0, 1) := by decide +kernel
theorem dX6_pass_43 : decode cX6_pass 43 = .ok (.aload 6, 2) := by decide +kernel
theorem dX6_pass_45 : decode cX6_pass 45 = .ok (.aload 4, 2) := by decide +kernel
theorem dX6_pass_47 : decode cX6_pass 47 = .ok (.iload_n 2, 1) := by decide +kernel
theorem dX6_pass_48 : decode cX6_pass 48 = .ok (.invokevirtual 178, 3) := by decide +kernel
theorem dX6_pass_51 : decode cX6_pass 51 = .ok (.astore 4, 2) := by decide +kernel
theorem dX6_pass_53 : decode cX6_pass 53 = .ok (.iinc 5 1, 3) := by decide +kernel
theorem dX6_pass_56 : decode cX6_pass 56 = .ok (.goto (-38), 3) := by decide +kernel
theorem dX6_pass_59 : decode cX6_pass 59 = .ok (.aload 4, 2) := by decide +kernel
theorem dX6_pass_61 : decode cX6_pass 61 = .ok (.areturn, 1) := by decide +kernel
theorem dX6_meet_0 : decode cX6_meet 0 = .ok (.aload_n 2, 1) := by decide +kernel
theorem dX6_meet_1 : decode cX6_meet 1 = .ok (.aload_n 1, 1) := by decide +kernel
theorem dX6_meet_2 : decode cX6_meet 2 = .ok (.getfield 135, 3) := by decide +kernel
theorem dX6_meet_5 : decode cX6_meet 5 = .ok (.invokevirtual 104, 3) := by decide +kernel
theorem dX6_meet_8 : decode cX6_meet 8 = .ok (.ifCond .eq 11, 3) := by decide +kernel
theorem dX6_meet_11 : decode cX6_meet 11 = .ok (.aload_n 0, 1) := by decide +kernel
theorem dX6_meet_12 : decode cX6_meet 12 = .ok (.aload_n 1, 1) := by decide +kernel
theorem dX6_meet_13 : decode cX6_meet 13 = .ok (.aload_n 2, 1) := by decide +kernel
theorem dX6_meet_14 : decode cX6_meet 14 = .ok (.iload_n 3, 1) := by decide +kernel
theorem dX6_meet_15 : decode cX6_meet 15 = .ok (.invokevirtual 182, 3) := by decide +kernel
theorem dX6_meet_18 : decode cX6_meet 18 = .ok (.areturn, 1) := by decide +kernel
theorem dX6_meet_19 : decode cX6_meet 19 = .ok (.aload_n 1, 1) := by decide +kernel
theorem dX6_meet_20 : decode cX6_meet 20 = .ok (.getfield 141, 3) := by decide +kernel
theorem dX6_meet_23 : decode cX6_meet 23 = .ok (.ifCond .ne 14, 3) := by decide +kernel
theorem dX6_meet_26 : decode cX6_meet 26 = .ok (.aload_n 1, 1) := by decide +kernel
theorem dX6_meet_27 : decode cX6_meet 27 = .ok (.getfield 185, 3) := by decide +kernel
theorem dX6_meet_30 : decode cX6_meet 30 = .ok (.aload_n 0, 1) := by decide +kernel
theorem dX6_meet_31 : decode cX6_meet 31 = .ok (.getfield 25, 3) := by decide +kernel
theorem dX6_meet_34 : decode cX6_meet 34 = .ok (.if_icmp .ne 5, 3) := by decide +kernel
theorem dX6_meet_37 : decode cX6_meet 37 = .ok (.aload_n 2, 1) := by decide +kernel
theorem dX6_meet_38 : decode cX6_meet 38 = .ok (.areturn, 1) := by decide +kernel
theorem dX6_meet_39 : decode cX6_meet 39 = .ok (.aload_n 1, 1) := by decide +kernel
theorem dX6_meet_40 : decode cX6_meet 40 = .ok (.aload_n 2, 1) := by decide +kernel
theorem dX6_meet_41 : decode cX6_meet 41 = .ok (.aload_n 0, 1) := by decide +kernel
theorem dX6_meet_42 : decode cX6_meet 42 = .ok (.getfield 25, 3) := by decide +kernel
theorem dX6_meet_45 : decode cX6_meet 45 = .ok (.invokevirtual 188, 3) := by decide +kernel
theorem dX6_meet_48 : decode cX6_meet 48 = .ok (.aload_n 0, 1) := by decide +kernel
theorem dX6_meet_49 : decode cX6_meet 49 = .ok (.dup, 1) := by decide +kernel
theorem dX6_meet_50 : decode cX6_meet 50 = .ok (.getfield 46, 3) := by decide +kernel
theorem dX6_meet_53 : decode cX6_meet 53 = .ok (.iconst 1, 1) := by decide +kernel
theorem dX6_meet_54 : decode cX6_meet 54 = .ok (.iadd, 1) := by decide +kernel
theorem dX6_meet_55 : decode cX6_meet 55 = .ok (.putfield 46, 3) := by decide +kernel
theorem dX6_meet_58 : decode cX6_meet 58 = .ok (.aconst_null, 1) := by decide +kernel
theorem dX6_meet_59 : decode cX6_meet 59 = .ok (.areturn, 1) := by decide +kernel
theorem dX6_work_0 : decode cX6_work 0 = .ok (.aload_n 0, 1) := by decide +kernel
theorem dX6_work_1 : decode cX6_work 1 = .ok (.dup, 1) := by decide +kernel
theorem dX6_work_2 : decode cX6_work 2 = .ok (.getfield 28, 3) := by decide +kernel
theorem dX6_work_5 : decode cX6_work 5 = .ok (.iconst 1, 1) := by decide +kernel
theorem dX6_work_6 : decode cX6_work 6 = .ok (.iadd, 1) := by decide +kernel
theorem dX6_work_7 : decode cX6_work 7 = .ok (.putfield 28, 3) := by decide +kernel
theorem dX6_work_10 : decode cX6_work 10 = .ok (.aload_n 1, 1) := by decide +kernel
theorem dX6_work_11 : decode cX6_work 11 = .ok (.dup, 1) := by decide +kernel
theorem dX6_work_12 : decode cX6_work 12 = .ok (.getfield 156, 3) := by decide +kernel
theorem dX6_work_15 : decode cX6_work 15 = .ok (.iconst 1, 1) := by decide +kernel
theorem dX6_work_16 : decode cX6_work 16 = .ok (.iadd, 1) := by decide +kernel
theorem dX6_work_17 : decode cX6_work 17 = .ok (.putfield 156, 3) := by decide +kernel
theorem dX6_work_20 : decode cX6_work 20 = .ok (.aload_n 1, 1) := by decide +kernel
theorem dX6_work_21 : decode cX6_work 21 = .ok (.getfield 138, 3) := by decide +kernel
theorem dX6_work_24 : decode cX6_work 24 = .ok (.tableswitch 84 0 4 #[36, 52, 59, 67, 78], 36) := by decide +kernel
theorem dX6_work_60 : decode cX6_work 60 = .ok (.aload_n 1, 1) := by decide +kernel
theorem dX6_work_61 : decode cX6_work 61 = .ok (.dup, 1) := by decide +kernel
theorem dX6_work_62 : decode cX6_work 62 = .ok (.getfield 149, 3) := by decide +kernel
theorem dX6_work_65 : decode cX6_work 65 = .ok (.aload_n 2, 1) := by decide +kernel
theorem dX6_work_66 : decode cX6_work 66 = .ok (.invokevirtual 192, 3) := by decide +kernel
theorem dX6_work_69 : decode cX6_work 69 = .ok (.iadd, 1) := by decide +kernel
theorem dX6_work_70 : decode cX6_work 70 = .ok (.putfield 149, 3) := by decide +kernel
theorem dX6_work_73 : decode cX6_work 73 = .ok (.goto 35, 3) := by decide +kernel
theorem dX6_work_76 : decode cX6_work 76 = .ok (.aload_n 2, 1) := by decide +kernel
theorem dX6_work_77 : decode cX6_work 77 = .ok (.invokevirtual 196, 3) := by decide +kernel
theorem dX6_work_80 : decode cX6_work 80 = .ok (.goto 28, 3) := by decide +kernel
theorem dX6_work_83 : decode cX6_work 83 = .ok (.aload_n 2, 1) := by decide +kernel
theorem dX6_work_84 : decode cX6_work 84 = .ok (.iconst 3, 1) := by decide +kernel
theorem dX6_work_85 : decode cX6_work 85 = .ok (.invokevirtual 199, 3) := by decide +kernel
theorem dX6_work_88 : decode cX6_work 88 = .ok (.goto 20, 3) := by decide +kernel
theorem dX6_work_91 : decode cX6_work 91 = .ok (.aload_n 0, 1) := by decide +kernel
theorem dX6_work_92 : decode cX6_work 92 = .ok (.aload_n 2, 1) := by decide +kernel
theorem dX6_work_93 : decode cX6_work 93 = .ok (.iload_n 3, 1) := by decide +kernel
theorem dX6_work_94 : decode cX6_work 94 = .ok (.iconst 1, 1) := by decide +kernel
theorem dX6_work_95 : decode cX6_work 95 = .ok (.iadd, 1) := by decide +kernel
theorem dX6_work_96 : decode cX6_work 96 = .ok (.invokevirtual 203, 3) := by decide +kernel
theorem dX6_work_99 : decode cX6_work 99 = .ok (.goto 9, 3) := by decide +kernel
theorem dX6_work_102 : decode cX6_work 102 = .ok (.aload_n 1, 1) := by decide +kernel
theorem dX6_work_103 : decode cX6_work 103 = .ok (.aload_n 2, 1) := by decide +kernel
theorem dX6_work_104 : decode cX6_work 104 = .ok (.invokevirtual 206, 3) := by decide +kernel
theorem dX6_work_107 : decode cX6_work 107 = .ok (.areturn, 1) := by decide +kernel
theorem dX6_work_108 : decode cX6_work 108 = .ok (.aload_n 2, 1) := by decide +kernel
theorem dX6_work_109 : decode cX6_work 109 = .ok (.areturn, 1) := by decide +kernel
theorem dX6_split_0 : decode cX6_split 0 = .ok (.aload_n 1, 1) := by decide +kernel
theorem dX6_split_1 : decode cX6_split 1 = .ok (.instanceof 82, 3) := by decide +kernel
theorem dX6_split_4 : decode cX6_split 4 = .ok (.ifCond .eq 49, 3) := by decide +kernel
theorem dX6_split_7 : decode cX6_split 7 = .ok (.aload_n 1, 1) := by decide +kernel
theorem dX6_split_8 : decode cX6_split 8 = .ok (.checkcast 82, 3) := by decide +kernel
theorem dX6_split_11 : decode cX6_split 11 = .ok (.astore_n 3, 1) := by decide +kernel
theorem dX6_split_12 : decode cX6_split 12 = .ok (.iconst 0, 1) := by decide +kernel
theorem dX6_split_13 : decode cX6_split 13 = .ok (.istore 4, 2) := by decide +kernel
theorem dX6_split_15 : decode cX6_split 15 = .ok (.iload 4, 2) := by decide +kernel
theorem dX6_split_17 : decode cX6_split 17 = .ok (.aload_n 3, 1) := by decide +kernel
theorem dX6_split_18 : decode cX6_split 18 = .ok (.getfield 94, 3) := by decide +kernel
theorem dX6_split_21 : decode cX6_split 21 = .ok (.arraylength, 1) := by decide +kernel
theorem dX6_split_22 : decode cX6_split 22 = .ok (.if_icmp .ge 31, 3) := by decide +kernel
theorem dX6_split_25 : decode cX6_split 25 = .ok (.aload_n 3, 1) := by decide +kernel
theorem dX6_split_26 : decode cX6_split 26 = .ok (.getfield 94, 3) := by decide +kernel
theorem dX6_split_29 : decode cX6_split 29 = .ok (.iload 4, 2) := by decide +kernel
theorem dX6_split_31 : decode cX6_split 31 = .ok (.aaload, 1) := by decide +kernel
theorem dX6_split_32 : decode cX6_split 32 = .ok (.astore 5, 2) := by decide +kernel
theorem dX6_split_34 : decode cX6_split 34 = .ok (.aload 5, 2) := by decide +kernel
theorem dX6_split_36 : decode cX6_split 36 = .ok (.ifnull 11, 3) := by decide +kernel
theorem dX6_split_39 : decode cX6_split 39 = .ok (.aload_n 0, 1) := by decide +kernel
theorem dX6_split_40 : decode cX6_split 40 = .ok (.aload 5, 2) := by decide +kernel
theorem dX6_split_42 : decode cX6_split 42 = .ok (.iload_n 2, 1) := by decide +kernel
theorem dX6_split_43 : decode cX6_split 43 = .ok (.invokevirtual 145, 3) := by decide +kernel
theorem dX6_split_46 : decode cX6_split 46 = .ok (.pop, 1) := by decide +kernel
theorem dX6_split_47 : decode cX6_split 47 = .ok (.iinc 4 1, 3) := by decide +kernel
theorem dX6_split_50 : decode cX6_split 50 = .ok (.goto (-35), 3) := by decide +kernel
theorem dX6_split_53 : decode cX6_split 53 = .ok (.return_, 1) := by decide +kernel
theorem dX7_init_0 : decode cX7_init 0 = .ok (.aload_n 0, 1) := by decide +kernel
theorem dX7_init_1 : decode cX7_init 1 = .ok (.invokespecial 1, 3) := by decide +kernel
theorem dX7_init_4 : decode cX7_init 4 = .ok (.aload_n 0, 1) := by decide +kernel
theorem dX7_init_5 : decode cX7_init 5 = .ok (.bipush 60, 2) := by decide +kernel
theorem dX7_init_7 : decode cX7_init 7 = .ok (.newarray .int, 2) := by decide +kernel
theorem dX7_init_9 : decode cX7_init 9 = .ok (.putfield 7, 3) := by decide +kernel
theorem dX7_init_12 : decode cX7_init 12 = .ok (.aload_n 0, 1) := by decide +kernel
theorem dX7_init_13 : decode cX7_init 13 = .ok (.bipush 60, 2) := by decide +kernel
theorem dX7_init_15 : decode cX7_init 15 = .ok (.newarray .int, 2) := by decide +kernel
theorem dX7_init_17 : decode cX7_init 17 = .ok (.putfield 13, 3) := by decide +kernel
theorem dX7_init_20 : decode cX7_init 20 = .ok (.aload_n 0, 1) := by decide +kernel
theorem dX7_init_21 : decode cX7_init 21 = .ok (.bipush 60, 2) := by decide +kernel
theorem dX7_init_23 : decode cX7_init 23 = .ok (.newarray .int, 2) := by decide +kernel
theorem dX7_init_25 : decode cX7_init 25 = .ok (.putfield 16, 3) := by decide +kernel
theorem dX7_init_28 : decode cX7_init 28 = .ok (.aload_n 0, 1) := by decide +kernel
theorem dX7_init_29 : decode cX7_init 29 = .ok (.sipush 180, 3) := by decide +kernel
theorem dX7_init_32 : decode cX7_init 32 = .ok (.newarray .long, 2) := by decide +kernel
theorem dX7_init_34 : decode cX7_init 34 = .ok (.putfield 19, 3) := by decide +kernel
theorem dX7_init_37 : decode cX7_init 37 = .ok (.aload_n 0, 1) := by decide +kernel
theorem dX7_init_38 : decode cX7_init 38 = .ok (.bipush 8, 2) := by decide +kernel
theorem dX7_init_40 : decode cX7_init 40 = .ok (.newarray .int, 2) := by decide +kernel
theorem dX7_init_42 : decode cX7_init 42 = .ok (.putfield 23, 3) := by decide +kernel
theorem dX7_init_45 : decode cX7_init 45 = .ok (.aload_n 0, 1) := by decide +kernel
theorem dX7_init_46 : decode cX7_init 46 = .ok (.bipush 32, 2) := by decide +kernel
theorem dX7_init_48 : decode cX7_init 48 = .ok (.newarray .int, 2) := by decide +kernel
theorem dX7_init_50 : decode cX7_init 50 = .ok (.putfield 26, 3) := by decide +kernel
theorem dX7_init_53 : decode cX7_init 53 = .ok (.aload_n 0, 1) := by decide +kernel
theorem dX7_init_54 : decode cX7_init 54 = .ok (.bipush 32, 2) := by decide +kernel
theorem dX7_init_56 : decode cX7_init 56 = .ok (.newarray .int, 2) := by decide +kernel
theorem dX7_init_58 : decode cX7_init 58 = .ok (.putfield 29, 3) := by decide +kernel
theorem dX7_init_61 : decode cX7_init 61 = .ok (.aload_n 0, 1) := by decide +kernel
theorem dX7_init_62 : decode cX7_init 62 = .ok (.bipush 32, 2) := by decide +kernel
theorem dX7_init_64 : decode cX7_init 64 = .ok (.newarray .boolean, 2) := by decide +kernel
theorem dX7_init_66 : decode cX7_init 66 = .ok (.putfield 32, 3) := by decide +kernel
theorem dX7_init_69 : decode cX7_init 69 = .ok (.aload_n 0, 1) := by decide +kernel
theorem dX7_init_70 : decode cX7_init 70 = .ok (.bipush 32, 2) := by decide +kernel
theorem dX7_init_72 : decode cX7_init 72 = .ok (.newarray .int, 2) := by decide +kernel
theorem dX7_init_74 : decode cX7_init 74 = .ok (.putfield 36, 3) := by decide +kernel
theorem dX7_init_77 : decode cX7_init 77 = .ok (.aload_n 0, 1) := by decide +kernel
theorem dX7_init_78 : decode cX7_init 78 = .ok (.bipush 32, 2) := by decide +kernel
theorem dX7_init_80 : decode cX7_init 80 = .ok (.newarray .int, 2) := by decide +kernel
theorem dX7_init_82 : decode cX7_init 82 = .ok (.putfield 39, 3) := by decide +kernel
theorem dX7_init_85 : decode cX7_init 85 = .ok (.aload_n 0, 1) := by decide +kernel
theorem dX7_init_86 : decode cX7_init 86 = .ok (.bipush 32, 2) := by decide +kernel
theorem dX7_init_88 : decode cX7_init 88 = .ok (.newarray .int, 2) := by decide +kernel
theorem dX7_init_90 : decode cX7_init 90 = .ok (.putfield 42, 3) := by decide +kernel
theorem dX7_init_93 : decode cX7_init 93 = .ok (.aload_n 0, 1) := by decide +kernel
theorem dX7_init_94 : decode cX7_init 94 = .ok (.bipush 32, 2) := by decide +kernel
theorem dX7_init_96 : decode cX7_init 96 = .ok (.newarray .int, 2) := by decide +kernel
theorem dX7_init_98 : decode cX7_init 98 = .ok (.putfield 45, 3) := by decide +kernel
theorem dX7_init_101 : decode cX7_init 101 = .ok (.aload_n 0, 1) := by decide +kernel
theorem dX7_init_102 : decode cX7_init 102 = .ok (.bipush 32, 2) := by decide +kernel
theorem dX7_init_104 : decode cX7_init 104 = .ok (.newarray .int, 2) := by decide +kernel
theorem dX7_init_106 : decode cX7_init 106 = .ok (.putfield 48, 3) := by decide +kernel
theorem dX7_init_109 : decode cX7_init 109 = .ok (.aload_n 0, 1) := by decide +kernel
theorem dX7_init_110 : decode cX7_init 110 = .ok (.bipush 32, 2) := by decide +kernel
theorem dX7_init_112 : decode cX7_init 112 = .ok (.newarray .boolean, 2) := by decide +kernel
theorem dX7_init_114 : decode cX7_init 114 = .ok (.putfield 51, 3) := by decide +kernel
theorem dX7_init_117 : decode cX7_init 117 = .ok (.aload_n 0, 1) := by decide +kernel
theorem dX7_init_118 : decode cX7_init 118 = .ok (.iconst (-1), 1) := by decide +kernel
theorem dX7_init_119 : decode cX7_init 119 = .ok (.putfield 54, 3) := by decide +kernel
theorem dX7_init_122 : decode cX7_init 122 = .ok (.aload_n 0, 1) := by decide +kernel
theorem dX7_init_123 : decode cX7_init 123 = .ok (.bipush 9, 2) := by decide +kernel
theorem dX7_init_125 : decode cX7_init 125 = .ok (.newarray .int, 2) := by decide +kernel
theorem dX7_init_127 : decode cX7_init 127 = .ok (.putfield 58, 3) := by decide +kernel
theorem dX7_init_130 : decode cX7_init 130 = .ok (.aload_n 0, 1) := by decide +kernel
theorem dX7_init_131 : decode cX7_init 131 = .ok (.bipush 9, 2) := by decide +kernel
theorem dX7_init_133 : decode cX7_init 133 = .ok (.newarray .int, 2) := by decide +kernel
theorem dX7_init_135 : decode cX7_init 135 = .ok (.putfield 61, 3) := by decide +kernel
theorem dX7_init_138 : decode cX7_init 138 = .ok (.aload_n 0, 1) := by decide +kernel
theorem dX7_init_139 : decode cX7_init 139 = .ok (.bipush 9, 2) := by decide +kernel
theorem dX7_init_141 : decode cX7_init 141 = .ok (.newarray .int, 2) := by decide +kernel
theorem dX7_init_143 : decode cX7_init 143 = .ok (.putfield 64, 3) := by decide +kernel
theorem dX7_init_146 : decode cX7_init 146 = .ok (.aload_n 0, 1) := by decide +kernel
theorem dX7_init_147 : decode cX7_init 147 = .ok (.bipush 9, 2) := by decide +kernel
theorem dX7_init_149 : decode cX7_init 149 = .ok (.newarray .int, 2) := by decide +kernel
theorem dX7_init_151 : decode cX7_init 151 = .ok (.putfield 67, 3) := by decide +kernel
theorem dX7_init_154 : decode cX7_init 154 = .ok (.return_, 1) := by decide +kernel
theorem dX7_isIn_0 : decode cX7_isIn 0 = .ok (.iload_n 0, 1) := by decide +kernel
theorem dX7_isIn_1 : decode cX7_isIn 1 = .ok (.iload_n 1, 1) := by decide +kernel
theorem dX7_isIn_2 : decode cX7_isIn 2 = .ok (.if_icmp .lt 12, 3) := by decide +kernel
theorem dX7_isIn_5 : decode cX7_isIn 5 = .ok (.iload_n 0, 1) := by decide +kernel
theorem dX7_isIn_6 : decode cX7_isIn 6 = .ok (.iload_n 2, 1) := by decide +kernel
theorem dX7_isIn_7 : decode cX7_isIn 7 = .ok (.if_icmp .gt 7, 3) := by decide +kernel
theorem dX7_isIn_10 : decode cX7_isIn 10 = .ok (.iconst 1, 1) := by decide +kernel
theorem dX7_isIn_11 : decode cX7_isIn 11 = .ok (.goto 4, 3) := by decide +kernel
theorem dX7_isIn_14 : decode cX7_isIn 14 = .ok (.iconst 0, 1) := by decide +kernel
theorem dX7_isIn_15 : decode cX7_isIn 15 = .ok (.ireturn, 1) := by decide +kernel
theorem dX7_isItem_0 : decode cX7_isItem 0 = .ok (.iload_n 1, 1) := by decide +kernel
theorem dX7_isItem_1 : decode cX7_isItem 1 = .ok (.iconst 0, 1) := by decide +kernel
theorem dX7_isItem_2 : decode cX7_isItem 2 = .ok (.aload_n 0, 1) := by decide +kernel
theorem dX7_isItem_3 : decode cX7_isItem 3 = .ok (.getfield 70, 3) := by decide +kernel
theorem dX7_isItem_6 : decode cX7_isItem 6 = .ok (.iconst 1, 1) := by decide +kernel
theorem dX7_isItem_7 : decode cX7_isItem 7 = .ok (.isub, 1) := by decide +kernel
theorem dX7_isItem_8 : decode cX7_isItem 8 = .ok (.invokestatic 73, 3) := by decide +kernel
theorem dX7_isItem_11 : decode cX7_isItem 11 = .ok (.ireturn, 1) := by decide +kernel
theorem dX7_refuse_0 : decode cX7_refuse 0 = .ok (.aload_n 0, 1) := by decide +kernel
theorem dX7_refuse_1 : decode cX7_refuse 1 = .ok (.iload_n 1, 1) := by decide +kernel
theorem dX7_refuse_2 : decode cX7_refuse 2 = .ok (.putfield 77, 3) := by decide +kernel
theorem dX7_refuse_5 : decode cX7_refuse 5 = .ok (.aload_n 0, 1) := by decide +kernel
theorem dX7_refuse_6 : decode cX7_refuse 6 = .ok (.dup, 1) := by decide +kernel
theorem dX7_refuse_7 : decode cX7_refuse 7 = .ok (.getfield 80, 3) := by decide +kernel
theorem dX7_refuse_10 : decode cX7_refuse 10 = .ok (.iload_n 1, 1) := by decide +kernel
theorem dX7_refuse_11 : decode cX7_refuse 11 = .ok (.bipush (-4), 2) := by decide +kernel
theorem dX7_refuse_13 : decode cX7_refuse 13 = .ok (.if_icmp .ne 7, 3) := by decide +kernel
theorem dX7_refuse_16 : decode cX7_refuse 16 = .ok (.iconst 1, 1) := by decide +kernel
theorem dX7_refuse_17 : decode cX7_refuse 17 = .ok (.goto 4, 3) := by decide +kernel
theorem dX7_refuse_20 : decode cX7_refuse 20 = .ok (.iconst 0, 1) := by decide +kernel
theorem dX7_refuse_21 : decode cX7_refuse 21 = .ok (.iadd, 1) := by decide +kernel
theorem dX7_refuse_22 : decode cX7_refuse 22 = .ok (.putfield 80, 3) := by decide +kernel
theorem dX7_refuse_25 : decode cX7_refuse 25 = .ok (.aload_n 0, 1) := by decide +kernel
theorem dX7_refuse_26 : decode cX7_refuse 26 = .ok (.dup, 1) := by decide +kernel
theorem dX7_refuse_27 : decode cX7_refuse 27 = .ok (.getfield 83, 3) := by decide +kernel
theorem dX7_refuse_30 : decode cX7_refuse 30 = .ok (.iload_n 1, 1) := by decide +kernel
theorem dX7_refuse_31 : decode cX7_refuse 31 = .ok (.bipush (-5), 2) := by decide +kernel
theorem dX7_refuse_33 : decode cX7_refuse 33 = .ok (.if_icmp .ne 7, 3) := by decide +kernel
theorem dX7_refuse_36 : decode cX7_refuse 36 = .ok (.iconst 1, 1) := by decide +kernel
theorem dX7_refuse_37 : decode cX7_refuse 37 = .ok (.goto 4, 3) := by decide +kernel
theorem dX7_refuse_40 : decode cX7_refuse 40 = .ok (.iconst 0, 1) := by decide +kernel
theorem dX7_refuse_41 : decode cX7_refuse 41 = .ok (.iadd, 1) := by decide +kernel
theorem dX7_refuse_42 : decode cX7_refuse 42 = .ok (.putfield 83, 3) := by decide +kernel
theorem dX7_refuse_45 : decode cX7_refuse 45 = .ok (.aload_n 0, 1) := by decide +kernel
theorem dX7_refuse_46 : decode cX7_refuse 46 = .ok (.dup, 1) := by decide +kernel
theorem dX7_refuse_47 : decode cX7_refuse 47 = .ok (.getfield 86, 3) := by decide +kernel
theorem dX7_refuse_50 : decode cX7_refuse 50 = .ok (.iload_n 1, 1) := by decide +kernel
theorem dX7_refuse_51 : decode cX7_refuse 51 = .ok (.bipush (-6), 2) := by decide +kernel
theorem dX7_refuse_53 : decode cX7_refuse 53 = .ok (.if_icmp .ne 7, 3) := by decide +kernel
theorem dX7_refuse_56 : decode cX7_refuse 56 = .ok (.iconst 1, 1) := by decide +kernel
theorem dX7_refuse_57 : decode cX7_refuse 57 = .ok (.goto 4, 3) := by decide +kernel
theorem dX7_refuse_60 : decode cX7_refuse 60 = .ok (.iconst 0, 1) := by decide +kernel
theorem dX7_refuse_61 : decode cX7_refuse 61 = .ok (.iadd, 1) := by decide +kernel
theorem dX7_refuse_62 : decode cX7_refuse 62 = .ok (.putfield 86, 3) := by decide +kernel
theorem dX7_refuse_65 : decode cX7_refuse 65 = .ok (.iload_n 1, 1) := by decide +kernel
theorem dX7_refuse_66 : decode cX7_refuse 66 = .ok (.ireturn, 1) := by decide +kernel
theorem dX7_goes_0 : decode cX7_goes 0 = .ok (.iload_n 0, 1) := by decide +kernel
theorem dX7_goes_1 : decode cX7_goes 1 = .ok (.iload_n 1, 1) := by decide +kernel
theorem dX7_goes_2 : decode cX7_goes 2 = .ok (.if_icmp .ne 5, 3) := by decide +kernel
theorem dX7_goes_5 : decode cX7_goes 5 = .ok (.iconst 1, 1) := by decide +kernel
theorem dX7_goes_6 : decode cX7_goes 6 = .ok (.ireturn, 1) := by decide +kernel
theorem dX7_goes_7 : decode cX7_goes 7 = .ok (.iload_n 0, 1) := by decide +kernel
theorem dX7_goes_8 : decode cX7_goes 8 = .ok (.tableswitch 119 5 12 #[48, 60, 48, 77, 89, 119, 119, 107], 48) := by decide +kernel
theorem dX7_goes_56 : decode cX7_goes 56 = .ok (.iload_n 1, 1) := by decide +kernel
theorem dX7_goes_57 : decode cX7_goes 57 = .ok (.bipush 13, 2) := by decide +kernel
theorem dX7_goes_59 : decode cX7_goes 59 = .ok (.if_icmp .ne 7, 3) := by decide +kernel
theorem dX7_goes_62 : decode cX7_goes 62 = .ok (.iconst 1, 1) := by decide +kernel
theorem dX7_goes_63 : decode cX7_goes 63 = .ok (.goto 4, 3) := by decide +kernel
theorem dX7_goes_66 : decode cX7_goes 66 = .ok (.iconst 0, 1) := by decide +kernel
theorem dX7_goes_67 : decode cX7_goes 67 = .ok (.ireturn, 1) := by decide +kernel
theorem dX7_goes_68 : decode cX7_goes 68 = .ok (.iload_n 1, 1) := by decide +kernel
theorem dX7_goes_69 : decode cX7_goes 69 = .ok (.iconst 5, 1) := by decide +kernel
theorem dX7_goes_70 : decode cX7_goes 70 = .ok (.if_icmp .eq 9, 3) := by decide +kernel
theorem dX7_goes_73 : decode cX7_goes 73 = .ok (.iload_n 1, 1) := by decide +kernel
theorem dX7_goes_74 : decode cX7_goes 74 = .ok (.bipush 13, 2) := by decide +kernel
theorem dX7_goes_76 : decode cX7_goes 76 = .ok (.if_icmp .ne 7, 3) := by decide +kernel
theorem dX7_goes_79 : decode cX7_goes 79 = .ok (.iconst 1, 1) := by decide +kernel
theorem dX7_goes_80 : decode cX7_goes 80 = .ok (.goto 4, 3) := by decide +kernel
theorem dX7_goes_83 : decode cX7_goes 83 = .ok (.iconst 0, 1) := by decide +kernel
theorem dX7_goes_84 : decode cX7_goes 84 = .ok (.ireturn, 1) := by decide +kernel
theorem dX7_goes_85 : decode cX7_goes 85 = .ok (.iload_n 1, 1) := by decide +kernel
theorem dX7_goes_86 : decode cX7_goes 86 = .ok (.bipush 10, 2) := by decide +kernel
theorem dX7_goes_88 : decode cX7_goes 88 = .ok (.if_icmp .ne 7, 3) := by decide +kernel
theorem dX7_goes_91 : decode cX7_goes 91 = .ok (.iconst 1, 1) := by decide +kernel
theorem dX7_goes_92 : decode cX7_goes 92 = .ok (.goto 4, 3) := by decide +kernel
theorem dX7_goes_95 : decode cX7_goes 95 = .ok (.iconst 0, 1) := by decide +kernel
theorem dX7_goes_96 : decode cX7_goes 96 = .ok (.ireturn, 1) := by decide +kernel
theorem dX7_goes_97 : decode cX7_goes 97 = .ok (.iload_n 1, 1) := by decide +kernel
theorem dX7_goes_98 : decode cX7_goes 98 = .ok (.bipush 8, 2) := by decide +kernel
theorem dX7_goes_100 : decode cX7_goes 100 = .ok (.if_icmp .eq 9, 3) := by decide +kernel
theorem dX7_goes_103 : decode cX7_goes 103 = .ok (.iload_n 1, 1) := by decide +kernel
theorem dX7_goes_104 : decode cX7_goes 104 = .ok (.bipush 10, 2) := by decide +kernel
theorem dX7_goes_106 : decode cX7_goes 106 = .ok (.if_icmp .ne 7, 3) := by decide +kernel
theorem dX7_goes_109 : decode cX7_goes 109 = .ok (.iconst 1, 1) := by decide +kernel
theorem dX7_goes_110 : decode cX7_goes 110 = .ok (.goto 4, 3) := by decide +kernel
theorem dX7_goes_113 : decode cX7_goes 113 = .ok (.iconst 0, 1) := by decide +kernel
theorem dX7_goes_114 : decode cX7_goes 114 = .ok (.ireturn, 1) := by decide +kernel
theorem dX7_goes_115 : decode cX7_goes 115 = .ok (.iload_n 1, 1) := by decide +kernel
theorem dX7_goes_116 : decode cX7_goes 116 = .ok (.bipush 11, 2) := by decide +kernel
theorem dX7_goes_118 : decode cX7_goes 118 = .ok (.if_icmp .ne 7, 3) := by decide +kernel
theorem dX7_goes_121 : decode cX7_goes 121 = .ok (.iconst 1, 1) := by decide +kernel
theorem dX7_goes_122 : decode cX7_goes 122 = .ok (.goto 4, 3) := by decide +kernel
theorem dX7_goes_125 : decode cX7_goes 125 = .ok (.iconst 0, 1) := by decide +kernel
theorem dX7_goes_126 : decode cX7_goes 126 = .ok (.ireturn, 1) := by decide +kernel
theorem dX7_goes_127 : decode cX7_goes 127 = .ok (.iconst 0, 1) := by decide +kernel
theorem dX7_goes_128 : decode cX7_goes 128 = .ok (.ireturn, 1) := by decide +kernel
theorem dX7_isOne_0 : decode cX7_isOne 0 = .ok (.iload_n 0, 1) := by decide +kernel
theorem dX7_isOne_1 : decode cX7_isOne 1 = .ok (.iconst 5, 1) := by decide +kernel
theorem dX7_isOne_2 : decode cX7_isOne 2 = .ok (.bipush 7, 2) := by decide +kernel
theorem dX7_isOne_4 : decode cX7_isOne 4 = .ok (.invokestatic 73, 3) := by decide +kernel
theorem dX7_isOne_7 : decode cX7_isOne 7 = .ok (.ireturn, 1) := by decide +kernel
theorem dX7_isOfNumbers_0 : decode cX7_isOfNumbers 0 = .ok (.iload_n 0, 1) := by decide +kernel
theorem dX7_isOfNumbers_1 : decode cX7_isOfNumbers 1 = .ok (.iconst 3, 1) := by decide +kernel
theorem dX7_isOfNumbers_2 : decode cX7_isOfNumbers 2 = .ok (.if_icmp .gt 7, 3) := by decide +kernel
theorem dX7_isOfNumbers_5 : decode cX7_isOfNumbers 5 = .ok (.iconst 1, 1) := by decide +kernel
theorem dX7_isOfNumbers_6 : decode cX7_isOfNumbers 6 = .ok (.goto 4, 3) := by decide +kernel
theorem dX7_isOfNumbers_9 : decode cX7_isOfNumbers 9 = .ok (.iconst 0, 1) := by decide +kernel
theorem dX7_isOfNumbers_10 : decode cX7_isOfNumbers 10 = .ok (.ireturn, 1) := by decide +kernel
theorem dX7_isOfThings_0 : decode cX7_isOfThings 0 = .ok (.iload_n 0, 1) := by decide +kernel
theorem dX7_isOfThings_1 : decode cX7_isOfThings 1 = .ok (.iconst 4, 1) := by decide +kernel
theorem dX7_isOfThings_2 : decode cX7_isOfThings 2 = .ok (.if_icmp .eq 9, 3) := by decide +kernel
theorem dX7_isOfThings_5 : decode cX7_isOfThings 5 = .ok (.iload_n 0, 1) := by decide +kernel
theorem dX7_isOfThings_6 : decode cX7_isOfThings 6 = .ok (.bipush 8, 2) := by decide +kernel
theorem dX7_isOfThings_8 : decode cX7_isOfThings 8 = .ok (.if_icmp .lt 7, 3) := by decide +kernel
theorem dX7_isOfThings_11 : decode cX7_isOfThings 11 = .ok (.iconst 1, 1) := by decide +kernel
theorem dX7_isOfThings_12 : decode cX7_isOfThings 12 = .ok (.goto 4, 3) := by decide +kernel
theorem dX7_isOfThings_15 : decode cX7_isOfThings 15 = .ok (.iconst 0, 1) := by decide +kernel
theorem dX7_isOfThings_16 : decode cX7_isOfThings 16 = .ok (.ireturn, 1) := by decide +kernel
theorem dX7_make_0 : decode cX7_make 0 = .ok (.aload_n 0, 1) := by decide +kernel
theorem dX7_make_1 : decode cX7_make 1 = .ok (.iconst 0, 1) := by decide +kernel
theorem dX7_make_2 : decode cX7_make 2 = .ok (.putfield 77, 3) := by decide +kernel
theorem dX7_make_5 : decode cX7_make 5 = .ok (.iload_n 1, 1) := by decide +kernel
theorem dX7_make_6 : decode cX7_make 6 = .ok (.iconst 0, 1) := by decide +kernel
theorem dX7_make_7 : decode cX7_make 7 = .ok (.bipush 12, 2) := by decide +kernel
theorem dX7_make_9 : decode cX7_make 9 = .ok (.invokestatic 73, 3) := by decide +kernel
theorem dX7_make_12 : decode cX7_make 12 = .ok (.ifCond .eq 19, 3) := by decide +kernel
theorem dX7_make_15 : decode cX7_make 15 = .ok (.iload_n 1, 1) := by decide +kernel
theorem dX7_make_16 : decode cX7_make 16 = .ok (.invokestatic 89, 3) := by decide +kernel
theorem dX7_make_19 : decode cX7_make 19 = .ok (.ifCond .ne 19, 3) := by decide +kernel
theorem dX7_make_22 : decode cX7_make 22 = .ok (.iload_n 2, 1) := by decide +kernel
theorem dX7_make_23 : decode cX7_make 23 = .ok (.iconst 0, 1) := by decide +kernel
theorem dX7_make_24 : decode cX7_make 24 = .ok (.iconst 3, 1) := by decide +kernel
theorem dX7_make_25 : decode cX7_make 25 = .ok (.invokestatic 73, 3) := by decide +kernel
theorem dX7_make_28 : decode cX7_make 28 = .ok (.ifCond .ne 10, 3) := by decide +kernel
theorem dX7_make_31 : decode cX7_make 31 = .ok (.aload_n 0, 1) := by decide +kernel
theorem dX7_make_32 : decode cX7_make 32 = .ok (.bipush (-2), 2) := by decide +kernel
theorem dX7_make_34 : decode cX7_make 34 = .ok (.invokevirtual 93, 3) := by decide +kernel
theorem dX7_make_37 : decode cX7_make 37 = .ok (.ireturn, 1) := by decide +kernel
theorem dX7_make_38 : decode cX7_make 38 = .ok (.aload_n 0, 1) := by decide +kernel
theorem dX7_make_39 : decode cX7_make 39 = .ok (.getfield 70, 3) := by decide +kernel
theorem dX7_make_42 : decode cX7_make 42 = .ok (.bipush 60, 2) := by decide +kernel
theorem dX7_make_44 : decode cX7_make 44 = .ok (.if_icmp .ne 10, 3) := by decide +kernel
theorem dX7_make_47 : decode cX7_make 47 = .ok (.aload_n 0, 1) := by decide +kernel
theorem dX7_make_48 : decode cX7_make 48 = .ok (.bipush (-3), 2) := by decide +kernel
theorem dX7_make_50 : decode cX7_make 50 = .ok (.invokevirtual 93, 3) := by decide +kernel
theorem dX7_make_53 : decode cX7_make 53 = .ok (.ireturn, 1) := by decide +kernel
theorem dX7_make_54 : decode cX7_make 54 = .ok (.aload_n 0, 1) := by decide +kernel
theorem dX7_make_55 : decode cX7_make 55 = .ok (.getfield 7, 3) := by decide +kernel
theorem dX7_make_58 : decode cX7_make 58 = .ok (.aload_n 0, 1) := by decide +kernel
theorem dX7_make_59 : decode cX7_make 59 = .ok (.getfield 70, 3) := by decide +kernel
theorem dX7_make_62 : decode cX7_make 62 = .ok (.iload_n 1, 1) := by decide +kernel
theorem dX7_make_63 : decode cX7_make 63 = .ok (.iastore, 1) := by decide +kernel
theorem dX7_make_64 : decode cX7_make 64 = .ok (.aload_n 0, 1) := by decide +kernel
theorem dX7_make_65 : decode cX7_make 65 = .ok (.getfield 13, 3) := by decide +kernel
theorem dX7_make_68 : decode cX7_make 68 = .ok (.aload_n 0, 1) := by decide +kernel
theorem dX7_make_69 : decode cX7_make 69 = .ok (.getfield 70, 3) := by decide +kernel
theorem dX7_make_72 : decode cX7_make 72 = .ok (.iload_n 1, 1) := by decide +kernel
theorem dX7_make_73 : decode cX7_make 73 = .ok (.invokestatic 89, 3) := by decide +kernel
theorem dX7_make_76 : decode cX7_make 76 = .ok (.ifCond .eq 7, 3) := by decide +kernel
theorem dX7_make_79 : decode cX7_make 79 = .ok (.iconst 0, 1) := by decide +kernel
theorem dX7_make_80 : decode cX7_make 80 = .ok (.goto 4, 3) := by decide +kernel
theorem dX7_make_83 : decode cX7_make 83 = .ok (.iload_n 2, 1) := by decide +kernel
theorem dX7_make_84 : decode cX7_make 84 = .ok (.iastore, 1) := by decide +kernel
theorem dX7_make_85 : decode cX7_make 85 = .ok (.aload_n 0, 1) := by decide +kernel
theorem dX7_make_86 : decode cX7_make 86 = .ok (.getfield 16, 3) := by decide +kernel
theorem dX7_make_89 : decode cX7_make 89 = .ok (.aload_n 0, 1) := by decide +kernel
theorem dX7_make_90 : decode cX7_make 90 = .ok (.getfield 70, 3) := by decide +kernel
theorem dX7_make_93 : decode cX7_make 93 = .ok (.iconst 0, 1) := by decide +kernel
theorem dX7_make_94 : decode cX7_make 94 = .ok (.iastore, 1) := by decide +kernel
theorem dX7_make_95 : decode cX7_make 95 = .ok (.iconst 0, 1) := by decide +kernel
theorem dX7_make_96 : decode cX7_make 96 = .ok (.istore_n 3, 1) := by decide +kernel
theorem dX7_make_97 : decode cX7_make 97 = .ok (.iload_n 3, 1) := by decide +kernel
theorem dX7_make_98 : decode cX7_make 98 = .ok (.iconst 3, 1) := by decide +kernel
theorem dX7_make_99 : decode cX7_make 99 = .ok (.if_icmp .ge 36, 3) := by decide +kernel
theorem dX7_make_102 : decode cX7_make 102 = .ok (.aload_n 0, 1) := by decide +kernel
theorem dX7_make_103 : decode cX7_make 103 = .ok (.getfield 19, 3) := by decide +kernel
theorem dX7_make_106 : decode cX7_make 106 = .ok (.iconst 3, 1) := by decide +kernel
theorem dX7_make_107 : decode cX7_make 107 = .ok (.aload_n 0, 1) := by decide +kernel
theorem dX7_make_108 : decode cX7_make 108 = .ok (.getfield 70, 3) := by decide +kernel
theorem dX7_make_111 : decode cX7_make 111 = .ok (.imul, 1) := by decide +kernel
theorem dX7_make_112 : decode cX7_make 112 = .ok (.iload_n 3, 1) := by decide +kernel
theorem dX7_make_113 : decode cX7_make 113 = .ok (.iadd, 1) := by decide +kernel
theorem dX7_make_114 : decode cX7_make 114 = .ok (.iload_n 1, 1) := by decide +kernel
theorem dX7_make_115 : decode cX7_make 115 = .ok (.invokestatic 97, 3) := by decide +kernel
theorem dX7_make_118 : decode cX7_make 118 = .ok (.ifCond .eq 9, 3) := by decide +kernel
theorem dX7_make_121 : decode cX7_make 121 = .ok (.ldc2_w 100, 3) := by decide +kernel
theorem dX7_make_124 : decode cX7_make 124 = .ok (.goto 4, 3) := by decide +kernel
theorem dX7_make_127 : decode cX7_make 127 = .ok (.lconst 0, 1) := by decide +kernel
theorem dX7_make_128 : decode cX7_make 128 = .ok (.lastore, 1) := by decide +kernel
theorem dX7_make_129 : decode cX7_make 129 = .ok (.iinc 3 1, 3) := by decide +kernel
theorem dX7_make_132 : decode cX7_make 132 = .ok (.goto (-35), 3) := by decide +kernel
theorem dX7_make_135 : decode cX7_make 135 = .ok (.aload_n 0, 1) := by decide +kernel
theorem dX7_make_136 : decode cX7_make 136 = .ok (.dup, 1) := by decide +kernel
theorem dX7_make_137 : decode cX7_make 137 = .ok (.getfield 70, 3) := by decide +kernel
theorem dX7_make_140 : decode cX7_make 140 = .ok (.iconst 1, 1) := by decide +kernel
theorem dX7_make_141 : decode cX7_make 141 = .ok (.iadd, 1) := by decide +kernel
theorem dX7_make_142 : decode cX7_make 142 = .ok (.putfield 70, 3) := by decide +kernel
theorem dX7_make_145 : decode cX7_make 145 = .ok (.aload_n 0, 1) := by decide +kernel
theorem dX7_make_146 : decode cX7_make 146 = .ok (.getfield 70, 3) := by decide +kernel
theorem dX7_make_149 : decode cX7_make 149 = .ok (.iconst 1, 1) := by decide +kernel
theorem dX7_make_150 : decode cX7_make 150 = .ok (.isub, 1) := by decide +kernel
theorem dX7_make_151 : decode cX7_make 151 = .ok (.ireturn, 1) := by decide +kernel
theorem dX7_kept_0 : decode cX7_kept 0 = .ok (.iload_n 0, 1) := by decide +kernel
theorem dX7_kept_1 : decode cX7_kept 1 = .ok (.ifCond .ne 11, 3) := by decide +kernel
theorem dX7_kept_4 : decode cX7_kept 4 = .ok (.lload_n 1, 1) := by decide +kernel
theorem dX7_kept_5 : decode cX7_kept 5 = .ok (.ldc2_w 102, 3) := by decide +kernel
theorem dX7_kept_8 : decode cX7_kept 8 = .ok (.land, 1) := by decide +kernel
theorem dX7_kept_9 : decode cX7_kept 9 = .ok (.goto 35, 3) := by decide +kernel
theorem dX7_kept_12 : decode cX7_kept 12 = .ok (.iload_n 0, 1) := by decide +kernel
theorem dX7_kept_13 : decode cX7_kept 13 = .ok (.iconst 1, 1) := by decide +kernel
theorem dX7_kept_14 : decode cX7_kept 14 = .ok (.if_icmp .ne 10, 3) := by decide +kernel
theorem dX7_kept_17 : decode cX7_kept 17 = .ok (.lload_n 1, 1) := by decide +kernel
theorem dX7_kept_18 : decode cX7_kept 18 = .ok (.l2i, 1) := by decide +kernel
theorem dX7_kept_19 : decode cX7_kept 19 = .ok (.i2s, 1) := by decide +kernel
theorem dX7_kept_20 : decode cX7_kept 20 = .ok (.i2l, 1) := by decide +kernel
theorem dX7_kept_21 : decode cX7_kept 21 = .ok (.goto 23, 3) := by decide +kernel
theorem dX7_kept_24 : decode cX7_kept 24 = .ok (.iload_n 0, 1) := by decide +kernel
theorem dX7_kept_25 : decode cX7_kept 25 = .ok (.iconst 3, 1) := by decide +kernel
theorem dX7_kept_26 : decode cX7_kept 26 = .ok (.if_icmp .ne 17, 3) := by decide +kernel
theorem dX7_kept_29 : decode cX7_kept 29 = .ok (.lload_n 1, 1) := by decide +kernel
theorem dX7_kept_30 : decode cX7_kept 30 = .ok (.lconst 0, 1) := by decide +kernel
theorem dX7_kept_31 : decode cX7_kept 31 = .ok (.lcmp, 1) := by decide +kernel
theorem dX7_kept_32 : decode cX7_kept 32 = .ok (.ifCond .eq 7, 3) := by decide +kernel
theorem dX7_kept_35 : decode cX7_kept 35 = .ok (.lconst 1, 1) := by decide +kernel
theorem dX7_kept_36 : decode cX7_kept 36 = .ok (.goto 8, 3) := by decide +kernel
theorem dX7_kept_39 : decode cX7_kept 39 = .ok (.lconst 0, 1) := by decide +kernel
theorem dX7_kept_40 : decode cX7_kept 40 = .ok (.goto 4, 3) := by decide +kernel
theorem dX7_kept_43 : decode cX7_kept 43 = .ok (.lload_n 1, 1) := by decide +kernel
theorem dX7_kept_44 : decode cX7_kept 44 = .ok (.lreturn, 1) := by decide +kernel
theorem dX7_wrongPlace_0 : decode cX7_wrongPlace 0 = .ok (.iload_n 3, 1) := by decide +kernel
theorem dX7_wrongPlace_1 : decode cX7_wrongPlace 1 = .ok (.ifCond .ne 8, 3) := by decide +kernel
theorem dX7_wrongPlace_4 : decode cX7_wrongPlace 4 = .ok (.bipush (-4), 2) := by decide +kernel
theorem dX7_wrongPlace_6 : decode cX7_wrongPlace 6 = .ok (.goto 25, 3) := by decide +kernel
theorem dX7_wrongPlace_9 : decode cX7_wrongPlace 9 = .ok (.iload_n 2, 1) := by decide +kernel
theorem dX7_wrongPlace_10 : decode cX7_wrongPlace 10 = .ok (.iconst 0, 1) := by decide +kernel
theorem dX7_wrongPlace_11 : decode cX7_wrongPlace 11 = .ok (.aload_n 0, 1) := by decide +kernel
theorem dX7_wrongPlace_12 : decode cX7_wrongPlace 12 = .ok (.getfield 13, 3) := by decide +kernel
theorem dX7_wrongPlace_15 : decode cX7_wrongPlace 15 = .ok (.iload_n 1, 1) := by decide +kernel
theorem dX7_wrongPlace_16 : decode cX7_wrongPlace 16 = .ok (.iaload, 1) := by decide +kernel
theorem dX7_wrongPlace_17 : decode cX7_wrongPlace 17 = .ok (.iconst 1, 1) := by decide +kernel
theorem dX7_wrongPlace_18 : decode cX7_wrongPlace 18 = .ok (.isub, 1) := by decide +kernel
theorem dX7_wrongPlace_19 : decode cX7_wrongPlace 19 = .ok (.invokestatic 73, 3) := by decide +kernel
theorem dX7_wrongPlace_22 : decode cX7_wrongPlace 22 = .ok (.ifCond .ne 8, 3) := by decide +kernel
theorem dX7_wrongPlace_25 : decode cX7_wrongPlace 25 = .ok (.bipush (-5), 2) := by decide +kernel
theorem dX7_wrongPlace_27 : decode cX7_wrongPlace 27 = .ok (.goto 4, 3) := by decide +kernel
theorem dX7_wrongPlace_30 : decode cX7_wrongPlace 30 = .ok (.iconst 0, 1) := by decide +kernel
theorem dX7_wrongPlace_31 : decode cX7_wrongPlace 31 = .ok (.ireturn, 1) := by decide +kernel
theorem dX7_put_0 : decode cX7_put 0 = .ok (.aload_n 0, 1) := by decide +kernel
theorem dX7_put_1 : decode cX7_put 1 = .ok (.iconst 0, 1) := by decide +kernel
theorem dX7_put_2 : decode cX7_put 2 = .ok (.putfield 77, 3) := by decide +kernel
theorem dX7_put_5 : decode cX7_put 5 = .ok (.aload_n 0, 1) := by decide +kernel
theorem dX7_put_6 : decode cX7_put 6 = .ok (.iload_n 1, 1) := by decide +kernel
theorem dX7_put_7 : decode cX7_put 7 = .ok (.invokevirtual 104, 3) := by decide +kernel
theorem dX7_put_10 : decode cX7_put 10 = .ok (.ifCond .ne 10, 3) := by decide +kernel
theorem dX7_put_13 : decode cX7_put 13 = .ok (.aload_n 0, 1) := by decide +kernel
theorem dX7_put_14 : decode cX7_put 14 = .ok (.bipush (-2), 2) := by decide +kernel
theorem dX7_put_16 : decode cX7_put 16 = .ok (.invokevirtual 93, 3) := by decide +kernel
theorem dX7_put_19 : decode cX7_put 19 = .ok (.ireturn, 1) := by decide +kernel
theorem dX7_put_20 : decode cX7_put 20 = .ok (.aload_n 0, 1) := by decide +kernel
theorem dX7_put_21 : decode cX7_put 21 = .ok (.iload_n 1, 1) := by decide +kernel
theorem dX7_put_22 : decode cX7_put 22 = .ok (.iload_n 2, 1) := by decide +kernel
theorem dX7_put_23 : decode cX7_put 23 = .ok (.aload_n 0, 1) := by decide +kernel
theorem dX7_put_24 : decode cX7_put 24 = .ok (.getfield 7, 3) := by decide +kernel
theorem dX7_put_27 : decode cX7_put 27 = .ok (.iload_n 1, 1) := by decide +kernel
theorem dX7_put_28 : decode cX7_put 28 = .ok (.iaload, 1) := by decide +kernel
theorem dX7_put_29 : decode cX7_put 29 = .ok (.invokestatic 107, 3) := by decide +kernel
theorem dX7_put_32 : decode cX7_put 32 = .ok (.invokevirtual 110, 3) := by decide +kernel
theorem dX7_put_35 : decode cX7_put 35 = .ok (.istore 4, 2) := by decide +kernel
theorem dX7_put_37 : decode cX7_put 37 = .ok (.iload 4, 2) := by decide +kernel
theorem dX7_put_39 : decode cX7_put 39 = .ok (.ifCond .eq 10, 3) := by decide +kernel
theorem dX7_put_42 : decode cX7_put 42 = .ok (.aload_n 0, 1) := by decide +kernel
theorem dX7_put_43 : decode cX7_put 43 = .ok (.iload 4, 2) := by decide +kernel
theorem dX7_put_45 : decode cX7_put 45 = .ok (.invokevirtual 93, 3) := by decide +kernel
theorem dX7_put_48 : decode cX7_put 48 = .ok (.ireturn, 1) := by decide +kernel
theorem dX7_put_49 : decode cX7_put 49 = .ok (.aload_n 0, 1) := by decide +kernel
theorem dX7_put_50 : decode cX7_put 50 = .ok (.getfield 19, 3) := by decide +kernel
theorem dX7_put_53 : decode cX7_put 53 = .ok (.iconst 3, 1) := by decide +kernel
theorem dX7_put_54 : decode cX7_put 54 = .ok (.iload_n 1, 1) := by decide +kernel
theorem dX7_put_55 : decode cX7_put 55 = .ok (.imul, 1) := by decide +kernel
theorem dX7_put_56 : decode cX7_put 56 = .ok (.iload_n 2, 1) := by decide +kernel
theorem dX7_put_57 : decode cX7_put 57 = .ok (.iadd, 1) := by decide +kernel
theorem dX7_put_58 : decode cX7_put 58 = .ok (.aload_n 0, 1) := by decide +kernel
theorem dX7_put_59 : decode cX7_put 59 = .ok (.getfield 7, 3) := by decide +kernel
theorem dX7_put_62 : decode cX7_put 62 = .ok (.iload_n 1, 1) := by decide +kernel
theorem dX7_put_63 : decode cX7_put 63 = .ok (.iaload, 1) := by decide +kernel
theorem dX7_put_64 : decode cX7_put 64 = .ok (.iload_n 3, 1) := by decide +kernel
theorem dX7_put_65 : decode cX7_put 65 = .ok (.i2l, 1) := by decide +kernel
theorem dX7_put_66 : decode cX7_put 66 = .ok (.invokestatic 114, 3) := by decide +kernel
theorem dX7_put_69 : decode cX7_put 69 = .ok (.lastore, 1) := by decide +kernel
theorem dX7_put_70 : decode cX7_put 70 = .ok (.iconst 1, 1) := by decide +kernel
theorem dX7_put_71 : decode cX7_put 71 = .ok (.ireturn, 1) := by decide +kernel
theorem dX7_get_0 : decode cX7_get 0 = .ok (.aload_n 0, 1) := by decide +kernel
theorem dX7_get_1 : decode cX7_get 1 = .ok (.iconst 0, 1) := by decide +kernel
theorem dX7_get_2 : decode cX7_get 2 = .ok (.putfield 77, 3) := by decide +kernel
theorem dX7_get_5 : decode cX7_get 5 = .ok (.aload_n 0, 1) := by decide +kernel
theorem dX7_get_6 : decode cX7_get 6 = .ok (.iload_n 1, 1) := by decide +kernel
theorem dX7_get_7 : decode cX7_get 7 = .ok (.invokevirtual 104, 3) := by decide +kernel
theorem dX7_get_10 : decode cX7_get 10 = .ok (.ifCond .ne 8, 3) := by decide +kernel
theorem dX7_get_13 : decode cX7_get 13 = .ok (.bipush (-2), 2) := by decide +kernel
theorem dX7_get_15 : decode cX7_get 15 = .ok (.goto 18, 3) := by decide +kernel
theorem dX7_get_18 : decode cX7_get 18 = .ok (.aload_n 0, 1) := by decide +kernel
theorem dX7_get_19 : decode cX7_get 19 = .ok (.iload_n 1, 1) := by decide +kernel
theorem dX7_get_20 : decode cX7_get 20 = .ok (.iload_n 2, 1) := by decide +kernel
theorem dX7_get_21 : decode cX7_get 21 = .ok (.aload_n 0, 1) := by decide +kernel
theorem dX7_get_22 : decode cX7_get 22 = .ok (.getfield 7, 3) := by decide +kernel
theorem dX7_get_25 : decode cX7_get 25 = .ok (.iload_n 1, 1) := by decide +kernel
theorem dX7_get_26 : decode cX7_get 26 = .ok (.iaload, 1) := by decide +kernel
theorem dX7_get_27 : decode cX7_get 27 = .ok (.invokestatic 107, 3) := by decide +kernel
theorem dX7_get_30 : decode cX7_get 30 = .ok (.invokevirtual 110, 3) := by decide +kernel
theorem dX7_get_33 : decode cX7_get 33 = .ok (.istore_n 3, 1) := by decide +kernel
theorem dX7_get_34 : decode cX7_get 34 = .ok (.iload_n 3, 1) := by decide +kernel
theorem dX7_get_35 : decode cX7_get 35 = .ok (.ifCond .eq 11, 3) := by decide +kernel
theorem dX7_get_38 : decode cX7_get 38 = .ok (.aload_n 0, 1) := by decide +kernel
theorem dX7_get_39 : decode cX7_get 39 = .ok (.iload_n 3, 1) := by decide +kernel
theorem dX7_get_40 : decode cX7_get 40 = .ok (.invokevirtual 93, 3) := by decide +kernel
theorem dX7_get_43 : decode cX7_get 43 = .ok (.istore_n 3, 1) := by decide +kernel
theorem dX7_get_44 : decode cX7_get 44 = .ok (.iconst 0, 1) := by decide +kernel
theorem dX7_get_45 : decode cX7_get 45 = .ok (.ireturn, 1) := by decide +kernel
theorem dX7_get_46 : decode cX7_get 46 = .ok (.aload_n 0, 1) := by decide +kernel
theorem dX7_get_47 : decode cX7_get 47 = .ok (.getfield 19, 3) := by decide +kernel
theorem dX7_get_50 : decode cX7_get 50 = .ok (.iconst 3, 1) := by decide +kernel
theorem dX7_get_51 : decode cX7_get 51 = .ok (.iload_n 1, 1) := by decide +kernel
theorem dX7_get_52 : decode cX7_get 52 = .ok (.imul, 1) := by decide +kernel
