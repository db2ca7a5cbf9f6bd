theorem dX0_init_0 : decode cX0_init 0 = .ok (.aload_n 0, 1) := by decide +kernel
theorem dX0_init_1 : decode cX0_init 1 = .ok (.invokespecial 1, 3) := by decide +kernel
theorem dX0_init_4 : decode cX0_init 4 = .ok (.aload_n 0, 1) := by decide +kernel
theorem dX0_init_5 : decode cX0_init 5 = .ok (.iload_n 1, 1) := by decide +kernel
theorem dX0_init_6 : decode cX0_init 6 = .ok (.putfield 7, 3) := by decide +kernel
theorem dX0_init_9 : decode cX0_init 9 = .ok (.aload_n 0, 1) := by decide +kernel
theorem dX0_init_10 : decode cX0_init 10 = .ok (.iload_n 2, 1) := by decide +kernel
theorem dX0_init_11 : decode cX0_init 11 = .ok (.putfield 13, 3) := by decide +kernel
theorem dX0_init_14 : decode cX0_init 14 = .ok (.aload_n 0, 1) := by decide +kernel
theorem dX0_init_15 : decode cX0_init 15 = .ok (.aload_n 3, 1) := by decide +kernel
theorem dX0_init_16 : decode cX0_init 16 = .ok (.putfield 16, 3) := by decide +kernel
theorem dX0_init_19 : decode cX0_init 19 = .ok (.return_, 1) := by decide +kernel
theorem dX1_init_0 : decode cX1_init 0 = .ok (.aload_n 0, 1) := by decide +kernel
theorem dX1_init_1 : decode cX1_init 1 = .ok (.invokespecial 3, 3) := by decide +kernel
theorem dX1_init_4 : decode cX1_init 4 = .ok (.aload_n 0, 1) := by decide +kernel
theorem dX1_init_5 : decode cX1_init 5 = .ok (.iconst (-1), 1) := by decide +kernel
theorem dX1_init_6 : decode cX1_init 6 = .ok (.putfield 9, 3) := by decide +kernel
theorem dX1_init_9 : decode cX1_init 9 = .ok (.aload_n 0, 1) := by decide +kernel
theorem dX1_init_10 : decode cX1_init 10 = .ok (.iconst 0, 1) := by decide +kernel
theorem dX1_init_11 : decode cX1_init 11 = .ok (.putfield 15, 3) := by decide +kernel
theorem dX1_init_14 : decode cX1_init 14 = .ok (.aload_n 0, 1) := by decide +kernel
theorem dX1_init_15 : decode cX1_init 15 = .ok (.iconst 0, 1) := by decide +kernel
theorem dX1_init_16 : decode cX1_init 16 = .ok (.putfield 18, 3) := by decide +kernel
theorem dX1_init_19 : decode cX1_init 19 = .ok (.aload_n 0, 1) := by decide +kernel
theorem dX1_init_20 : decode cX1_init 20 = .ok (.iconst (-1), 1) := by decide +kernel
theorem dX1_init_21 : decode cX1_init 21 = .ok (.putfield 21, 3) := by decide +kernel
theorem dX1_init_24 : decode cX1_init 24 = .ok (.aload_n 0, 1) := by decide +kernel
theorem dX1_init_25 : decode cX1_init 25 = .ok (.iconst (-1), 1) := by decide +kernel
theorem dX1_init_26 : decode cX1_init 26 = .ok (.putfield 24, 3) := by decide +kernel
theorem dX1_init_29 : decode cX1_init 29 = .ok (.aload_n 0, 1) := by decide +kernel
theorem dX1_init_30 : decode cX1_init 30 = .ok (.iload_n 1, 1) := by decide +kernel
theorem dX1_init_31 : decode cX1_init 31 = .ok (.putfield 27, 3) := by decide +kernel
theorem dX1_init_34 : decode cX1_init 34 = .ok (.aload_n 0, 1) := by decide +kernel
theorem dX1_init_35 : decode cX1_init 35 = .ok (.iload_n 2, 1) := by decide +kernel
theorem dX1_init_36 : decode cX1_init 36 = .ok (.putfield 30, 3) := by decide +kernel
theorem dX1_init_39 : decode cX1_init 39 = .ok (.aload_n 0, 1) := by decide +kernel
theorem dX1_init_40 : decode cX1_init 40 = .ok (.iload_n 3, 1) := by decide +kernel
theorem dX1_init_41 : decode cX1_init 41 = .ok (.putfield 33, 3) := by decide +kernel
theorem dX1_init_44 : decode cX1_init 44 = .ok (.aload_n 0, 1) := by decide +kernel
theorem dX1_init_45 : decode cX1_init 45 = .ok (.iload 5, 2) := by decide +kernel
theorem dX1_init_47 : decode cX1_init 47 = .ok (.putfield 36, 3) := by decide +kernel
theorem dX1_init_50 : decode cX1_init 50 = .ok (.aload_n 0, 1) := by decide +kernel
theorem dX1_init_51 : decode cX1_init 51 = .ok (.bipush 20, 2) := by decide +kernel
theorem dX1_init_53 : decode cX1_init 53 = .ok (.iload_n 3, 1) := by decide +kernel
theorem dX1_init_54 : decode cX1_init 54 = .ok (.imul, 1) := by decide +kernel
theorem dX1_init_55 : decode cX1_init 55 = .ok (.putfield 39, 3) := by decide +kernel
theorem dX1_init_58 : decode cX1_init 58 = .ok (.aload_n 0, 1) := by decide +kernel
theorem dX1_init_59 : decode cX1_init 59 = .ok (.iload 4, 2) := by decide +kernel
theorem dX1_init_61 : decode cX1_init 61 = .ok (.putfield 42, 3) := by decide +kernel
theorem dX1_init_64 : decode cX1_init 64 = .ok (.aload_n 0, 1) := by decide +kernel
theorem dX1_init_65 : decode cX1_init 65 = .ok (.new 45, 3) := by decide +kernel
theorem dX1_init_68 : decode cX1_init 68 = .ok (.dup, 1) := by decide +kernel
theorem dX1_init_69 : decode cX1_init 69 = .ok (.iload 4, 2) := by decide +kernel
theorem dX1_init_71 : decode cX1_init 71 = .ok (.iload 5, 2) := by decide +kernel
theorem dX1_init_73 : decode cX1_init 73 = .ok (.iconst 1, 1) := by decide +kernel
theorem dX1_init_74 : decode cX1_init 74 = .ok (.iadd, 1) := by decide +kernel
theorem dX1_init_75 : decode cX1_init 75 = .ok (.aconst_null, 1) := by decide +kernel
theorem dX1_init_76 : decode cX1_init 76 = .ok (.invokespecial 47, 3) := by decide +kernel
theorem dX1_init_79 : decode cX1_init 79 = .ok (.putfield 50, 3) := by decide +kernel
theorem dX1_init_82 : decode cX1_init 82 = .ok (.return_, 1) := by decide +kernel
theorem dX1_isAtCounter_0 : decode cX1_isAtCounter 0 = .ok (.aload_n 0, 1) := by decide +kernel
theorem dX1_isAtCounter_1 : decode cX1_isAtCounter 1 = .ok (.getfield 42, 3) := by decide +kernel
theorem dX1_isAtCounter_4 : decode cX1_isAtCounter 4 = .ok (.invokestatic 54, 3) := by decide +kernel
theorem dX1_isAtCounter_7 : decode cX1_isAtCounter 7 = .ok (.ireturn, 1) := by decide +kernel
theorem dX1_hasLoan_0 : decode cX1_hasLoan 0 = .ok (.aload_n 0, 1) := by decide +kernel
theorem dX1_hasLoan_1 : decode cX1_hasLoan 1 = .ok (.getfield 18, 3) := by decide +kernel
theorem dX1_hasLoan_4 : decode cX1_hasLoan 4 = .ok (.ifCond .le 7, 3) := by decide +kernel
theorem dX1_hasLoan_7 : decode cX1_hasLoan 7 = .ok (.iconst 1, 1) := by decide +kernel
theorem dX1_hasLoan_8 : decode cX1_hasLoan 8 = .ok (.goto 4, 3) := by decide +kernel
theorem dX1_hasLoan_11 : decode cX1_hasLoan 11 = .ok (.iconst 0, 1) := by decide +kernel
theorem dX1_hasLoan_12 : decode cX1_hasLoan 12 = .ok (.ireturn, 1) := by decide +kernel
theorem dX1_isCalled_0 : decode cX1_isCalled 0 = .ok (.aload_n 0, 1) := by decide +kernel
theorem dX1_isCalled_1 : decode cX1_isCalled 1 = .ok (.getfield 24, 3) := by decide +kernel
theorem dX1_isCalled_4 : decode cX1_isCalled 4 = .ok (.iconst (-1), 1) := by decide +kernel
theorem dX1_isCalled_5 : decode cX1_isCalled 5 = .ok (.if_icmp .eq 7, 3) := by decide +kernel
theorem dX1_isCalled_8 : decode cX1_isCalled 8 = .ok (.iconst 1, 1) := by decide +kernel
theorem dX1_isCalled_9 : decode cX1_isCalled 9 = .ok (.goto 4, 3) := by decide +kernel
theorem dX1_isCalled_12 : decode cX1_isCalled 12 = .ok (.iconst 0, 1) := by decide +kernel
theorem dX1_isCalled_13 : decode cX1_isCalled 13 = .ok (.ireturn, 1) := by decide +kernel
theorem dX1_beginLoan_0 : decode cX1_beginLoan 0 = .ok (.aload_n 0, 1) := by decide +kernel
theorem dX1_beginLoan_1 : decode cX1_beginLoan 1 = .ok (.iload_n 1, 1) := by decide +kernel
theorem dX1_beginLoan_2 : decode cX1_beginLoan 2 = .ok (.putfield 21, 3) := by decide +kernel
theorem dX1_beginLoan_5 : decode cX1_beginLoan 5 = .ok (.aload_n 0, 1) := by decide +kernel
theorem dX1_beginLoan_6 : decode cX1_beginLoan 6 = .ok (.iload_n 2, 1) := by decide +kernel
theorem dX1_beginLoan_7 : decode cX1_beginLoan 7 = .ok (.putfield 18, 3) := by decide +kernel
theorem dX1_beginLoan_10 : decode cX1_beginLoan 10 = .ok (.return_, 1) := by decide +kernel
theorem dX1_endLoan_0 : decode cX1_endLoan 0 = .ok (.aload_n 0, 1) := by decide +kernel
theorem dX1_endLoan_1 : decode cX1_endLoan 1 = .ok (.iconst (-1), 1) := by decide +kernel
theorem dX1_endLoan_2 : decode cX1_endLoan 2 = .ok (.putfield 21, 3) := by decide +kernel
theorem dX1_endLoan_5 : decode cX1_endLoan 5 = .ok (.aload_n 0, 1) := by decide +kernel
theorem dX1_endLoan_6 : decode cX1_endLoan 6 = .ok (.iconst 0, 1) := by decide +kernel
theorem dX1_endLoan_7 : decode cX1_endLoan 7 = .ok (.putfield 18, 3) := by decide +kernel
theorem dX1_endLoan_10 : decode cX1_endLoan 10 = .ok (.aload_n 0, 1) := by decide +kernel
theorem dX1_endLoan_11 : decode cX1_endLoan 11 = .ok (.iconst (-1), 1) := by decide +kernel
theorem dX1_endLoan_12 : decode cX1_endLoan 12 = .ok (.putfield 24, 3) := by decide +kernel
theorem dX1_endLoan_15 : decode cX1_endLoan 15 = .ok (.return_, 1) := by decide +kernel
theorem dX1_moveTo_0 : decode cX1_moveTo 0 = .ok (.aload_n 0, 1) := by decide +kernel
theorem dX1_moveTo_1 : decode cX1_moveTo 1 = .ok (.iload_n 1, 1) := by decide +kernel
theorem dX1_moveTo_2 : decode cX1_moveTo 2 = .ok (.putfield 42, 3) := by decide +kernel
theorem dX1_moveTo_5 : decode cX1_moveTo 5 = .ok (.aload_n 0, 1) := by decide +kernel
theorem dX1_moveTo_6 : decode cX1_moveTo 6 = .ok (.new 45, 3) := by decide +kernel
theorem dX1_moveTo_9 : decode cX1_moveTo 9 = .ok (.dup, 1) := by decide +kernel
theorem dX1_moveTo_10 : decode cX1_moveTo 10 = .ok (.iload_n 1, 1) := by decide +kernel
theorem dX1_moveTo_11 : decode cX1_moveTo 11 = .ok (.iload_n 2, 1) := by decide +kernel
theorem dX1_moveTo_12 : decode cX1_moveTo 12 = .ok (.iconst 1, 1) := by decide +kernel
theorem dX1_moveTo_13 : decode cX1_moveTo 13 = .ok (.iadd, 1) := by decide +kernel
theorem dX1_moveTo_14 : decode cX1_moveTo 14 = .ok (.aload_n 0, 1) := by decide +kernel
theorem dX1_moveTo_15 : decode cX1_moveTo 15 = .ok (.getfield 50, 3) := by decide +kernel
theorem dX1_moveTo_18 : decode cX1_moveTo 18 = .ok (.invokespecial 47, 3) := by decide +kernel
theorem dX1_moveTo_21 : decode cX1_moveTo 21 = .ok (.putfield 50, 3) := by decide +kernel
theorem dX1_moveTo_24 : decode cX1_moveTo 24 = .ok (.return_, 1) := by decide +kernel
theorem dX1_placeAtBeginningOf_0 : decode cX1_placeAtBeginningOf 0 = .ok (.aload_n 0, 1) := by decide +kernel
theorem dX1_placeAtBeginningOf_1 : decode cX1_placeAtBeginningOf 1 = .ok (.getfield 50, 3) := by decide +kernel
theorem dX1_placeAtBeginningOf_4 : decode cX1_placeAtBeginningOf 4 = .ok (.astore_n 2, 1) := by decide +kernel
theorem dX1_placeAtBeginningOf_5 : decode cX1_placeAtBeginningOf 5 = .ok (.aload_n 2, 1) := by decide +kernel
theorem dX1_placeAtBeginningOf_6 : decode cX1_placeAtBeginningOf 6 = .ok (.ifnull 24, 3) := by decide +kernel
theorem dX1_placeAtBeginningOf_9 : decode cX1_placeAtBeginningOf 9 = .ok (.aload_n 2, 1) := by decide +kernel
theorem dX1_placeAtBeginningOf_10 : decode cX1_placeAtBeginningOf 10 = .ok (.getfield 58, 3) := by decide +kernel
theorem dX1_placeAtBeginningOf_13 : decode cX1_placeAtBeginningOf 13 = .ok (.iload_n 1, 1) := by decide +kernel
theorem dX1_placeAtBeginningOf_14 : decode cX1_placeAtBeginningOf 14 = .ok (.if_icmp .gt 8, 3) := by decide +kernel
theorem dX1_placeAtBeginningOf_17 : decode cX1_placeAtBeginningOf 17 = .ok (.aload_n 2, 1) := by decide +kernel
theorem dX1_placeAtBeginningOf_18 : decode cX1_placeAtBeginningOf 18 = .ok (.getfield 61, 3) := by decide +kernel
theorem dX1_placeAtBeginningOf_21 : decode cX1_placeAtBeginningOf 21 = .ok (.ireturn, 1) := by decide +kernel
theorem dX1_placeAtBeginningOf_22 : decode cX1_placeAtBeginningOf 22 = .ok (.aload_n 2, 1) := by decide +kernel
theorem dX1_placeAtBeginningOf_23 : decode cX1_placeAtBeginningOf 23 = .ok (.getfield 62, 3) := by decide +kernel
theorem dX1_placeAtBeginningOf_26 : decode cX1_placeAtBeginningOf 26 = .ok (.astore_n 2, 1) := by decide +kernel
theorem dX1_placeAtBeginningOf_27 : decode cX1_placeAtBeginningOf 27 = .ok (.goto (-22), 3) := by decide +kernel
theorem dX1_placeAtBeginningOf_30 : decode cX1_placeAtBeginningOf 30 = .ok (.bipush 12, 2) := by decide +kernel
theorem dX1_placeAtBeginningOf_32 : decode cX1_placeAtBeginningOf 32 = .ok (.ireturn, 1) := by decide +kernel
theorem dX2_init_0 : decode cX2_init 0 = .ok (.aload_n 0, 1) := by decide +kernel
theorem dX2_init_1 : decode cX2_init 1 = .ok (.invokespecial 1, 3) := by decide +kernel
theorem dX2_init_4 : decode cX2_init 4 = .ok (.aload_n 0, 1) := by decide +kernel
theorem dX2_init_5 : decode cX2_init 5 = .ok (.iconst 5, 1) := by decide +kernel
theorem dX2_init_6 : decode cX2_init 6 = .ok (.newarray .int, 2) := by decide +kernel
theorem dX2_init_8 : decode cX2_init 8 = .ok (.putfield 9, 3) := by decide +kernel
theorem dX2_init_11 : decode cX2_init 11 = .ok (.aload_n 0, 1) := by decide +kernel
theorem dX2_init_12 : decode cX2_init 12 = .ok (.bipush 8, 2) := by decide +kernel
theorem dX2_init_14 : decode cX2_init 14 = .ok (.newarray .int, 2) := by decide +kernel
theorem dX2_init_16 : decode cX2_init 16 = .ok (.putfield 13, 3) := by decide +kernel
theorem dX2_init_19 : decode cX2_init 19 = .ok (.aload_n 0, 1) := by decide +kernel
theorem dX2_init_20 : decode cX2_init 20 = .ok (.new 16, 3) := by decide +kernel
theorem dX2_init_23 : decode cX2_init 23 = .ok (.dup, 1) := by decide +kernel
theorem dX2_init_24 : decode cX2_init 24 = .ok (.invokespecial 18, 3) := by decide +kernel
theorem dX2_init_27 : decode cX2_init 27 = .ok (.putfield 19, 3) := by decide +kernel
theorem dX2_init_30 : decode cX2_init 30 = .ok (.aload_n 0, 1) := by decide +kernel
theorem dX2_init_31 : decode cX2_init 31 = .ok (.new 16, 3) := by decide +kernel
theorem dX2_init_34 : decode cX2_init 34 = .ok (.dup, 1) := by decide +kernel
theorem dX2_init_35 : decode cX2_init 35 = .ok (.invokespecial 18, 3) := by decide +kernel
theorem dX2_init_38 : decode cX2_init 38 = .ok (.putfield 23, 3) := by decide +kernel
theorem dX2_init_41 : decode cX2_init 41 = .ok (.aload_n 0, 1) := by decide +kernel
theorem dX2_init_42 : decode cX2_init 42 = .ok (.bipush 6, 2) := by decide +kernel
theorem dX2_init_44 : decode cX2_init 44 = .ok (.putfield 26, 3) := by decide +kernel
theorem dX2_init_47 : decode cX2_init 47 = .ok (.aload_n 0, 1) := by decide +kernel
theorem dX2_init_48 : decode cX2_init 48 = .ok (.iconst 0, 1) := by decide +kernel
theorem dX2_init_49 : decode cX2_init 49 = .ok (.putfield 30, 3) := by decide +kernel
theorem dX2_init_52 : decode cX2_init 52 = .ok (.aload_n 0, 1) := by decide +kernel
theorem dX2_init_53 : decode cX2_init 53 = .ok (.iconst 0, 1) := by decide +kernel
theorem dX2_init_54 : decode cX2_init 54 = .ok (.putfield 33, 3) := by decide +kernel
theorem dX2_init_57 : decode cX2_init 57 = .ok (.aload_n 0, 1) := by decide +kernel
theorem dX2_init_58 : decode cX2_init 58 = .ok (.getfield 9, 3) := by decide +kernel
theorem dX2_init_61 : decode cX2_init 61 = .ok (.bipush 10, 2) := by decide +kernel
theorem dX2_init_63 : decode cX2_init 63 = .ok (.invokestatic 36, 3) := by decide +kernel
theorem dX2_init_66 : decode cX2_init 66 = .ok (.return_, 1) := by decide +kernel
theorem dX2_leave_0 : decode cX2_leave 0 = .ok (.iload_n 1, 1) := by decide +kernel
theorem dX2_leave_1 : decode cX2_leave 1 = .ok (.invokestatic 58, 3) := by decide +kernel
theorem dX2_leave_4 : decode cX2_leave 4 = .ok (.ifCond .eq 20, 3) := by decide +kernel
theorem dX2_leave_7 : decode cX2_leave 7 = .ok (.iload_n 2, 1) := by decide +kernel
theorem dX2_leave_8 : decode cX2_leave 8 = .ok (.iconst 1, 1) := by decide +kernel
theorem dX2_leave_9 : decode cX2_leave 9 = .ok (.if_icmp .lt 15, 3) := by decide +kernel
theorem dX2_leave_12 : decode cX2_leave 12 = .ok (.iload_n 2, 1) := by decide +kernel
theorem dX2_leave_13 : decode cX2_leave 13 = .ok (.iconst 3, 1) := by decide +kernel
theorem dX2_leave_14 : decode cX2_leave 14 = .ok (.if_icmp .gt 10, 3) := by decide +kernel
theorem dX2_leave_17 : decode cX2_leave 17 = .ok (.iload_n 3, 1) := by decide +kernel
theorem dX2_leave_18 : decode cX2_leave 18 = .ok (.invokestatic 42, 3) := by decide +kernel
theorem dX2_leave_21 : decode cX2_leave 21 = .ok (.ifCond .ne 13, 3) := by decide +kernel
theorem dX2_leave_24 : decode cX2_leave 24 = .ok (.new 49, 3) := by decide +kernel
theorem dX2_leave_27 : decode cX2_leave 27 = .ok (.dup, 1) := by decide +kernel
theorem dX2_leave_28 : decode cX2_leave 28 = .ok (.ldc 61, 2) := by decide +kernel
theorem dX2_leave_30 : decode cX2_leave 30 = .ok (.invokespecial 53, 3) := by decide +kernel
theorem dX2_leave_33 : decode cX2_leave 33 = .ok (.athrow, 1) := by decide +kernel
theorem dX2_leave_34 : decode cX2_leave 34 = .ok (.aload_n 0, 1) := by decide +kernel
theorem dX2_leave_35 : decode cX2_leave 35 = .ok (.getfield 19, 3) := by decide +kernel
theorem dX2_leave_38 : decode cX2_leave 38 = .ok (.invokevirtual 63, 3) := by decide +kernel
theorem dX2_leave_41 : decode cX2_leave 41 = .ok (.istore 4, 2) := by decide +kernel
theorem dX2_leave_43 : decode cX2_leave 43 = .ok (.iload 4, 2) := by decide +kernel
theorem dX2_leave_45 : decode cX2_leave 45 = .ok (.bipush 24, 2) := by decide +kernel
theorem dX2_leave_47 : decode cX2_leave 47 = .ok (.if_icmp .ge 12, 3) := by decide +kernel
theorem dX2_leave_50 : decode cX2_leave 50 = .ok (.aload_n 0, 1) := by decide +kernel
theorem dX2_leave_51 : decode cX2_leave 51 = .ok (.iload_n 3, 1) := by decide +kernel
theorem dX2_leave_52 : decode cX2_leave 52 = .ok (.iload_n 2, 1) := by decide +kernel
theorem dX2_leave_53 : decode cX2_leave 53 = .ok (.invokevirtual 67, 3) := by decide +kernel
theorem dX2_leave_56 : decode cX2_leave 56 = .ok (.ifCond .ne 13, 3) := by decide +kernel
theorem dX2_leave_59 : decode cX2_leave 59 = .ok (.new 71, 3) := by decide +kernel
theorem dX2_leave_62 : decode cX2_leave 62 = .ok (.dup, 1) := by decide +kernel
theorem dX2_leave_63 : decode cX2_leave 63 = .ok (.ldc 73, 2) := by decide +kernel
theorem dX2_leave_65 : decode cX2_leave 65 = .ok (.invokespecial 75, 3) := by decide +kernel
theorem dX2_leave_68 : decode cX2_leave 68 = .ok (.athrow, 1) := by decide +kernel
theorem dX2_leave_69 : decode cX2_leave 69 = .ok (.aload_n 0, 1) := by decide +kernel
theorem dX2_leave_70 : decode cX2_leave 70 = .ok (.getfield 19, 3) := by decide +kernel
theorem dX2_leave_73 : decode cX2_leave 73 = .ok (.new 76, 3) := by decide +kernel
theorem dX2_leave_76 : decode cX2_leave 76 = .ok (.dup, 1) := by decide +kernel
theorem dX2_leave_77 : decode cX2_leave 77 = .ok (.iload 4, 2) := by decide +kernel
theorem dX2_leave_79 : decode cX2_leave 79 = .ok (.iload_n 1, 1) := by decide +kernel
theorem dX2_leave_80 : decode cX2_leave 80 = .ok (.iload_n 2, 1) := by decide +kernel
theorem dX2_leave_81 : decode cX2_leave 81 = .ok (.iload_n 3, 1) := by decide +kernel
theorem dX2_leave_82 : decode cX2_leave 82 = .ok (.aload_n 0, 1) := by decide +kernel
theorem dX2_leave_83 : decode cX2_leave 83 = .ok (.getfield 30, 3) := by decide +kernel
theorem dX2_leave_86 : decode cX2_leave 86 = .ok (.invokespecial 78, 3) := by decide +kernel
theorem dX2_leave_89 : decode cX2_leave 89 = .ok (.invokevirtual 81, 3) := by decide +kernel
theorem dX2_leave_92 : decode cX2_leave 92 = .ok (.pop, 1) := by decide +kernel
theorem dX2_leave_93 : decode cX2_leave 93 = .ok (.iload 4, 2) := by decide +kernel
theorem dX2_leave_95 : decode cX2_leave 95 = .ok (.ireturn, 1) := by decide +kernel
theorem dX2_fetch_0 : decode cX2_fetch 0 = .ok (.aload_n 0, 1) := by decide +kernel
theorem dX2_fetch_1 : decode cX2_fetch 1 = .ok (.iload_n 1, 1) := by decide +kernel
theorem dX2_fetch_2 : decode cX2_fetch 2 = .ok (.invokevirtual 85, 3) := by decide +kernel
theorem dX2_fetch_5 : decode cX2_fetch 5 = .ok (.astore_n 2, 1) := by decide +kernel
theorem dX2_fetch_6 : decode cX2_fetch 6 = .ok (.aload_n 2, 1) := by decide +kernel
theorem dX2_fetch_7 : decode cX2_fetch 7 = .ok (.invokevirtual 89, 3) := by decide +kernel
theorem dX2_fetch_10 : decode cX2_fetch 10 = .ok (.ifCond .eq 10, 3) := by decide +kernel
theorem dX2_fetch_13 : decode cX2_fetch 13 = .ok (.aload_n 2, 1) := by decide +kernel
theorem dX2_fetch_14 : decode cX2_fetch 14 = .ok (.invokevirtual 93, 3) := by decide +kernel
theorem dX2_fetch_17 : decode cX2_fetch 17 = .ok (.ifCond .eq 13, 3) := by decide +kernel
theorem dX2_fetch_20 : decode cX2_fetch 20 = .ok (.new 71, 3) := by decide +kernel
theorem dX2_fetch_23 : decode cX2_fetch 23 = .ok (.dup, 1) := by decide +kernel
theorem dX2_fetch_24 : decode cX2_fetch 24 = .ok (.ldc 96, 2) := by decide +kernel
theorem dX2_fetch_26 : decode cX2_fetch 26 = .ok (.invokespecial 75, 3) := by decide +kernel
theorem dX2_fetch_29 : decode cX2_fetch 29 = .ok (.athrow, 1) := by decide +kernel
theorem dX2_fetch_30 : decode cX2_fetch 30 = .ok (.aload_n 2, 1) := by decide +kernel
theorem dX2_fetch_31 : decode cX2_fetch 31 = .ok (.getfield 98, 3) := by decide +kernel
theorem dX2_fetch_34 : decode cX2_fetch 34 = .ok (.istore_n 3, 1) := by decide +kernel
theorem dX2_fetch_35 : decode cX2_fetch 35 = .ok (.aload_n 0, 1) := by decide +kernel
theorem dX2_fetch_36 : decode cX2_fetch 36 = .ok (.aload_n 2, 1) := by decide +kernel
theorem dX2_fetch_37 : decode cX2_fetch 37 = .ok (.iload_n 3, 1) := by decide +kernel
theorem dX2_fetch_38 : decode cX2_fetch 38 = .ok (.bipush 10, 2) := by decide +kernel
theorem dX2_fetch_40 : decode cX2_fetch 40 = .ok (.invokevirtual 101, 3) := by decide +kernel
theorem dX2_fetch_43 : decode cX2_fetch 43 = .ok (.iload_n 3, 1) := by decide +kernel
theorem dX2_fetch_44 : decode cX2_fetch 44 = .ok (.ireturn, 1) := by decide +kernel
theorem dX2_want_0 : decode cX2_want 0 = .ok (.aload_n 0, 1) := by decide +kernel
theorem dX2_want_1 : decode cX2_want 1 = .ok (.iload_n 1, 1) := by decide +kernel
theorem dX2_want_2 : decode cX2_want 2 = .ok (.invokevirtual 85, 3) := by decide +kernel
theorem dX2_want_5 : decode cX2_want 5 = .ok (.astore_n 3, 1) := by decide +kernel
theorem dX2_want_6 : decode cX2_want 6 = .ok (.iload_n 2, 1) := by decide +kernel
theorem dX2_want_7 : decode cX2_want 7 = .ok (.invokestatic 42, 3) := by decide +kernel
theorem dX2_want_10 : decode cX2_want 10 = .ok (.ifCond .ne 13, 3) := by decide +kernel
theorem dX2_want_13 : decode cX2_want 13 = .ok (.new 49, 3) := by decide +kernel
theorem dX2_want_16 : decode cX2_want 16 = .ok (.dup, 1) := by decide +kernel
theorem dX2_want_17 : decode cX2_want 17 = .ok (.ldc 105, 2) := by decide +kernel
theorem dX2_want_19 : decode cX2_want 19 = .ok (.invokespecial 53, 3) := by decide +kernel
theorem dX2_want_22 : decode cX2_want 22 = .ok (.athrow, 1) := by decide +kernel
theorem dX2_want_23 : decode cX2_want 23 = .ok (.aload_n 3, 1) := by decide +kernel
theorem dX2_want_24 : decode cX2_want 24 = .ok (.invokevirtual 89, 3) := by decide +kernel
theorem dX2_want_27 : decode cX2_want 27 = .ok (.ifCond .eq 11, 3) := by decide +kernel
theorem dX2_want_30 : decode cX2_want 30 = .ok (.aload_n 3, 1) := by decide +kernel
theorem dX2_want_31 : decode cX2_want 31 = .ok (.getfield 107, 3) := by decide +kernel
theorem dX2_want_34 : decode cX2_want 34 = .ok (.iload_n 2, 1) := by decide +kernel
theorem dX2_want_35 : decode cX2_want 35 = .ok (.if_icmp .ne 13, 3) := by decide +kernel
theorem dX2_want_38 : decode cX2_want 38 = .ok (.new 71, 3) := by decide +kernel
theorem dX2_want_41 : decode cX2_want 41 = .ok (.dup, 1) := by decide +kernel
theorem dX2_want_42 : decode cX2_want 42 = .ok (.ldc 110, 2) := by decide +kernel
theorem dX2_want_44 : decode cX2_want 44 = .ok (.invokespecial 75, 3) := by decide +kernel
theorem dX2_want_47 : decode cX2_want 47 = .ok (.athrow, 1) := by decide +kernel
theorem dX2_want_48 : decode cX2_want 48 = .ok (.aload_n 3, 1) := by decide +kernel
theorem dX2_want_49 : decode cX2_want 49 = .ok (.iconst (-1), 1) := by decide +kernel
theorem dX2_want_50 : decode cX2_want 50 = .ok (.putfield 112, 3) := by decide +kernel
theorem dX2_want_53 : decode cX2_want 53 = .ok (.aload_n 0, 1) := by decide +kernel
theorem dX2_want_54 : decode cX2_want 54 = .ok (.invokevirtual 115, 3) := by decide +kernel
theorem dX2_want_57 : decode cX2_want 57 = .ok (.aload_n 3, 1) := by decide +kernel
theorem dX2_want_58 : decode cX2_want 58 = .ok (.iload_n 2, 1) := by decide +kernel
theorem dX2_want_59 : decode cX2_want 59 = .ok (.putfield 112, 3) := by decide +kernel
theorem dX2_want_62 : decode cX2_want 62 = .ok (.aload_n 0, 1) := by decide +kernel
theorem dX2_want_63 : decode cX2_want 63 = .ok (.getfield 23, 3) := by decide +kernel
theorem dX2_want_66 : decode cX2_want 66 = .ok (.aload_n 3, 1) := by decide +kernel
theorem dX2_want_67 : decode cX2_want 67 = .ok (.invokevirtual 81, 3) := by decide +kernel
theorem dX2_want_70 : decode cX2_want 70 = .ok (.pop, 1) := by decide +kernel
theorem dX2_want_71 : decode cX2_want 71 = .ok (.aload_n 0, 1) := by decide +kernel
theorem dX2_want_72 : decode cX2_want 72 = .ok (.getfield 23, 3) := by decide +kernel
theorem dX2_want_75 : decode cX2_want 75 = .ok (.invokevirtual 63, 3) := by decide +kernel
theorem dX2_want_78 : decode cX2_want 78 = .ok (.ireturn, 1) := by decide +kernel
theorem dX2_value_0 : decode cX2_value 0 = .ok (.aload_n 0, 1) := by decide +kernel
theorem dX2_value_1 : decode cX2_value 1 = .ok (.iload_n 1, 1) := by decide +kernel
theorem dX2_value_2 : decode cX2_value 2 = .ok (.invokevirtual 85, 3) := by decide +kernel
theorem dX2_value_5 : decode cX2_value 5 = .ok (.astore_n 3, 1) := by decide +kernel
theorem dX2_value_6 : decode cX2_value 6 = .ok (.iload_n 2, 1) := by decide +kernel
theorem dX2_value_7 : decode cX2_value 7 = .ok (.ifCond .lt 10, 3) := by decide +kernel
theorem dX2_value_10 : decode cX2_value 10 = .ok (.iload_n 2, 1) := by decide +kernel
theorem dX2_value_11 : decode cX2_value 11 = .ok (.sipush 10000, 3) := by decide +kernel
theorem dX2_value_14 : decode cX2_value 14 = .ok (.if_icmp .le 13, 3) := by decide +kernel
theorem dX2_value_17 : decode cX2_value 17 = .ok (.new 49, 3) := by decide +kernel
theorem dX2_value_20 : decode cX2_value 20 = .ok (.dup, 1) := by decide +kernel
theorem dX2_value_21 : decode cX2_value 21 = .ok (.ldc 118, 2) := by decide +kernel
theorem dX2_value_23 : decode cX2_value 23 = .ok (.invokespecial 53, 3) := by decide +kernel
theorem dX2_value_26 : decode cX2_value 26 = .ok (.athrow, 1) := by decide +kernel
theorem dX2_value_27 : decode cX2_value 27 = .ok (.aload_n 3, 1) := by decide +kernel
theorem dX2_value_28 : decode cX2_value 28 = .ok (.invokevirtual 89, 3) := by decide +kernel
theorem dX2_value_31 : decode cX2_value 31 = .ok (.ifCond .ne 13, 3) := by decide +kernel
theorem dX2_value_34 : decode cX2_value 34 = .ok (.new 71, 3) := by decide +kernel
theorem dX2_value_37 : decode cX2_value 37 = .ok (.dup, 1) := by decide +kernel
theorem dX2_value_38 : decode cX2_value 38 = .ok (.ldc 120, 2) := by decide +kernel
theorem dX2_value_40 : decode cX2_value 40 = .ok (.invokespecial 75, 3) := by decide +kernel
theorem dX2_value_43 : decode cX2_value 43 = .ok (.athrow, 1) := by decide +kernel
theorem dX2_value_44 : decode cX2_value 44 = .ok (.aload_n 3, 1) := by decide +kernel
theorem dX2_value_45 : decode cX2_value 45 = .ok (.getfield 122, 3) := by decide +kernel
theorem dX2_value_48 : decode cX2_value 48 = .ok (.istore 4, 2) := by decide +kernel
theorem dX2_value_50 : decode cX2_value 50 = .ok (.aload_n 3, 1) := by decide +kernel
theorem dX2_value_51 : decode cX2_value 51 = .ok (.iload_n 2, 1) := by decide +kernel
theorem dX2_value_52 : decode cX2_value 52 = .ok (.putfield 122, 3) := by decide +kernel
theorem dX2_value_55 : decode cX2_value 55 = .ok (.iload 4, 2) := by decide +kernel
theorem dX2_value_57 : decode cX2_value 57 = .ok (.ireturn, 1) := by decide +kernel
theorem dX2_lend_0 : decode cX2_lend 0 = .ok (.aload_n 0, 1) := by decide +kernel
theorem dX2_lend_1 : decode cX2_lend 1 = .ok (.iload_n 1, 1) := by decide +kernel
theorem dX2_lend_2 : decode cX2_lend 2 = .ok (.invokevirtual 85, 3) := by decide +kernel
theorem dX2_lend_5 : decode cX2_lend 5 = .ok (.astore 4, 2) := by decide +kernel
theorem dX2_lend_7 : decode cX2_lend 7 = .ok (.iload_n 2, 1) := by decide +kernel
theorem dX2_lend_8 : decode cX2_lend 8 = .ok (.invokestatic 58, 3) := by decide +kernel
theorem dX2_lend_11 : decode cX2_lend 11 = .ok (.ifCond .eq 15, 3) := by decide +kernel
theorem dX2_lend_14 : decode cX2_lend 14 = .ok (.iload_n 3, 1) := by decide +kernel
theorem dX2_lend_15 : decode cX2_lend 15 = .ok (.iconst 1, 1) := by decide +kernel
theorem dX2_lend_16 : decode cX2_lend 16 = .ok (.if_icmp .lt 10, 3) := by decide +kernel
theorem dX2_lend_19 : decode cX2_lend 19 = .ok (.iload_n 3, 1) := by decide +kernel
theorem dX2_lend_20 : decode cX2_lend 20 = .ok (.sipush 5000, 3) := by decide +kernel
theorem dX2_lend_23 : decode cX2_lend 23 = .ok (.if_icmp .le 13, 3) := by decide +kernel
theorem dX2_lend_26 : decode cX2_lend 26 = .ok (.new 49, 3) := by decide +kernel
theorem dX2_lend_29 : decode cX2_lend 29 = .ok (.dup, 1) := by decide +kernel
theorem dX2_lend_30 : decode cX2_lend 30 = .ok (.ldc 125, 2) := by decide +kernel
theorem dX2_lend_32 : decode cX2_lend 32 = .ok (.invokespecial 53, 3) := by decide +kernel
theorem dX2_lend_35 : decode cX2_lend 35 = .ok (.athrow, 1) := by decide +kernel
theorem dX2_lend_36 : decode cX2_lend 36 = .ok (.aload 4, 2) := by decide +kernel
theorem dX2_lend_38 : decode cX2_lend 38 = .ok (.invokevirtual 89, 3) := by decide +kernel
theorem dX2_lend_41 : decode cX2_lend 41 = .ok (.ifCond .eq 11, 3) := by decide +kernel
theorem dX2_lend_44 : decode cX2_lend 44 = .ok (.aload 4, 2) := by decide +kernel
theorem dX2_lend_46 : decode cX2_lend 46 = .ok (.invokevirtual 93, 3) := by decide +kernel
theorem dX2_lend_49 : decode cX2_lend 49 = .ok (.ifCond .eq 13, 3) := by decide +kernel
theorem dX2_lend_52 : decode cX2_lend 52 = .ok (.new 71, 3) := by decide +kernel
theorem dX2_lend_55 : decode cX2_lend 55 = .ok (.dup, 1) := by decide +kernel
theorem dX2_lend_56 : decode cX2_lend 56 = .ok (.ldc 96, 2) := by decide +kernel
theorem dX2_lend_58 : decode cX2_lend 58 = .ok (.invokespecial 75, 3) := by decide +kernel
theorem dX2_lend_61 : decode cX2_lend 61 = .ok (.athrow, 1) := by decide +kernel
theorem dX2_lend_62 : decode cX2_lend 62 = .ok (.iload_n 2, 1) := by decide +kernel
theorem dX2_lend_63 : decode cX2_lend 63 = .ok (.aload 4, 2) := by decide +kernel
theorem dX2_lend_65 : decode cX2_lend 65 = .ok (.getfield 127, 3) := by decide +kernel
theorem dX2_lend_68 : decode cX2_lend 68 = .ok (.if_icmp .eq 14, 3) := by decide +kernel
theorem dX2_lend_71 : decode cX2_lend 71 = .ok (.iload_n 3, 1) := by decide +kernel
theorem dX2_lend_72 : decode cX2_lend 72 = .ok (.aload 4, 2) := by decide +kernel
theorem dX2_lend_74 : decode cX2_lend 74 = .ok (.getfield 122, 3) := by decide +kernel
theorem dX2_lend_77 : decode cX2_lend 77 = .ok (.iconst 2, 1) := by decide +kernel
theorem dX2_lend_78 : decode cX2_lend 78 = .ok (.idiv, 1) := by decide +kernel
theorem dX2_lend_79 : decode cX2_lend 79 = .ok (.if_icmp .le 13, 3) := by decide +kernel
theorem dX2_lend_82 : decode cX2_lend 82 = .ok (.new 71, 3) := by decide +kernel
theorem dX2_lend_85 : decode cX2_lend 85 = .ok (.dup, 1) := by decide +kernel
theorem dX2_lend_86 : decode cX2_lend 86 = .ok (.ldc 130, 2) := by decide +kernel
theorem dX2_lend_88 : decode cX2_lend 88 = .ok (.invokespecial 75, 3) := by decide +kernel
theorem dX2_lend_91 : decode cX2_lend 91 = .ok (.athrow, 1) := by decide +kernel
theorem dX2_lend_92 : decode cX2_lend 92 = .ok (.aload 4, 2) := by decide +kernel
theorem dX2_lend_94 : decode cX2_lend 94 = .ok (.iload_n 2, 1) := by decide +kernel
theorem dX2_lend_95 : decode cX2_lend 95 = .ok (.iload_n 3, 1) := by decide +kernel
theorem dX2_lend_96 : decode cX2_lend 96 = .ok (.invokevirtual 132, 3) := by decide +kernel
theorem dX2_lend_99 : decode cX2_lend 99 = .ok (.aload_n 0, 1) := by decide +kernel
theorem dX2_lend_100 : decode cX2_lend 100 = .ok (.aload 4, 2) := by decide +kernel
theorem dX2_lend_102 : decode cX2_lend 102 = .ok (.getfield 127, 3) := by decide +kernel
theorem dX2_lend_105 : decode cX2_lend 105 = .ok (.iload_n 3, 1) := by decide +kernel
theorem dX2_lend_106 : decode cX2_lend 106 = .ok (.invokevirtual 136, 3) := by decide +kernel
theorem dX2_lend_109 : decode cX2_lend 109 = .ok (.return_, 1) := by decide +kernel
theorem dX2_repay_0 : decode cX2_repay 0 = .ok (.aload_n 0, 1) := by decide +kernel
theorem dX2_repay_1 : decode cX2_repay 1 = .ok (.iload_n 1, 1) := by decide +kernel
theorem dX2_repay_2 : decode cX2_repay 2 = .ok (.invokevirtual 85, 3) := by decide +kernel
theorem dX2_repay_5 : decode cX2_repay 5 = .ok (.astore_n 2, 1) := by decide +kernel
theorem dX2_repay_6 : decode cX2_repay 6 = .ok (.aload_n 2, 1) := by decide +kernel
theorem dX2_repay_7 : decode cX2_repay 7 = .ok (.invokevirtual 93, 3) := by decide +kernel
theorem dX2_repay_10 : decode cX2_repay 10 = .ok (.ifCond .ne 13, 3) := by decide +kernel
theorem dX2_repay_13 : decode cX2_repay 13 = .ok (.new 71, 3) := by decide +kernel
theorem dX2_repay_16 : decode cX2_repay 16 = .ok (.dup, 1) := by decide +kernel
theorem dX2_repay_17 : decode cX2_repay 17 = .ok (.ldc 139, 2) := by decide +kernel
theorem dX2_repay_19 : decode cX2_repay 19 = .ok (.invokespecial 75, 3) := by decide +kernel
theorem dX2_repay_22 : decode cX2_repay 22 = .ok (.athrow, 1) := by decide +kernel
theorem dX2_repay_23 : decode cX2_repay 23 = .ok (.aload_n 2, 1) := by decide +kernel
theorem dX2_repay_24 : decode cX2_repay 24 = .ok (.getfield 141, 3) := by decide +kernel
theorem dX2_repay_27 : decode cX2_repay 27 = .ok (.istore_n 3, 1) := by decide +kernel
theorem dX2_repay_28 : decode cX2_repay 28 = .ok (.aload_n 0, 1) := by decide +kernel
theorem dX2_repay_29 : decode cX2_repay 29 = .ok (.aload_n 2, 1) := by decide +kernel
theorem dX2_repay_30 : decode cX2_repay 30 = .ok (.getfield 144, 3) := by decide +kernel
theorem dX2_repay_33 : decode cX2_repay 33 = .ok (.iload_n 3, 1) := by decide +kernel
theorem dX2_repay_34 : decode cX2_repay 34 = .ok (.invokevirtual 136, 3) := by decide +kernel
theorem dX2_repay_37 : decode cX2_repay 37 = .ok (.aload_n 2, 1) := by decide +kernel
theorem dX2_repay_38 : decode cX2_repay 38 = .ok (.invokevirtual 147, 3) := by decide +kernel
theorem dX2_repay_41 : decode cX2_repay 41 = .ok (.iload_n 3, 1) := by decide +kernel
theorem dX2_repay_42 : decode cX2_repay 42 = .ok (.ireturn, 1) := by decide +kernel
theorem dX2_doubt_0 : decode cX2_doubt 0 = .ok (.aload_n 0, 1) := by decide +kernel
theorem dX2_doubt_1 : decode cX2_doubt 1 = .ok (.iload_n 1, 1) := by decide +kernel
theorem dX2_doubt_2 : decode cX2_doubt 2 = .ok (.invokevirtual 85, 3) := by decide +kernel
theorem dX2_doubt_5 : decode cX2_doubt 5 = .ok (.astore_n 2, 1) := by decide +kernel
theorem dX2_doubt_6 : decode cX2_doubt 6 = .ok (.aload_n 2, 1) := by decide +kernel
theorem dX2_doubt_7 : decode cX2_doubt 7 = .ok (.invokevirtual 93, 3) := by decide +kernel
theorem dX2_doubt_10 : decode cX2_doubt 10 = .ok (.ifCond .eq 10, 3) := by decide +kernel
theorem dX2_doubt_13 : decode cX2_doubt 13 = .ok (.aload_n 2, 1) := by decide +kernel
theorem dX2_doubt_14 : decode cX2_doubt 14 = .ok (.invokevirtual 150, 3) := by decide +kernel
theorem dX2_doubt_17 : decode cX2_doubt 17 = .ok (.ifCond .eq 13, 3) := by decide +kernel
theorem dX2_doubt_20 : decode cX2_doubt 20 = .ok (.new 71, 3) := by decide +kernel
theorem dX2_doubt_23 : decode cX2_doubt 23 = .ok (.dup, 1) := by decide +kernel
theorem dX2_doubt_24 : decode cX2_doubt 24 = .ok (.ldc 153, 2) := by decide +kernel
theorem dX2_doubt_26 : decode cX2_doubt 26 = .ok (.invokespecial 75, 3) := by decide +kernel
theorem dX2_doubt_29 : decode cX2_doubt 29 = .ok (.athrow, 1) := by decide +kernel
theorem dX2_doubt_30 : decode cX2_doubt 30 = .ok (.aload_n 2, 1) := by decide +kernel
theorem dX2_doubt_31 : decode cX2_doubt 31 = .ok (.aload_n 0, 1) := by decide +kernel
theorem dX2_doubt_32 : decode cX2_doubt 32 = .ok (.getfield 30, 3) := by decide +kernel
theorem dX2_doubt_35 : decode cX2_doubt 35 = .ok (.iconst 3, 1) := by decide +kernel
theorem dX2_doubt_36 : decode cX2_doubt 36 = .ok (.iadd, 1) := by decide +kernel
theorem dX2_doubt_37 : decode cX2_doubt 37 = .ok (.putfield 155, 3) := by decide +kernel
theorem dX2_doubt_40 : decode cX2_doubt 40 = .ok (.aload_n 2, 1) := by decide +kernel
theorem dX2_doubt_41 : decode cX2_doubt 41 = .ok (.getfield 155, 3) := by decide +kernel
theorem dX2_doubt_44 : decode cX2_doubt 44 = .ok (.ireturn, 1) := by decide +kernel
theorem dX2_pass_0 : decode cX2_pass 0 = .ok (.iload_n 1, 1) := by decide +kernel
theorem dX2_pass_1 : decode cX2_pass 1 = .ok (.iconst 1, 1) := by decide +kernel
theorem dX2_pass_2 : decode cX2_pass 2 = .ok (.if_icmp .lt 9, 3) := by decide +kernel
theorem dX2_pass_5 : decode cX2_pass 5 = .ok (.iload_n 1, 1) := by decide +kernel
theorem dX2_pass_6 : decode cX2_pass 6 = .ok (.bipush 40, 2) := by decide +kernel
theorem dX2_pass_8 : decode cX2_pass 8 = .ok (.if_icmp .le 13, 3) := by decide +kernel
theorem dX2_pass_11 : decode cX2_pass 11 = .ok (.new 49, 3) := by decide +kernel
theorem dX2_pass_14 : decode cX2_pass 14 = .ok (.dup, 1) := by decide +kernel
theorem dX2_pass_15 : decode cX2_pass 15 = .ok (.ldc 158, 2) := by decide +kernel
theorem dX2_pass_17 : decode cX2_pass 17 = .ok (.invokespecial 53, 3) := by decide +kernel
theorem dX2_pass_20 : decode cX2_pass 20 = .ok (.athrow, 1) := by decide +kernel
theorem dX2_pass_21 : decode cX2_pass 21 = .ok (.aload_n 0, 1) := by decide +kernel
theorem dX2_pass_22 : decode cX2_pass 22 = .ok (.getfield 30, 3) := by decide +kernel
theorem dX2_pass_25 : decode cX2_pass 25 = .ok (.iload_n 1, 1) := by decide +kernel
theorem dX2_pass_26 : decode cX2_pass 26 = .ok (.iadd, 1) := by decide +kernel
theorem dX2_pass_27 : decode cX2_pass 27 = .ok (.sipush 1000, 3) := by decide +kernel
theorem dX2_pass_30 : decode cX2_pass 30 = .ok (.if_icmp .le 13, 3) := by decide +kernel
theorem dX2_pass_33 : decode cX2_pass 33 = .ok (.new 71, 3) := by decide +kernel
theorem dX2_pass_36 : decode cX2_pass 36 = .ok (.dup, 1) := by decide +kernel
theorem dX2_pass_37 : decode cX2_pass 37 = .ok (.ldc 160, 2) := by decide +kernel
theorem dX2_pass_39 : decode cX2_pass 39 = .ok (.invokespecial 75, 3) := by decide +kernel
theorem dX2_pass_42 : decode cX2_pass 42 = .ok (.athrow, 1) := by decide +kernel
theorem dX2_pass_43 : decode cX2_pass 43 = .ok (.iconst 0, 1) := by decide +kernel
theorem dX2_pass_44 : decode cX2_pass 44 = .ok (.istore_n 2, 1) := by decide +kernel
theorem dX2_pass_45 : decode cX2_pass 45 = .ok (.iconst 0, 1) := by decide +kernel
theorem dX2_pass_46 : decode cX2_pass 46 = .ok (.istore_n 3, 1) := by decide +kernel
theorem dX2_pass_47 : decode cX2_pass 47 = .ok (.iload_n 3, 1) := by decide +kernel
theorem dX2_pass_48 : decode cX2_pass 48 = .ok (.iload_n 1, 1) := by decide +kernel
theorem dX2_pass_49 : decode cX2_pass 49 = .ok (.if_icmp .ge 16, 3) := by decide +kernel
theorem dX2_pass_52 : decode cX2_pass 52 = .ok (.iload_n 2, 1) := by decide +kernel
theorem dX2_pass_53 : decode cX2_pass 53 = .ok (.aload_n 0, 1) := by decide +kernel
theorem dX2_pass_54 : decode cX2_pass 54 = .ok (.invokevirtual 162, 3) := by decide +kernel
theorem dX2_pass_57 : decode cX2_pass 57 = .ok (.iadd, 1) := by decide +kernel
theorem dX2_pass_58 : decode cX2_pass 58 = .ok (.istore_n 2, 1) := by decide +kernel
theorem dX2_pass_59 : decode cX2_pass 59 = .ok (.iinc 3 1, 3) := by decide +kernel
theorem dX2_pass_62 : decode cX2_pass 62 = .ok (.goto (-15), 3) := by decide +kernel
theorem dX2_pass_65 : decode cX2_pass 65 = .ok (.iload_n 2, 1) := by decide +kernel
theorem dX2_pass_66 : decode cX2_pass 66 = .ok (.ireturn, 1) := by decide +kernel
theorem dX2_day_0 : decode cX2_day 0 = .ok (.aload_n 0, 1) := by decide +kernel
theorem dX2_day_1 : decode cX2_day 1 = .ok (.getfield 30, 3) := by decide +kernel
theorem dX2_day_4 : decode cX2_day 4 = .ok (.ireturn, 1) := by decide +kernel
theorem dX2_things_0 : decode cX2_things 0 = .ok (.aload_n 0, 1) := by decide +kernel
theorem dX2_things_1 : decode cX2_things 1 = .ok (.getfield 19, 3) := by decide +kernel
theorem dX2_things_4 : decode cX2_things 4 = .ok (.invokevirtual 63, 3) := by decide +kernel
theorem dX2_things_7 : decode cX2_things 7 = .ok (.ireturn, 1) := by decide +kernel
theorem dX2_where_0 : decode cX2_where 0 = .ok (.aload_n 0, 1) := by decide +kernel
theorem dX2_where_1 : decode cX2_where 1 = .ok (.iload_n 1, 1) := by decide +kernel
theorem dX2_where_2 : decode cX2_where 2 = .ok (.invokevirtual 85, 3) := by decide +kernel
theorem dX2_where_5 : decode cX2_where 5 = .ok (.getfield 107, 3) := by decide +kernel
theorem dX2_where_8 : decode cX2_where 8 = .ok (.ireturn, 1) := by decide +kernel
theorem dX2_whereOn_0 : decode cX2_whereOn 0 = .ok (.aload_n 0, 1) := by decide +kernel
theorem dX2_whereOn_1 : decode cX2_whereOn 1 = .ok (.iload_n 1, 1) := by decide +kernel
theorem dX2_whereOn_2 : decode cX2_whereOn 2 = .ok (.invokevirtual 85, 3) := by decide +kernel
theorem dX2_whereOn_5 : decode cX2_whereOn 5 = .ok (.astore_n 3, 1) := by decide +kernel
theorem dX2_whereOn_6 : decode cX2_whereOn 6 = .ok (.iload_n 2, 1) := by decide +kernel
theorem dX2_whereOn_7 : decode cX2_whereOn 7 = .ok (.ifCond .lt 11, 3) := by decide +kernel
theorem dX2_whereOn_10 : decode cX2_whereOn 10 = .ok (.iload_n 2, 1) := by decide +kernel
theorem dX2_whereOn_11 : decode cX2_whereOn 11 = .ok (.aload_n 0, 1) := by decide +kernel
theorem dX2_whereOn_12 : decode cX2_whereOn 12 = .ok (.getfield 30, 3) := by decide +kernel
theorem dX2_whereOn_15 : decode cX2_whereOn 15 = .ok (.if_icmp .le 13, 3) := by decide +kernel
theorem dX2_whereOn_18 : decode cX2_whereOn 18 = .ok (.new 49, 3) := by decide +kernel
theorem dX2_whereOn_21 : decode cX2_whereOn 21 = .ok (.dup, 1) := by decide +kernel
theorem dX2_whereOn_22 : decode cX2_whereOn 22 = .ok (.ldc 165, 2) := by decide +kernel
theorem dX2_whereOn_24 : decode cX2_whereOn 24 = .ok (.invokespecial 53, 3) := by decide +kernel
theorem dX2_whereOn_27 : decode cX2_whereOn 27 = .ok (.athrow, 1) := by decide +kernel
theorem dX2_whereOn_28 : decode cX2_whereOn 28 = .ok (.iload_n 2, 1) := by decide +kernel
theorem dX2_whereOn_29 : decode cX2_whereOn 29 = .ok (.aload_n 0, 1) := by decide +kernel
theorem dX2_whereOn_30 : decode cX2_whereOn 30 = .ok (.getfield 30, 3) := by decide +kernel
theorem dX2_whereOn_33 : decode cX2_whereOn 33 = .ok (.if_icmp .ne 10, 3) := by decide +kernel
theorem dX2_whereOn_36 : decode cX2_whereOn 36 = .ok (.aload_n 3, 1) := by decide +kernel
theorem dX2_whereOn_37 : decode cX2_whereOn 37 = .ok (.getfield 107, 3) := by decide +kernel
theorem dX2_whereOn_40 : decode cX2_whereOn 40 = .ok (.goto 8, 3) := by decide +kernel
theorem dX2_whereOn_43 : decode cX2_whereOn 43 = .ok (.aload_n 3, 1) := by decide +kernel
theorem dX2_whereOn_44 : decode cX2_whereOn 44 = .ok (.iload_n 2, 1) := by decide +kernel
theorem dX2_whereOn_45 : decode cX2_whereOn 45 = .ok (.invokevirtual 167, 3) := by decide +kernel
theorem dX2_whereOn_48 : decode cX2_whereOn 48 = .ok (.ireturn, 1) := by decide +kernel
theorem dX2_load_0 : decode cX2_load 0 = .ok (.iload_n 1, 1) := by decide +kernel
theorem dX2_load_1 : decode cX2_load 1 = .ok (.invokestatic 42, 3) := by decide +kernel
theorem dX2_load_4 : decode cX2_load 4 = .ok (.ifCond .ne 13, 3) := by decide +kernel
theorem dX2_load_7 : decode cX2_load 7 = .ok (.new 49, 3) := by decide +kernel
theorem dX2_load_10 : decode cX2_load 10 = .ok (.dup, 1) := by decide +kernel
theorem dX2_load_11 : decode cX2_load 11 = .ok (.ldc 105, 2) := by decide +kernel
theorem dX2_load_13 : decode cX2_load 13 = .ok (.invokespecial 53, 3) := by decide +kernel
theorem dX2_load_16 : decode cX2_load 16 = .ok (.athrow, 1) := by decide +kernel
theorem dX2_load_17 : decode cX2_load 17 = .ok (.aload_n 0, 1) := by decide +kernel
theorem dX2_load_18 : decode cX2_load 18 = .ok (.iload_n 1, 1) := by decide +kernel
theorem dX2_load_19 : decode cX2_load 19 = .ok (.invokevirtual 171, 3) := by decide +kernel
theorem dX2_load_22 : decode cX2_load 22 = .ok (.ireturn, 1) := by decide +kernel
theorem dX2_fees_0 : decode cX2_fees 0 = .ok (.aload_n 0, 1) := by decide +kernel
theorem dX2_fees_1 : decode cX2_fees 1 = .ok (.iload_n 1, 1) := by decide +kernel
theorem dX2_fees_2 : decode cX2_fees 2 = .ok (.invokevirtual 85, 3) := by decide +kernel
theorem dX2_fees_5 : decode cX2_fees 5 = .ok (.getfield 98, 3) := by decide +kernel
theorem dX2_fees_8 : decode cX2_fees 8 = .ok (.ireturn, 1) := by decide +kernel
theorem dX2_loan_0 : decode cX2_loan 0 = .ok (.aload_n 0, 1) := by decide +kernel
theorem dX2_loan_1 : decode cX2_loan 1 = .ok (.iload_n 1, 1) := by decide +kernel
theorem dX2_loan_2 : decode cX2_loan 2 = .ok (.invokevirtual 85, 3) := by decide +kernel
theorem dX2_loan_5 : decode cX2_loan 5 = .ok (.getfield 141, 3) := by decide +kernel
theorem dX2_loan_8 : decode cX2_loan 8 = .ok (.ireturn, 1) := by decide +kernel
theorem dX2_purse_0 : decode cX2_purse 0 = .ok (.iload_n 1, 1) := by decide +kernel
theorem dX2_purse_1 : decode cX2_purse 1 = .ok (.invokestatic 58, 3) := by decide +kernel
theorem dX2_purse_4 : decode cX2_purse 4 = .ok (.ifCond .ne 13, 3) := by decide +kernel
theorem dX2_purse_7 : decode cX2_purse 7 = .ok (.new 49, 3) := by decide +kernel
theorem dX2_purse_10 : decode cX2_purse 10 = .ok (.dup, 1) := by decide +kernel
theorem dX2_purse_11 : decode cX2_purse 11 = .ok (.ldc 174, 2) := by decide +kernel
theorem dX2_purse_13 : decode cX2_purse 13 = .ok (.invokespecial 53, 3) := by decide +kernel
theorem dX2_purse_16 : decode cX2_purse 16 = .ok (.athrow, 1) := by decide +kernel
theorem dX2_purse_17 : decode cX2_purse 17 = .ok (.aload_n 0, 1) := by decide +kernel
theorem dX2_purse_18 : decode cX2_purse 18 = .ok (.getfield 13, 3) := by decide +kernel
theorem dX2_purse_21 : decode cX2_purse 21 = .ok (.iload_n 1, 1) := by decide +kernel
theorem dX2_purse_22 : decode cX2_purse 22 = .ok (.iaload, 1) := by decide +kernel
theorem dX2_purse_23 : decode cX2_purse 23 = .ok (.ireturn, 1) := by decide +kernel
theorem dX2_taken_0 : decode cX2_taken 0 = .ok (.aload_n 0, 1) := by decide +kernel
theorem dX2_taken_1 : decode cX2_taken 1 = .ok (.getfield 33, 3) := by decide +kernel
theorem dX2_taken_4 : decode cX2_taken 4 = .ok (.ireturn, 1) := by decide +kernel
theorem dX2_isCounter_0 : decode cX2_isCounter 0 = .ok (.iload_n 0, 1) := by decide +kernel
theorem dX2_isCounter_1 : decode cX2_isCounter 1 = .ok (.ifCond .lt 12, 3) := by decide +kernel
theorem dX2_isCounter_4 : decode cX2_isCounter 4 = .ok (.iload_n 0, 1) := by decide +kernel
theorem dX2_isCounter_5 : decode cX2_isCounter 5 = .ok (.iconst 5, 1) := by decide +kernel
theorem dX2_isCounter_6 : decode cX2_isCounter 6 = .ok (.if_icmp .ge 7, 3) := by decide +kernel
theorem dX2_isCounter_9 : decode cX2_isCounter 9 = .ok (.iconst 1, 1) := by decide +kernel
theorem dX2_isCounter_10 : decode cX2_isCounter 10 = .ok (.goto 4, 3) := by decide +kernel
theorem dX2_isCounter_13 : decode cX2_isCounter 13 = .ok (.iconst 0, 1) := by decide +kernel
theorem dX2_isCounter_14 : decode cX2_isCounter 14 = .ok (.ireturn, 1) := by decide +kernel
theorem dX2_isPerson_0 : decode cX2_isPerson 0 = .ok (.iload_n 0, 1) := by decide +kernel
theorem dX2_isPerson_1 : decode cX2_isPerson 1 = .ok (.ifCond .lt 13, 3) := by decide +kernel
theorem dX2_isPerson_4 : decode cX2_isPerson 4 = .ok (.iload_n 0, 1) := by decide +kernel
theorem dX2_isPerson_5 : decode cX2_isPerson 5 = .ok (.bipush 8, 2) := by decide +kernel
theorem dX2_isPerson_7 : decode cX2_isPerson 7 = .ok (.if_icmp .ge 7, 3) := by decide +kernel
theorem dX2_isPerson_10 : decode cX2_isPerson 10 = .ok (.iconst 1, 1) := by decide +kernel
theorem dX2_isPerson_11 : decode cX2_isPerson 11 = .ok (.goto 4, 3) := by decide +kernel
theorem dX2_isPerson_14 : decode cX2_isPerson 14 = .ok (.iconst 0, 1) := by decide +kernel
theorem dX2_isPerson_15 : decode cX2_isPerson 15 = .ok (.ireturn, 1) := by decide +kernel
theorem dX2_thingNumbered_0 : decode cX2_thingNumbered 0 = .ok (.iload_n 1, 1) := by decide +kernel
theorem dX2_thingNumbered_1 : decode cX2_thingNumbered 1 = .ok (.ifCond .lt 14, 3) := by decide +kernel
theorem dX2_thingNumbered_4 : decode cX2_thingNumbered 4 = .ok (.iload_n 1, 1) := by decide +kernel
theorem dX2_thingNumbered_5 : decode cX2_thingNumbered 5 = .ok (.aload_n 0, 1) := by decide +kernel
theorem dX2_thingNumbered_6 : decode cX2_thingNumbered 6 = .ok (.getfield 19, 3) := by decide +kernel
theorem dX2_thingNumbered_9 : decode cX2_thingNumbered 9 = .ok (.invokevirtual 63, 3) := by decide +kernel
theorem dX2_thingNumbered_12 : decode cX2_thingNumbered 12 = .ok (.if_icmp .lt 13, 3) := by decide +kernel
theorem dX2_thingNumbered_15 : decode cX2_thingNumbered 15 = .ok (.new 176, 3) := by decide +kernel
theorem dX2_thingNumbered_18 : decode cX2_thingNumbered 18 = .ok (.dup, 1) := by decide +kernel
theorem dX2_thingNumbered_19 : decode cX2_thingNumbered 19 = .ok (.ldc 188, 2) := by decide +kernel
theorem dX2_thingNumbered_21 : decode cX2_thingNumbered 21 = .ok (.invokespecial 180, 3) := by decide +kernel
theorem dX2_thingNumbered_24 : decode cX2_thingNumbered 24 = .ok (.athrow, 1) := by decide +kernel
theorem dX2_thingNumbered_25 : decode cX2_thingNumbered 25 = .ok (.aload_n 0, 1) := by decide +kernel
theorem dX2_thingNumbered_26 : decode cX2_thingNumbered 26 = .ok (.getfield 19, 3) := by decide +kernel
theorem dX2_thingNumbered_29 : decode cX2_thingNumbered 29 = .ok (.iload_n 1, 1) := by decide +kernel
theorem dX2_thingNumbered_30 : decode cX2_thingNumbered 30 = .ok (.invokevirtual 181, 3) := by decide +kernel
theorem dX2_thingNumbered_33 : decode cX2_thingNumbered 33 = .ok (.checkcast 76, 3) := by decide +kernel
theorem dX2_thingNumbered_36 : decode cX2_thingNumbered 36 = .ok (.areturn, 1) := by decide +kernel
theorem dX2_sizesAt_0 : decode cX2_sizesAt 0 = .ok (.iconst 0, 1) := by decide +kernel
theorem dX2_sizesAt_1 : decode cX2_sizesAt 1 = .ok (.istore_n 2, 1) := by decide +kernel
theorem dX2_sizesAt_2 : decode cX2_sizesAt 2 = .ok (.iconst 0, 1) := by decide +kernel
theorem dX2_sizesAt_3 : decode cX2_sizesAt 3 = .ok (.istore_n 3, 1) := by decide +kernel
theorem dX2_sizesAt_4 : decode cX2_sizesAt 4 = .ok (.iload_n 3, 1) := by decide +kernel
theorem dX2_sizesAt_5 : decode cX2_sizesAt 5 = .ok (.aload_n 0, 1) := by decide +kernel
theorem dX2_sizesAt_6 : decode cX2_sizesAt 6 = .ok (.getfield 19, 3) := by decide +kernel
theorem dX2_sizesAt_9 : decode cX2_sizesAt 9 = .ok (.invokevirtual 63, 3) := by decide +kernel
theorem dX2_sizesAt_12 : decode cX2_sizesAt 12 = .ok (.if_icmp .ge 39, 3) := by decide +kernel
theorem dX2_sizesAt_15 : decode cX2_sizesAt 15 = .ok (.aload_n 0, 1) := by decide +kernel
theorem dX2_sizesAt_16 : decode cX2_sizesAt 16 = .ok (.getfield 19, 3) := by decide +kernel
theorem dX2_sizesAt_19 : decode cX2_sizesAt 19 = .ok (.iload_n 3, 1) := by decide +kernel
theorem dX2_sizesAt_20 : decode cX2_sizesAt 20 = .ok (.invokevirtual 181, 3) := by decide +kernel
theorem dX2_sizesAt_23 : decode cX2_sizesAt 23 = .ok (.checkcast 76, 3) := by decide +kernel
theorem dX2_sizesAt_26 : decode cX2_sizesAt 26 = .ok (.astore 4, 2) := by decide +kernel
theorem dX2_sizesAt_28 : decode cX2_sizesAt 28 = .ok (.aload 4, 2) := by decide +kernel
theorem dX2_sizesAt_30 : decode cX2_sizesAt 30 = .ok (.getfield 107, 3) := by decide +kernel
theorem dX2_sizesAt_33 : decode cX2_sizesAt 33 = .ok (.iload_n 1, 1) := by decide +kernel
theorem dX2_sizesAt_34 : decode cX2_sizesAt 34 = .ok (.if_icmp .ne 11, 3) := by decide +kernel
theorem dX2_sizesAt_37 : decode cX2_sizesAt 37 = .ok (.iload_n 2, 1) := by decide +kernel
theorem dX2_sizesAt_38 : decode cX2_sizesAt 38 = .ok (.aload 4, 2) := by decide +kernel
theorem dX2_sizesAt_40 : decode cX2_sizesAt 40 = .ok (.getfield 190, 3) := by decide +kernel
theorem dX2_sizesAt_43 : decode cX2_sizesAt 43 = .ok (.iadd, 1) := by decide +kernel
theorem dX2_sizesAt_44 : decode cX2_sizesAt 44 = .ok (.istore_n 2, 1) := by decide +kernel
theorem dX2_sizesAt_45 : decode cX2_sizesAt 45 = .ok (.iinc 3 1, 3) := by decide +kernel
theorem dX2_sizesAt_48 : decode cX2_sizesAt 48 = .ok (.goto (-44), 3) := by decide +kernel
theorem dX2_sizesAt_51 : decode cX2_sizesAt 51 = .ok (.iload_n 2, 1) := by decide +kernel
theorem dX2_sizesAt_52 : decode cX2_sizesAt 52 = .ok (.ireturn, 1) := by decide +kernel
theorem dX2_hasRoomFor_0 : decode cX2_hasRoomFor 0 = .ok (.iload_n 1, 1) := by decide +kernel
theorem dX2_hasRoomFor_1 : decode cX2_hasRoomFor 1 = .ok (.invokestatic 42, 3) := by decide +kernel
theorem dX2_hasRoomFor_4 : decode cX2_hasRoomFor 4 = .ok (.ifCond .eq 23, 3) := by decide +kernel
theorem dX2_hasRoomFor_7 : decode cX2_hasRoomFor 7 = .ok (.aload_n 0, 1) := by decide +kernel
theorem dX2_hasRoomFor_8 : decode cX2_hasRoomFor 8 = .ok (.iload_n 1, 1) := by decide +kernel
theorem dX2_hasRoomFor_9 : decode cX2_hasRoomFor 9 = .ok (.invokevirtual 171, 3) := by decide +kernel
theorem dX2_hasRoomFor_12 : decode cX2_hasRoomFor 12 = .ok (.iload_n 2, 1) := by decide +kernel
theorem dX2_hasRoomFor_13 : decode cX2_hasRoomFor 13 = .ok (.iadd, 1) := by decide +kernel
theorem dX2_hasRoomFor_14 : decode cX2_hasRoomFor 14 = .ok (.aload_n 0, 1) := by decide +kernel
theorem dX2_hasRoomFor_15 : decode cX2_hasRoomFor 15 = .ok (.getfield 9, 3) := by decide +kernel
theorem dX2_hasRoomFor_18 : decode cX2_hasRoomFor 18 = .ok (.iload_n 1, 1) := by decide +kernel
theorem dX2_hasRoomFor_19 : decode cX2_hasRoomFor 19 = .ok (.iaload, 1) := by decide +kernel
theorem dX2_hasRoomFor_20 : decode cX2_hasRoomFor 20 = .ok (.if_icmp .gt 7, 3) := by decide +kernel
theorem dX2_hasRoomFor_23 : decode cX2_hasRoomFor 23 = .ok (.iconst 1, 1) := by decide +kernel
theorem dX2_hasRoomFor_24 : decode cX2_hasRoomFor 24 = .ok (.goto 4, 3) := by decide +kernel
theorem dX2_hasRoomFor_27 : decode cX2_hasRoomFor 27 = .ok (.iconst 0, 1) := by decide +kernel
theorem dX2_hasRoomFor_28 : decode cX2_hasRoomFor 28 = .ok (.ireturn, 1) := by decide +kernel
theorem dX2_putIntoPurse_0 : decode cX2_putIntoPurse 0 = .ok (.iload_n 1, 1) := by decide +kernel
theorem dX2_putIntoPurse_1 : decode cX2_putIntoPurse 1 = .ok (.invokestatic 58, 3) := by decide +kernel
theorem dX2_putIntoPurse_4 : decode cX2_putIntoPurse 4 = .ok (.ifCond .eq 13, 3) := by decide +kernel
theorem dX2_putIntoPurse_7 : decode cX2_putIntoPurse 7 = .ok (.aload_n 0, 1) := by decide +kernel
theorem dX2_putIntoPurse_8 : decode cX2_putIntoPurse 8 = .ok (.getfield 13, 3) := by decide +kernel
theorem dX2_putIntoPurse_11 : decode cX2_putIntoPurse 11 = .ok (.iload_n 1, 1) := by decide +kernel
theorem dX2_putIntoPurse_12 : decode cX2_putIntoPurse 12 = .ok (.dup2, 1) := by decide +kernel
theorem dX2_putIntoPurse_13 : decode cX2_putIntoPurse 13 = .ok (.iaload, 1) := by decide +kernel
theorem dX2_putIntoPurse_14 : decode cX2_putIntoPurse 14 = .ok (.iload_n 2, 1) := by decide +kernel
theorem dX2_putIntoPurse_15 : decode cX2_putIntoPurse 15 = .ok (.iadd, 1) := by decide +kernel
theorem dX2_putIntoPurse_16 : decode cX2_putIntoPurse 16 = .ok (.iastore, 1) := by decide +kernel
theorem dX2_putIntoPurse_17 : decode cX2_putIntoPurse 17 = .ok (.return_, 1) := by decide +kernel
theorem dX2_dropEndedWishes_0 : decode cX2_dropEndedWishes 0 = .ok (.aload_n 0, 1) := by decide +kernel
theorem dX2_dropEndedWishes_1 : decode cX2_dropEndedWishes 1 = .ok (.getfield 23, 3) := by decide +kernel
theorem dX2_dropEndedWishes_4 : decode cX2_dropEndedWishes 4 = .ok (.invokevirtual 63, 3) := by decide +kernel
theorem dX2_dropEndedWishes_7 : decode cX2_dropEndedWishes 7 = .ok (.iconst 1, 1) := by decide +kernel
theorem dX2_dropEndedWishes_8 : decode cX2_dropEndedWishes 8 = .ok (.isub, 1) := by decide +kernel
theorem dX2_dropEndedWishes_9 : decode cX2_dropEndedWishes 9 = .ok (.istore_n 1, 1) := by decide +kernel
theorem dX2_dropEndedWishes_10 : decode cX2_dropEndedWishes 10 = .ok (.iload_n 1, 1) := by decide +kernel
theorem dX2_dropEndedWishes_11 : decode cX2_dropEndedWishes 11 = .ok (.ifCond .lt 36, 3) := by decide +kernel
theorem dX2_dropEndedWishes_14 : decode cX2_dropEndedWishes 14 = .ok (.aload_n 0, 1) := by decide +kernel
theorem dX2_dropEndedWishes_15 : decode cX2_dropEndedWishes 15 = .ok (.getfield 23, 3) := by decide +kernel
theorem dX2_dropEndedWishes_18 : decode cX2_dropEndedWishes 18 = .ok (.iload_n 1, 1) := by decide +kernel
theorem dX2_dropEndedWishes_19 : decode cX2_dropEndedWishes 19 = .ok (.invokevirtual 181, 3) := by decide +kernel
theorem dX2_dropEndedWishes_22 : decode cX2_dropEndedWishes 22 = .ok (.checkcast 76, 3) := by decide +kernel
theorem dX2_dropEndedWishes_25 : decode cX2_dropEndedWishes 25 = .ok (.getfield 112, 3) := by decide +kernel
theorem dX2_dropEndedWishes_28 : decode cX2_dropEndedWishes 28 = .ok (.iconst (-1), 1) := by decide +kernel
theorem dX2_dropEndedWishes_29 : decode cX2_dropEndedWishes 29 = .ok (.if_icmp .ne 12, 3) := by decide +kernel
theorem dX2_dropEndedWishes_32 : decode cX2_dropEndedWishes 32 = .ok (.aload_n 0, 1) := by decide +kernel
theorem dX2_dropEndedWishes_33 : decode cX2_dropEndedWishes 33 = .ok (.getfield 23, 3) := by decide +kernel
theorem dX2_dropEndedWishes_36 : decode cX2_dropEndedWishes 36 = .ok (.iload_n 1, 1) := by decide +kernel
theorem dX2_dropEndedWishes_37 : decode cX2_dropEndedWishes 37 = .ok (.invokevirtual 192, 3) := by decide +kernel
theorem dX2_dropEndedWishes_40 : decode cX2_dropEndedWishes 40 = .ok (.pop, 1) := by decide +kernel
theorem dX2_dropEndedWishes_41 : decode cX2_dropEndedWishes 41 = .ok (.iinc 1 (-1), 3) := by decide +kernel
theorem dX2_dropEndedWishes_44 : decode cX2_dropEndedWishes 44 = .ok (.goto (-34), 3) := by decide +kernel
theorem dX2_dropEndedWishes_47 : decode cX2_dropEndedWishes 47 = .ok (.return_, 1) := by decide +kernel
theorem dX2_giveAway_0 : decode cX2_giveAway 0 = .ok (.aload_n 0, 1) := by decide +kernel
theorem dX2_giveAway_1 : decode cX2_giveAway 1 = .ok (.dup, 1) := by decide +kernel
theorem dX2_giveAway_2 : decode cX2_giveAway 2 = .ok (.getfield 33, 3) := by decide +kernel
theorem dX2_giveAway_5 : decode cX2_giveAway 5 = .ok (.iload_n 2, 1) := by decide +kernel
theorem dX2_giveAway_6 : decode cX2_giveAway 6 = .ok (.iadd, 1) := by decide +kernel
theorem dX2_giveAway_7 : decode cX2_giveAway 7 = .ok (.putfield 33, 3) := by decide +kernel
theorem dX2_giveAway_10 : decode cX2_giveAway 10 = .ok (.aload_n 1, 1) := by decide +kernel
theorem dX2_giveAway_11 : decode cX2_giveAway 11 = .ok (.iload_n 2, 1) := by decide +kernel
theorem dX2_giveAway_12 : decode cX2_giveAway 12 = .ok (.putfield 98, 3) := by decide +kernel
theorem dX2_giveAway_15 : decode cX2_giveAway 15 = .ok (.aload_n 1, 1) := by decide +kernel
theorem dX2_giveAway_16 : decode cX2_giveAway 16 = .ok (.iconst (-1), 1) := by decide +kernel
theorem dX2_giveAway_17 : decode cX2_giveAway 17 = .ok (.putfield 112, 3) := by decide +kernel
theorem dX2_giveAway_20 : decode cX2_giveAway 20 = .ok (.aload_n 0, 1) := by decide +kernel
theorem dX2_giveAway_21 : decode cX2_giveAway 21 = .ok (.invokevirtual 115, 3) := by decide +kernel
theorem dX2_giveAway_24 : decode cX2_giveAway 24 = .ok (.aload_n 1, 1) := by decide +kernel
theorem dX2_giveAway_25 : decode cX2_giveAway 25 = .ok (.iload_n 3, 1) := by decide +kernel
theorem dX2_giveAway_26 : decode cX2_giveAway 26 = .ok (.aload_n 0, 1) := by decide +kernel
theorem dX2_giveAway_27 : decode cX2_giveAway 27 = .ok (.getfield 30, 3) := by decide +kernel
theorem dX2_giveAway_30 : decode cX2_giveAway 30 = .ok (.invokevirtual 195, 3) := by decide +kernel
theorem dX2_giveAway_33 : decode cX2_giveAway 33 = .ok (.return_, 1) := by decide +kernel
theorem dX2_sell_0 : decode cX2_sell 0 = .ok (.aload_n 1, 1) := by decide +kernel
theorem dX2_sell_1 : decode cX2_sell 1 = .ok (.getfield 141, 3) := by decide +kernel
theorem dX2_sell_4 : decode cX2_sell 4 = .ok (.aload_n 1, 1) := by decide +kernel
theorem dX2_sell_5 : decode cX2_sell 5 = .ok (.getfield 122, 3) := by decide +kernel
theorem dX2_sell_8 : decode cX2_sell 8 = .ok (.invokestatic 198, 3) := by decide +kernel
theorem dX2_sell_11 : decode cX2_sell 11 = .ok (.istore_n 2, 1) := by decide +kernel
theorem dX2_sell_12 : decode cX2_sell 12 = .ok (.aload_n 0, 1) := by decide +kernel
theorem dX2_sell_13 : decode cX2_sell 13 = .ok (.aload_n 1, 1) := by decide +kernel
theorem dX2_sell_14 : decode cX2_sell 14 = .ok (.getfield 144, 3) := by decide +kernel
theorem dX2_sell_17 : decode cX2_sell 17 = .ok (.iload_n 2, 1) := by decide +kernel
theorem dX2_sell_18 : decode cX2_sell 18 = .ok (.invokevirtual 136, 3) := by decide +kernel
theorem dX2_sell_21 : decode cX2_sell 21 = .ok (.aload_n 1, 1) := by decide +kernel
theorem dX2_sell_22 : decode cX2_sell 22 = .ok (.invokevirtual 147, 3) := by decide +kernel
theorem dX2_sell_25 : decode cX2_sell 25 = .ok (.aload_n 1, 1) := by decide +kernel
theorem dX2_sell_26 : decode cX2_sell 26 = .ok (.getfield 122, 3) := by decide +kernel
theorem dX2_sell_29 : decode cX2_sell 29 = .ok (.iload_n 2, 1) := by decide +kernel
theorem dX2_sell_30 : decode cX2_sell 30 = .ok (.isub, 1) := by decide +kernel
theorem dX2_sell_31 : decode cX2_sell 31 = .ok (.istore_n 3, 1) := by decide +kernel
theorem dX2_sell_32 : decode cX2_sell 32 = .ok (.aload_n 1, 1) := by decide +kernel
theorem dX2_sell_33 : decode cX2_sell 33 = .ok (.getfield 98, 3) := by decide +kernel
theorem dX2_sell_36 : decode cX2_sell 36 = .ok (.iload_n 3, 1) := by decide +kernel
theorem dX2_sell_37 : decode cX2_sell 37 = .ok (.invokestatic 198, 3) := by decide +kernel
theorem dX2_sell_40 : decode cX2_sell 40 = .ok (.istore 4, 2) := by decide +kernel
theorem dX2_sell_42 : decode cX2_sell 42 = .ok (.aload_n 0, 1) := by decide +kernel
theorem dX2_sell_43 : decode cX2_sell 43 = .ok (.aload_n 1, 1) := by decide +kernel
theorem dX2_sell_44 : decode cX2_sell 44 = .ok (.getfield 127, 3) := by decide +kernel
theorem dX2_sell_47 : decode cX2_sell 47 = .ok (.iload_n 3, 1) := by decide +kernel
theorem dX2_sell_48 : decode cX2_sell 48 = .ok (.iload 4, 2) := by decide +kernel
theorem dX2_sell_50 : decode cX2_sell 50 = .ok (.isub, 1) := by decide +kernel
theorem dX2_sell_51 : decode cX2_sell 51 = .ok (.invokevirtual 136, 3) := by decide +kernel
theorem dX2_sell_54 : decode cX2_sell 54 = .ok (.aload_n 0, 1) := by decide +kernel
theorem dX2_sell_55 : decode cX2_sell 55 = .ok (.aload_n 1, 1) := by decide +kernel
theorem dX2_sell_56 : decode cX2_sell 56 = .ok (.iload 4, 2) := by decide +kernel
theorem dX2_sell_58 : decode cX2_sell 58 = .ok (.bipush 11, 2) := by decide +kernel
theorem dX2_sell_60 : decode cX2_sell 60 = .ok (.invokevirtual 101, 3) := by decide +kernel
theorem dX2_sell_63 : decode cX2_sell 63 = .ok (.return_, 1) := by decide +kernel
theorem dX2_endDay_0 : decode cX2_endDay 0 = .ok (.aload_n 0, 1) := by decide +kernel
theorem dX2_endDay_1 : decode cX2_endDay 1 = .ok (.invokevirtual 204, 3) := by decide +kernel
theorem dX2_endDay_4 : decode cX2_endDay 4 = .ok (.aload_n 0, 1) := by decide +kernel
theorem dX2_endDay_5 : decode cX2_endDay 5 = .ok (.invokevirtual 207, 3) := by decide +kernel
theorem dX2_endDay_8 : decode cX2_endDay 8 = .ok (.aload_n 0, 1) := by decide +kernel
theorem dX2_endDay_9 : decode cX2_endDay 9 = .ok (.invokevirtual 210, 3) := by decide +kernel
theorem dX2_endDay_12 : decode cX2_endDay 12 = .ok (.iadd, 1) := by decide +kernel
theorem dX2_endDay_13 : decode cX2_endDay 13 = .ok (.istore_n 1, 1) := by decide +kernel
theorem dX2_endDay_14 : decode cX2_endDay 14 = .ok (.aload_n 0, 1) := by decide +kernel
theorem dX2_endDay_15 : decode cX2_endDay 15 = .ok (.invokevirtual 213, 3) := by decide +kernel
theorem dX2_endDay_18 : decode cX2_endDay 18 = .ok (.aload_n 0, 1) := by decide +kernel
theorem dX2_endDay_19 : decode cX2_endDay 19 = .ok (.dup, 1) := by decide +kernel
theorem dX2_endDay_20 : decode cX2_endDay 20 = .ok (.getfield 30, 3) := by decide +kernel
theorem dX2_endDay_23 : decode cX2_endDay 23 = .ok (.iconst 1, 1) := by decide +kernel
theorem dX2_endDay_24 : decode cX2_endDay 24 = .ok (.iadd, 1) := by decide +kernel
theorem dX2_endDay_25 : decode cX2_endDay 25 = .ok (.putfield 30, 3) := by decide +kernel
theorem dX2_endDay_28 : decode cX2_endDay 28 = .ok (.iload_n 1, 1) := by decide +kernel
theorem dX2_endDay_29 : decode cX2_endDay 29 = .ok (.ireturn, 1) := by decide +kernel
theorem dX2_oweFees_0 : decode cX2_oweFees 0 = .ok (.iconst 0, 1) := by decide +kernel
theorem dX2_oweFees_1 : decode cX2_oweFees 1 = .ok (.istore_n 1, 1) := by decide +kernel
theorem dX2_oweFees_2 : decode cX2_oweFees 2 = .ok (.iload_n 1, 1) := by decide +kernel
theorem dX2_oweFees_3 : decode cX2_oweFees 3 = .ok (.aload_n 0, 1) := by decide +kernel
theorem dX2_oweFees_4 : decode cX2_oweFees 4 = .ok (.getfield 19, 3) := by decide +kernel
theorem dX2_oweFees_7 : decode cX2_oweFees 7 = .ok (.invokevirtual 63, 3) := by decide +kernel
theorem dX2_oweFees_10 : decode cX2_oweFees 10 = .ok (.if_icmp .ge 54, 3) := by decide +kernel
theorem dX2_oweFees_13 : decode cX2_oweFees 13 = .ok (.aload_n 0, 1) := by decide +kernel
theorem dX2_oweFees_14 : decode cX2_oweFees 14 = .ok (.getfield 19, 3) := by decide +kernel
theorem dX2_oweFees_17 : decode cX2_oweFees 17 = .ok (.iload_n 1, 1) := by decide +kernel
theorem dX2_oweFees_18 : decode cX2_oweFees 18 = .ok (.invokevirtual 181, 3) := by decide +kernel
theorem dX2_oweFees_21 : decode cX2_oweFees 21 = .ok (.checkcast 76, 3) := by decide +kernel
theorem dX2_oweFees_24 : decode cX2_oweFees 24 = .ok (.astore_n 2, 1) := by decide +kernel
theorem dX2_oweFees_25 : decode cX2_oweFees 25 = .ok (.aload_n 2, 1) := by decide +kernel
theorem dX2_oweFees_26 : decode cX2_oweFees 26 = .ok (.invokevirtual 89, 3) := by decide +kernel
theorem dX2_oweFees_29 : decode cX2_oweFees 29 = .ok (.ifCond .eq 29, 3) := by decide +kernel
theorem dX2_oweFees_32 : decode cX2_oweFees 32 = .ok (.aload_n 2, 1) := by decide +kernel
theorem dX2_oweFees_33 : decode cX2_oweFees 33 = .ok (.dup, 1) := by decide +kernel
theorem dX2_oweFees_34 : decode cX2_oweFees 34 = .ok (.getfield 98, 3) := by decide +kernel
theorem dX2_oweFees_37 : decode cX2_oweFees 37 = .ok (.aload_n 2, 1) := by decide +kernel
theorem dX2_oweFees_38 : decode cX2_oweFees 38 = .ok (.getfield 190, 3) := by decide +kernel
theorem dX2_oweFees_41 : decode cX2_oweFees 41 = .ok (.aload_n 2, 1) := by decide +kernel
theorem dX2_oweFees_42 : decode cX2_oweFees 42 = .ok (.invokevirtual 93, 3) := by decide +kernel
theorem dX2_oweFees_45 : decode cX2_oweFees 45 = .ok (.ifCond .eq 7, 3) := by decide +kernel
theorem dX2_oweFees_48 : decode cX2_oweFees 48 = .ok (.iconst 1, 1) := by decide +kernel
theorem dX2_oweFees_49 : decode cX2_oweFees 49 = .ok (.goto 4, 3) := by decide +kernel
theorem dX2_oweFees_52 : decode cX2_oweFees 52 = .ok (.iconst 2, 1) := by decide +kernel
theorem dX2_oweFees_53 : decode cX2_oweFees 53 = .ok (.imul, 1) := by decide +kernel
theorem dX2_oweFees_54 : decode cX2_oweFees 54 = .ok (.iadd, 1) := by decide +kernel
theorem dX2_oweFees_55 : decode cX2_oweFees 55 = .ok (.putfield 98, 3) := by decide +kernel
theorem dX2_oweFees_58 : decode cX2_oweFees 58 = .ok (.iinc 1 1, 3) := by decide +kernel
theorem dX2_oweFees_61 : decode cX2_oweFees 61 = .ok (.goto (-59), 3) := by decide +kernel
theorem dX2_oweFees_64 : decode cX2_oweFees 64 = .ok (.return_, 1) := by decide +kernel
theorem dX2_sellCalled_0 : decode cX2_sellCalled 0 = .ok (.iconst 0, 1) := by decide +kernel
theorem dX2_sellCalled_1 : decode cX2_sellCalled 1 = .ok (.istore_n 1, 1) := by decide +kernel
theorem dX2_sellCalled_2 : decode cX2_sellCalled 2 = .ok (.iconst 0, 1) := by decide +kernel
theorem dX2_sellCalled_3 : decode cX2_sellCalled 3 = .ok (.istore_n 2, 1) := by decide +kernel
theorem dX2_sellCalled_4 : decode cX2_sellCalled 4 = .ok (.iload_n 2, 1) := by decide +kernel
theorem dX2_sellCalled_5 : decode cX2_sellCalled 5 = .ok (.aload_n 0, 1) := by decide +kernel
theorem dX2_sellCalled_6 : decode cX2_sellCalled 6 = .ok (.getfield 19, 3) := by decide +kernel
theorem dX2_sellCalled_9 : decode cX2_sellCalled 9 = .ok (.invokevirtual 63, 3) := by decide +kernel
theorem dX2_sellCalled_12 : decode cX2_sellCalled 12 = .ok (.if_icmp .ge 47, 3) := by decide +kernel
theorem dX2_sellCalled_15 : decode cX2_sellCalled 15 = .ok (.aload_n 0, 1) := by decide +kernel
theorem dX2_sellCalled_16 : decode cX2_sellCalled 16 = .ok (.getfield 19, 3) := by decide +kernel
theorem dX2_sellCalled_19 : decode cX2_sellCalled 19 = .ok (.iload_n 2, 1) := by decide +kernel
theorem dX2_sellCalled_20 : decode cX2_sellCalled 20 = .ok (.invokevirtual 181, 3) := by decide +kernel
theorem dX2_sellCalled_23 : decode cX2_sellCalled 23 = .ok (.checkcast 76, 3) := by decide +kernel
theorem dX2_sellCalled_26 : decode cX2_sellCalled 26 = .ok (.astore_n 3, 1) := by decide +kernel
theorem dX2_sellCalled_27 : decode cX2_sellCalled 27 = .ok (.aload_n 3, 1) := by decide +kernel
theorem dX2_sellCalled_28 : decode cX2_sellCalled 28 = .ok (.invokevirtual 150, 3) := by decide +kernel
theorem dX2_sellCalled_31 : decode cX2_sellCalled 31 = .ok (.ifCond .eq 22, 3) := by decide +kernel
theorem dX2_sellCalled_34 : decode cX2_sellCalled 34 = .ok (.aload_n 3, 1) := by decide +kernel
theorem dX2_sellCalled_35 : decode cX2_sellCalled 35 = .ok (.getfield 155, 3) := by decide +kernel
theorem dX2_sellCalled_38 : decode cX2_sellCalled 38 = .ok (.aload_n 0, 1) := by decide +kernel
theorem dX2_sellCalled_39 : decode cX2_sellCalled 39 = .ok (.getfield 30, 3) := by decide +kernel
theorem dX2_sellCalled_42 : decode cX2_sellCalled 42 = .ok (.if_icmp .gt 11, 3) := by decide +kernel
theorem dX2_sellCalled_45 : decode cX2_sellCalled 45 = .ok (.aload_n 0, 1) := by decide +kernel
theorem dX2_sellCalled_46 : decode cX2_sellCalled 46 = .ok (.aload_n 3, 1) := by decide +kernel
theorem dX2_sellCalled_47 : decode cX2_sellCalled 47 = .ok (.invokevirtual 216, 3) := by decide +kernel
theorem dX2_sellCalled_50 : decode cX2_sellCalled 50 = .ok (.iinc 1 1, 3) := by decide +kernel
theorem dX2_sellCalled_53 : decode cX2_sellCalled 53 = .ok (.iinc 2 1, 3) := by decide +kernel
theorem dX2_sellCalled_56 : decode cX2_sellCalled 56 = .ok (.goto (-52), 3) := by decide +kernel
theorem dX2_sellCalled_59 : decode cX2_sellCalled 59 = .ok (.iload_n 1, 1) := by decide +kernel
theorem dX2_sellCalled_60 : decode cX2_sellCalled 60 = .ok (.ireturn, 1) := by decide +kernel
theorem dX2_sellUnfetched_0 : decode cX2_sellUnfetched 0 = .ok (.iconst 0, 1) := by decide +kernel
theorem dX2_sellUnfetched_1 : decode cX2_sellUnfetched 1 = .ok (.istore_n 1, 1) := by decide +kernel
theorem dX2_sellUnfetched_2 : decode cX2_sellUnfetched 2 = .ok (.iconst 0, 1) := by decide +kernel
theorem dX2_sellUnfetched_3 : decode cX2_sellUnfetched 3 = .ok (.istore_n 2, 1) := by decide +kernel
theorem dX2_sellUnfetched_4 : decode cX2_sellUnfetched 4 = .ok (.iload_n 2, 1) := by decide +kernel
theorem dX2_sellUnfetched_5 : decode cX2_sellUnfetched 5 = .ok (.aload_n 0, 1) := by decide +kernel
theorem dX2_sellUnfetched_6 : decode cX2_sellUnfetched 6 = .ok (.getfield 19, 3) := by decide +kernel
theorem dX2_sellUnfetched_9 : decode cX2_sellUnfetched 9 = .ok (.invokevirtual 63, 3) := by decide +kernel
theorem dX2_sellUnfetched_12 : decode cX2_sellUnfetched 12 = .ok (.if_icmp .ge 63, 3) := by decide +kernel
theorem dX2_sellUnfetched_15 : decode cX2_sellUnfetched 15 = .ok (.aload_n 0, 1) := by decide +kernel
theorem dX2_sellUnfetched_16 : decode cX2_sellUnfetched 16 = .ok (.getfield 19, 3) := by decide +kernel
theorem dX2_sellUnfetched_19 : decode cX2_sellUnfetched 19 = .ok (.iload_n 2, 1) := by decide +kernel
theorem dX2_sellUnfetched_20 : decode cX2_sellUnfetched 20 = .ok (.invokevirtual 181, 3) := by decide +kernel
theorem dX2_sellUnfetched_23 : decode cX2_sellUnfetched 23 = .ok (.checkcast 76, 3) := by decide +kernel
theorem dX2_sellUnfetched_26 : decode cX2_sellUnfetched 26 = .ok (.astore_n 3, 1) := by decide +kernel
theorem dX2_sellUnfetched_27 : decode cX2_sellUnfetched 27 = .ok (.aload_n 0, 1) := by decide +kernel
theorem dX2_sellUnfetched_28 : decode cX2_sellUnfetched 28 = .ok (.getfield 30, 3) := by decide +kernel
theorem dX2_sellUnfetched_31 : decode cX2_sellUnfetched 31 = .ok (.iconst 1, 1) := by decide +kernel
theorem dX2_sellUnfetched_32 : decode cX2_sellUnfetched 32 = .ok (.iadd, 1) := by decide +kernel
theorem dX2_sellUnfetched_33 : decode cX2_sellUnfetched 33 = .ok (.aload_n 3, 1) := by decide +kernel
theorem dX2_sellUnfetched_34 : decode cX2_sellUnfetched 34 = .ok (.getfield 220, 3) := by decide +kernel
theorem dX2_sellUnfetched_37 : decode cX2_sellUnfetched 37 = .ok (.isub, 1) := by decide +kernel
theorem dX2_sellUnfetched_38 : decode cX2_sellUnfetched 38 = .ok (.istore 4, 2) := by decide +kernel
theorem dX2_sellUnfetched_40 : decode cX2_sellUnfetched 40 = .ok (.aload_n 3, 1) := by decide +kernel
theorem dX2_sellUnfetched_41 : decode cX2_sellUnfetched 41 = .ok (.invokevirtual 89, 3) := by decide +kernel
theorem dX2_sellUnfetched_44 : decode cX2_sellUnfetched 44 = .ok (.ifCond .eq 25, 3) := by decide +kernel
theorem dX2_sellUnfetched_47 : decode cX2_sellUnfetched 47 = .ok (.aload_n 3, 1) := by decide +kernel
theorem dX2_sellUnfetched_48 : decode cX2_sellUnfetched 48 = .ok (.invokevirtual 93, 3) := by decide +kernel
theorem dX2_sellUnfetched_51 : decode cX2_sellUnfetched 51 = .ok (.ifCond .ne 18, 3) := by decide +kernel
theorem dX2_sellUnfetched_54 : decode cX2_sellUnfetched 54 = .ok (.iload 4, 2) := by decide +kernel
theorem dX2_sellUnfetched_56 : decode cX2_sellUnfetched 56 = .ok (.bipush 30, 2) := by decide +kernel
theorem dX2_sellUnfetched_58 : decode cX2_sellUnfetched 58 = .ok (.if_icmp .lt 11, 3) := by decide +kernel
theorem dX2_sellUnfetched_61 : decode cX2_sellUnfetched 61 = .ok (.aload_n 0, 1) := by decide +kernel
theorem dX2_sellUnfetched_62 : decode cX2_sellUnfetched 62 = .ok (.aload_n 3, 1) := by decide +kernel
theorem dX2_sellUnfetched_63 : decode cX2_sellUnfetched 63 = .ok (.invokevirtual 216, 3) := by decide +kernel
theorem dX2_sellUnfetched_66 : decode cX2_sellUnfetched 66 = .ok (.iinc 1 1, 3) := by decide +kernel
theorem dX2_sellUnfetched_69 : decode cX2_sellUnfetched 69 = .ok (.iinc 2 1, 3) := by decide +kernel
theorem dX2_sellUnfetched_72 : decode cX2_sellUnfetched 72 = .ok (.goto (-68), 3) := by decide +kernel
theorem dX2_sellUnfetched_75 : decode cX2_sellUnfetched 75 = .ok (.iload_n 1, 1) := by decide +kernel
theorem dX2_sellUnfetched_76 : decode cX2_sellUnfetched 76 = .ok (.ireturn, 1) := by decide +kernel
theorem dX2_driveVan_0 : decode cX2_driveVan 0 = .ok (.aload_n 0, 1) := by decide +kernel
theorem dX2_driveVan_1 : decode cX2_driveVan 1 = .ok (.getfield 26, 3) := by decide +kernel
theorem dX2_driveVan_4 : decode cX2_driveVan 4 = .ok (.istore_n 1, 1) := by decide +kernel
theorem dX2_driveVan_5 : decode cX2_driveVan 5 = .ok (.iconst 0, 1) := by decide +kernel
theorem dX2_driveVan_6 : decode cX2_driveVan 6 = .ok (.istore_n 2, 1) := by decide +kernel
theorem dX2_driveVan_7 : decode cX2_driveVan 7 = .ok (.iload_n 2, 1) := by decide +kernel
theorem dX2_driveVan_8 : decode cX2_driveVan 8 = .ok (.aload_n 0, 1) := by decide +kernel
theorem dX2_driveVan_9 : decode cX2_driveVan 9 = .ok (.getfield 23, 3) := by decide +kernel
theorem dX2_driveVan_12 : decode cX2_driveVan 12 = .ok (.invokevirtual 63, 3) := by decide +kernel
theorem dX2_driveVan_15 : decode cX2_driveVan 15 = .ok (.if_icmp .ge 87, 3) := by decide +kernel
theorem dX2_driveVan_18 : decode cX2_driveVan 18 = .ok (.aload_n 0, 1) := by decide +kernel
theorem dX2_driveVan_19 : decode cX2_driveVan 19 = .ok (.getfield 23, 3) := by decide +kernel
theorem dX2_driveVan_22 : decode cX2_driveVan 22 = .ok (.iload_n 2, 1) := by decide +kernel
theorem dX2_driveVan_23 : decode cX2_driveVan 23 = .ok (.invokevirtual 181, 3) := by decide +kernel
theorem dX2_driveVan_26 : decode cX2_driveVan 26 = .ok (.checkcast 76, 3) := by decide +kernel
theorem dX2_driveVan_29 : decode cX2_driveVan 29 = .ok (.astore_n 3, 1) := by decide +kernel
theorem dX2_driveVan_30 : decode cX2_driveVan 30 = .ok (.aload_n 3, 1) := by decide +kernel
theorem dX2_driveVan_31 : decode cX2_driveVan 31 = .ok (.getfield 190, 3) := by decide +kernel
theorem dX2_driveVan_34 : decode cX2_driveVan 34 = .ok (.iload_n 1, 1) := by decide +kernel
theorem dX2_driveVan_35 : decode cX2_driveVan 35 = .ok (.if_icmp .gt 22, 3) := by decide +kernel
theorem dX2_driveVan_38 : decode cX2_driveVan 38 = .ok (.aload_n 0, 1) := by decide +kernel
theorem dX2_driveVan_39 : decode cX2_driveVan 39 = .ok (.aload_n 3, 1) := by decide +kernel
theorem dX2_driveVan_40 : decode cX2_driveVan 40 = .ok (.getfield 112, 3) := by decide +kernel
theorem dX2_driveVan_43 : decode cX2_driveVan 43 = .ok (.aload_n 3, 1) := by decide +kernel
theorem dX2_driveVan_44 : decode cX2_driveVan 44 = .ok (.getfield 190, 3) := by decide +kernel
theorem dX2_driveVan_47 : decode cX2_driveVan 47 = .ok (.invokevirtual 67, 3) := by decide +kernel
theorem dX2_driveVan_50 : decode cX2_driveVan 50 = .ok (.ifCond .eq 7, 3) := by decide +kernel
theorem dX2_driveVan_53 : decode cX2_driveVan 53 = .ok (.iconst 1, 1) := by decide +kernel
theorem dX2_driveVan_54 : decode cX2_driveVan 54 = .ok (.goto 4, 3) := by decide +kernel
theorem dX2_driveVan_57 : decode cX2_driveVan 57 = .ok (.iconst 0, 1) := by decide +kernel
theorem dX2_driveVan_58 : decode cX2_driveVan 58 = .ok (.istore 4, 2) := by decide +kernel
theorem dX2_driveVan_60 : decode cX2_driveVan 60 = .ok (.iload 4, 2) := by decide +kernel
theorem dX2_driveVan_62 : decode cX2_driveVan 62 = .ok (.ifCond .eq 34, 3) := by decide +kernel
theorem dX2_driveVan_65 : decode cX2_driveVan 65 = .ok (.aload_n 3, 1) := by decide +kernel
theorem dX2_driveVan_66 : decode cX2_driveVan 66 = .ok (.invokevirtual 93, 3) := by decide +kernel
theorem dX2_driveVan_69 : decode cX2_driveVan 69 = .ok (.ifCond .ne 27, 3) := by decide +kernel
theorem dX2_driveVan_72 : decode cX2_driveVan 72 = .ok (.iload_n 1, 1) := by decide +kernel
theorem dX2_driveVan_73 : decode cX2_driveVan 73 = .ok (.aload_n 3, 1) := by decide +kernel
theorem dX2_driveVan_74 : decode cX2_driveVan 74 = .ok (.getfield 190, 3) := by decide +kernel
theorem dX2_driveVan_77 : decode cX2_driveVan 77 = .ok (.isub, 1) := by decide +kernel
theorem dX2_driveVan_78 : decode cX2_driveVan 78 = .ok (.istore_n 1, 1) := by decide +kernel
theorem dX2_driveVan_79 : decode cX2_driveVan 79 = .ok (.aload_n 3, 1) := by decide +kernel
theorem dX2_driveVan_80 : decode cX2_driveVan 80 = .ok (.aload_n 3, 1) := by decide +kernel
theorem dX2_driveVan_81 : decode cX2_driveVan 81 = .ok (.getfield 112, 3) := by decide +kernel
theorem dX2_driveVan_84 : decode cX2_driveVan 84 = .ok (.aload_n 0, 1) := by decide +kernel
theorem dX2_driveVan_85 : decode cX2_driveVan 85 = .ok (.getfield 30, 3) := by decide +kernel
theorem dX2_driveVan_88 : decode cX2_driveVan 88 = .ok (.invokevirtual 195, 3) := by decide +kernel
theorem dX2_driveVan_91 : decode cX2_driveVan 91 = .ok (.aload_n 3, 1) := by decide +kernel
theorem dX2_driveVan_92 : decode cX2_driveVan 92 = .ok (.iconst (-1), 1) := by decide +kernel
theorem dX2_driveVan_93 : decode cX2_driveVan 93 = .ok (.putfield 112, 3) := by decide +kernel
theorem dX2_driveVan_96 : decode cX2_driveVan 96 = .ok (.iinc 2 1, 3) := by decide +kernel
theorem dX2_driveVan_99 : decode cX2_driveVan 99 = .ok (.goto (-92), 3) := by decide +kernel
theorem dX2_driveVan_102 : decode cX2_driveVan 102 = .ok (.aload_n 0, 1) := by decide +kernel
theorem dX2_driveVan_103 : decode cX2_driveVan 103 = .ok (.invokevirtual 115, 3) := by decide +kernel
theorem dX2_driveVan_106 : decode cX2_driveVan 106 = .ok (.return_, 1) := by decide +kernel
