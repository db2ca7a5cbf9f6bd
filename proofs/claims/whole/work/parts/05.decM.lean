theorem dX3_init_0 : decode cX3_init 0 = .ok (.aload_n 0, 1) := by decide +kernel
theorem dX3_init_1 : decode cX3_init 1 = .ok (.invokespecial 1, 3) := by decide +kernel
theorem dX3_init_4 : decode cX3_init 4 = .ok (.aload_n 0, 1) := by decide +kernel
theorem dX3_init_5 : decode cX3_init 5 = .ok (.iconst 5, 1) := by decide +kernel
theorem dX3_init_6 : decode cX3_init 6 = .ok (.newarray .int, 2) := by decide +kernel
theorem dX3_init_8 : decode cX3_init 8 = .ok (.putfield 7, 3) := by decide +kernel
theorem dX3_init_11 : decode cX3_init 11 = .ok (.aload_n 0, 1) := by decide +kernel
theorem dX3_init_12 : decode cX3_init 12 = .ok (.bipush 6, 2) := by decide +kernel
theorem dX3_init_14 : decode cX3_init 14 = .ok (.putfield 13, 3) := by decide +kernel
theorem dX3_init_17 : decode cX3_init 17 = .ok (.aload_n 0, 1) := by decide +kernel
theorem dX3_init_18 : decode cX3_init 18 = .ok (.bipush 8, 2) := by decide +kernel
theorem dX3_init_20 : decode cX3_init 20 = .ok (.newarray .int, 2) := by decide +kernel
theorem dX3_init_22 : decode cX3_init 22 = .ok (.putfield 17, 3) := by decide +kernel
theorem dX3_init_25 : decode cX3_init 25 = .ok (.aload_n 0, 1) := by decide +kernel
theorem dX3_init_26 : decode cX3_init 26 = .ok (.bipush 24, 2) := by decide +kernel
theorem dX3_init_28 : decode cX3_init 28 = .ok (.newarray .int, 2) := by decide +kernel
theorem dX3_init_30 : decode cX3_init 30 = .ok (.putfield 20, 3) := by decide +kernel
theorem dX3_init_33 : decode cX3_init 33 = .ok (.aload_n 0, 1) := by decide +kernel
theorem dX3_init_34 : decode cX3_init 34 = .ok (.bipush 24, 2) := by decide +kernel
theorem dX3_init_36 : decode cX3_init 36 = .ok (.newarray .int, 2) := by decide +kernel
theorem dX3_init_38 : decode cX3_init 38 = .ok (.putfield 23, 3) := by decide +kernel
theorem dX3_init_41 : decode cX3_init 41 = .ok (.aload_n 0, 1) := by decide +kernel
theorem dX3_init_42 : decode cX3_init 42 = .ok (.bipush 24, 2) := by decide +kernel
theorem dX3_init_44 : decode cX3_init 44 = .ok (.newarray .int, 2) := by decide +kernel
theorem dX3_init_46 : decode cX3_init 46 = .ok (.putfield 26, 3) := by decide +kernel
theorem dX3_init_49 : decode cX3_init 49 = .ok (.aload_n 0, 1) := by decide +kernel
theorem dX3_init_50 : decode cX3_init 50 = .ok (.bipush 24, 2) := by decide +kernel
theorem dX3_init_52 : decode cX3_init 52 = .ok (.newarray .int, 2) := by decide +kernel
theorem dX3_init_54 : decode cX3_init 54 = .ok (.putfield 29, 3) := by decide +kernel
theorem dX3_init_57 : decode cX3_init 57 = .ok (.aload_n 0, 1) := by decide +kernel
theorem dX3_init_58 : decode cX3_init 58 = .ok (.bipush 24, 2) := by decide +kernel
theorem dX3_init_60 : decode cX3_init 60 = .ok (.newarray .int, 2) := by decide +kernel
theorem dX3_init_62 : decode cX3_init 62 = .ok (.putfield 32, 3) := by decide +kernel
theorem dX3_init_65 : decode cX3_init 65 = .ok (.aload_n 0, 1) := by decide +kernel
theorem dX3_init_66 : decode cX3_init 66 = .ok (.bipush 24, 2) := by decide +kernel
theorem dX3_init_68 : decode cX3_init 68 = .ok (.newarray .int, 2) := by decide +kernel
theorem dX3_init_70 : decode cX3_init 70 = .ok (.putfield 35, 3) := by decide +kernel
theorem dX3_init_73 : decode cX3_init 73 = .ok (.aload_n 0, 1) := by decide +kernel
theorem dX3_init_74 : decode cX3_init 74 = .ok (.bipush 24, 2) := by decide +kernel
theorem dX3_init_76 : decode cX3_init 76 = .ok (.newarray .int, 2) := by decide +kernel
theorem dX3_init_78 : decode cX3_init 78 = .ok (.putfield 38, 3) := by decide +kernel
theorem dX3_init_81 : decode cX3_init 81 = .ok (.aload_n 0, 1) := by decide +kernel
theorem dX3_init_82 : decode cX3_init 82 = .ok (.bipush 24, 2) := by decide +kernel
theorem dX3_init_84 : decode cX3_init 84 = .ok (.newarray .int, 2) := by decide +kernel
theorem dX3_init_86 : decode cX3_init 86 = .ok (.putfield 41, 3) := by decide +kernel
theorem dX3_init_89 : decode cX3_init 89 = .ok (.aload_n 0, 1) := by decide +kernel
theorem dX3_init_90 : decode cX3_init 90 = .ok (.bipush 24, 2) := by decide +kernel
theorem dX3_init_92 : decode cX3_init 92 = .ok (.newarray .int, 2) := by decide +kernel
theorem dX3_init_94 : decode cX3_init 94 = .ok (.putfield 44, 3) := by decide +kernel
theorem dX3_init_97 : decode cX3_init 97 = .ok (.aload_n 0, 1) := by decide +kernel
theorem dX3_init_98 : decode cX3_init 98 = .ok (.bipush 24, 2) := by decide +kernel
theorem dX3_init_100 : decode cX3_init 100 = .ok (.newarray .int, 2) := by decide +kernel
theorem dX3_init_102 : decode cX3_init 102 = .ok (.putfield 47, 3) := by decide +kernel
theorem dX3_init_105 : decode cX3_init 105 = .ok (.aload_n 0, 1) := by decide +kernel
theorem dX3_init_106 : decode cX3_init 106 = .ok (.bipush 24, 2) := by decide +kernel
theorem dX3_init_108 : decode cX3_init 108 = .ok (.newarray .int, 2) := by decide +kernel
theorem dX3_init_110 : decode cX3_init 110 = .ok (.putfield 50, 3) := by decide +kernel
theorem dX3_init_113 : decode cX3_init 113 = .ok (.aload_n 0, 1) := by decide +kernel
theorem dX3_init_114 : decode cX3_init 114 = .ok (.sipush 24048, 3) := by decide +kernel
theorem dX3_init_117 : decode cX3_init 117 = .ok (.newarray .int, 2) := by decide +kernel
theorem dX3_init_119 : decode cX3_init 119 = .ok (.putfield 53, 3) := by decide +kernel
theorem dX3_init_122 : decode cX3_init 122 = .ok (.iconst 0, 1) := by decide +kernel
theorem dX3_init_123 : decode cX3_init 123 = .ok (.istore_n 1, 1) := by decide +kernel
theorem dX3_init_124 : decode cX3_init 124 = .ok (.iload_n 1, 1) := by decide +kernel
theorem dX3_init_125 : decode cX3_init 125 = .ok (.iconst 5, 1) := by decide +kernel
theorem dX3_init_126 : decode cX3_init 126 = .ok (.if_icmp .ge 17, 3) := by decide +kernel
theorem dX3_init_129 : decode cX3_init 129 = .ok (.aload_n 0, 1) := by decide +kernel
theorem dX3_init_130 : decode cX3_init 130 = .ok (.getfield 7, 3) := by decide +kernel
theorem dX3_init_133 : decode cX3_init 133 = .ok (.iload_n 1, 1) := by decide +kernel
theorem dX3_init_134 : decode cX3_init 134 = .ok (.bipush 10, 2) := by decide +kernel
theorem dX3_init_136 : decode cX3_init 136 = .ok (.iastore, 1) := by decide +kernel
theorem dX3_init_137 : decode cX3_init 137 = .ok (.iinc 1 1, 3) := by decide +kernel
theorem dX3_init_140 : decode cX3_init 140 = .ok (.goto (-16), 3) := by decide +kernel
theorem dX3_init_143 : decode cX3_init 143 = .ok (.iconst 0, 1) := by decide +kernel
theorem dX3_init_144 : decode cX3_init 144 = .ok (.istore_n 1, 1) := by decide +kernel
theorem dX3_init_145 : decode cX3_init 145 = .ok (.iload_n 1, 1) := by decide +kernel
theorem dX3_init_146 : decode cX3_init 146 = .ok (.sipush 24048, 3) := by decide +kernel
theorem dX3_init_149 : decode cX3_init 149 = .ok (.if_icmp .ge 17, 3) := by decide +kernel
theorem dX3_init_152 : decode cX3_init 152 = .ok (.aload_n 0, 1) := by decide +kernel
theorem dX3_init_153 : decode cX3_init 153 = .ok (.getfield 53, 3) := by decide +kernel
theorem dX3_init_156 : decode cX3_init 156 = .ok (.iload_n 1, 1) := by decide +kernel
theorem dX3_init_157 : decode cX3_init 157 = .ok (.bipush 12, 2) := by decide +kernel
theorem dX3_init_159 : decode cX3_init 159 = .ok (.iastore, 1) := by decide +kernel
theorem dX3_init_160 : decode cX3_init 160 = .ok (.iinc 1 1, 3) := by decide +kernel
theorem dX3_init_163 : decode cX3_init 163 = .ok (.goto (-18), 3) := by decide +kernel
theorem dX3_init_166 : decode cX3_init 166 = .ok (.return_, 1) := by decide +kernel
theorem dX3_thrown_0 : decode cX3_thrown 0 = .ok (.aload_n 0, 1) := by decide +kernel
theorem dX3_thrown_1 : decode cX3_thrown 1 = .ok (.getfield 56, 3) := by decide +kernel
theorem dX3_thrown_4 : decode cX3_thrown 4 = .ok (.ireturn, 1) := by decide +kernel
theorem dX3_in_0 : decode cX3_in 0 = .ok (.iload_n 0, 1) := by decide +kernel
theorem dX3_in_1 : decode cX3_in 1 = .ok (.iload_n 1, 1) := by decide +kernel
theorem dX3_in_2 : decode cX3_in 2 = .ok (.if_icmp .lt 12, 3) := by decide +kernel
theorem dX3_in_5 : decode cX3_in 5 = .ok (.iload_n 0, 1) := by decide +kernel
theorem dX3_in_6 : decode cX3_in 6 = .ok (.iload_n 2, 1) := by decide +kernel
theorem dX3_in_7 : decode cX3_in 7 = .ok (.if_icmp .gt 7, 3) := by decide +kernel
theorem dX3_in_10 : decode cX3_in 10 = .ok (.iconst 1, 1) := by decide +kernel
theorem dX3_in_11 : decode cX3_in 11 = .ok (.goto 4, 3) := by decide +kernel
theorem dX3_in_14 : decode cX3_in 14 = .ok (.iconst 0, 1) := by decide +kernel
theorem dX3_in_15 : decode cX3_in 15 = .ok (.ireturn, 1) := by decide +kernel
theorem dX3_isFine_0 : decode cX3_isFine 0 = .ok (.aload_n 0, 1) := by decide +kernel
theorem dX3_isFine_1 : decode cX3_isFine 1 = .ok (.iload_n 1, 1) := by decide +kernel
theorem dX3_isFine_2 : decode cX3_isFine 2 = .ok (.putfield 56, 3) := by decide +kernel
theorem dX3_isFine_5 : decode cX3_isFine 5 = .ok (.iload_n 1, 1) := by decide +kernel
theorem dX3_isFine_6 : decode cX3_isFine 6 = .ok (.ifCond .ne 7, 3) := by decide +kernel
theorem dX3_isFine_9 : decode cX3_isFine 9 = .ok (.iconst 1, 1) := by decide +kernel
theorem dX3_isFine_10 : decode cX3_isFine 10 = .ok (.goto 4, 3) := by decide +kernel
theorem dX3_isFine_13 : decode cX3_isFine 13 = .ok (.iconst 0, 1) := by decide +kernel
theorem dX3_isFine_14 : decode cX3_isFine 14 = .ok (.ireturn, 1) := by decide +kernel
theorem dX3_isCounter_0 : decode cX3_isCounter 0 = .ok (.iload_n 0, 1) := by decide +kernel
theorem dX3_isCounter_1 : decode cX3_isCounter 1 = .ok (.iconst 0, 1) := by decide +kernel
theorem dX3_isCounter_2 : decode cX3_isCounter 2 = .ok (.iconst 4, 1) := by decide +kernel
theorem dX3_isCounter_3 : decode cX3_isCounter 3 = .ok (.invokestatic 59, 3) := by decide +kernel
theorem dX3_isCounter_6 : decode cX3_isCounter 6 = .ok (.ireturn, 1) := by decide +kernel
theorem dX3_isThing_0 : decode cX3_isThing 0 = .ok (.iload_n 1, 1) := by decide +kernel
theorem dX3_isThing_1 : decode cX3_isThing 1 = .ok (.iconst 0, 1) := by decide +kernel
theorem dX3_isThing_2 : decode cX3_isThing 2 = .ok (.aload_n 0, 1) := by decide +kernel
theorem dX3_isThing_3 : decode cX3_isThing 3 = .ok (.getfield 63, 3) := by decide +kernel
theorem dX3_isThing_6 : decode cX3_isThing 6 = .ok (.iconst 1, 1) := by decide +kernel
theorem dX3_isThing_7 : decode cX3_isThing 7 = .ok (.isub, 1) := by decide +kernel
theorem dX3_isThing_8 : decode cX3_isThing 8 = .ok (.invokestatic 59, 3) := by decide +kernel
theorem dX3_isThing_11 : decode cX3_isThing 11 = .ok (.ireturn, 1) := by decide +kernel
theorem dX3_isAt_0 : decode cX3_isAt 0 = .ok (.aload_n 0, 1) := by decide +kernel
theorem dX3_isAt_1 : decode cX3_isAt 1 = .ok (.getfield 29, 3) := by decide +kernel
theorem dX3_isAt_4 : decode cX3_isAt 4 = .ok (.iload_n 1, 1) := by decide +kernel
theorem dX3_isAt_5 : decode cX3_isAt 5 = .ok (.iaload, 1) := by decide +kernel
theorem dX3_isAt_6 : decode cX3_isAt 6 = .ok (.iconst 5, 1) := by decide +kernel
theorem dX3_isAt_7 : decode cX3_isAt 7 = .ok (.if_icmp .ge 7, 3) := by decide +kernel
theorem dX3_isAt_10 : decode cX3_isAt 10 = .ok (.iconst 1, 1) := by decide +kernel
theorem dX3_isAt_11 : decode cX3_isAt 11 = .ok (.goto 4, 3) := by decide +kernel
theorem dX3_isAt_14 : decode cX3_isAt 14 = .ok (.iconst 0, 1) := by decide +kernel
theorem dX3_isAt_15 : decode cX3_isAt 15 = .ok (.ireturn, 1) := by decide +kernel
theorem dX3_setRoom_0 : decode cX3_setRoom 0 = .ok (.aload_n 0, 1) := by decide +kernel
theorem dX3_setRoom_1 : decode cX3_setRoom 1 = .ok (.iload_n 1, 1) := by decide +kernel
theorem dX3_setRoom_2 : decode cX3_setRoom 2 = .ok (.invokestatic 66, 3) := by decide +kernel
theorem dX3_setRoom_5 : decode cX3_setRoom 5 = .ok (.ifCond .eq 17, 3) := by decide +kernel
theorem dX3_setRoom_8 : decode cX3_setRoom 8 = .ok (.iload_n 2, 1) := by decide +kernel
theorem dX3_setRoom_9 : decode cX3_setRoom 9 = .ok (.iconst 0, 1) := by decide +kernel
theorem dX3_setRoom_10 : decode cX3_setRoom 10 = .ok (.bipush 30, 2) := by decide +kernel
theorem dX3_setRoom_12 : decode cX3_setRoom 12 = .ok (.invokestatic 59, 3) := by decide +kernel
theorem dX3_setRoom_15 : decode cX3_setRoom 15 = .ok (.ifCond .eq 7, 3) := by decide +kernel
theorem dX3_setRoom_18 : decode cX3_setRoom 18 = .ok (.iconst 0, 1) := by decide +kernel
theorem dX3_setRoom_19 : decode cX3_setRoom 19 = .ok (.goto 4, 3) := by decide +kernel
theorem dX3_setRoom_22 : decode cX3_setRoom 22 = .ok (.iconst 1, 1) := by decide +kernel
theorem dX3_setRoom_23 : decode cX3_setRoom 23 = .ok (.invokevirtual 70, 3) := by decide +kernel
theorem dX3_setRoom_26 : decode cX3_setRoom 26 = .ok (.ifCond .ne 5, 3) := by decide +kernel
theorem dX3_setRoom_29 : decode cX3_setRoom 29 = .ok (.iconst 0, 1) := by decide +kernel
theorem dX3_setRoom_30 : decode cX3_setRoom 30 = .ok (.ireturn, 1) := by decide +kernel
theorem dX3_setRoom_31 : decode cX3_setRoom 31 = .ok (.aload_n 0, 1) := by decide +kernel
theorem dX3_setRoom_32 : decode cX3_setRoom 32 = .ok (.getfield 7, 3) := by decide +kernel
theorem dX3_setRoom_35 : decode cX3_setRoom 35 = .ok (.iload_n 1, 1) := by decide +kernel
theorem dX3_setRoom_36 : decode cX3_setRoom 36 = .ok (.iaload, 1) := by decide +kernel
theorem dX3_setRoom_37 : decode cX3_setRoom 37 = .ok (.istore_n 3, 1) := by decide +kernel
theorem dX3_setRoom_38 : decode cX3_setRoom 38 = .ok (.aload_n 0, 1) := by decide +kernel
theorem dX3_setRoom_39 : decode cX3_setRoom 39 = .ok (.getfield 7, 3) := by decide +kernel
theorem dX3_setRoom_42 : decode cX3_setRoom 42 = .ok (.iload_n 1, 1) := by decide +kernel
theorem dX3_setRoom_43 : decode cX3_setRoom 43 = .ok (.iload_n 2, 1) := by decide +kernel
theorem dX3_setRoom_44 : decode cX3_setRoom 44 = .ok (.iastore, 1) := by decide +kernel
theorem dX3_setRoom_45 : decode cX3_setRoom 45 = .ok (.iload_n 3, 1) := by decide +kernel
theorem dX3_setRoom_46 : decode cX3_setRoom 46 = .ok (.ireturn, 1) := by decide +kernel
theorem dX3_setVan_0 : decode cX3_setVan 0 = .ok (.aload_n 0, 1) := by decide +kernel
theorem dX3_setVan_1 : decode cX3_setVan 1 = .ok (.iload_n 1, 1) := by decide +kernel
theorem dX3_setVan_2 : decode cX3_setVan 2 = .ok (.iconst 0, 1) := by decide +kernel
theorem dX3_setVan_3 : decode cX3_setVan 3 = .ok (.bipush 30, 2) := by decide +kernel
theorem dX3_setVan_5 : decode cX3_setVan 5 = .ok (.invokestatic 59, 3) := by decide +kernel
theorem dX3_setVan_8 : decode cX3_setVan 8 = .ok (.ifCond .eq 7, 3) := by decide +kernel
theorem dX3_setVan_11 : decode cX3_setVan 11 = .ok (.iconst 0, 1) := by decide +kernel
theorem dX3_setVan_12 : decode cX3_setVan 12 = .ok (.goto 4, 3) := by decide +kernel
theorem dX3_setVan_15 : decode cX3_setVan 15 = .ok (.iconst 1, 1) := by decide +kernel
theorem dX3_setVan_16 : decode cX3_setVan 16 = .ok (.invokevirtual 70, 3) := by decide +kernel
theorem dX3_setVan_19 : decode cX3_setVan 19 = .ok (.ifCond .ne 5, 3) := by decide +kernel
theorem dX3_setVan_22 : decode cX3_setVan 22 = .ok (.iconst 0, 1) := by decide +kernel
theorem dX3_setVan_23 : decode cX3_setVan 23 = .ok (.ireturn, 1) := by decide +kernel
theorem dX3_setVan_24 : decode cX3_setVan 24 = .ok (.aload_n 0, 1) := by decide +kernel
theorem dX3_setVan_25 : decode cX3_setVan 25 = .ok (.getfield 13, 3) := by decide +kernel
theorem dX3_setVan_28 : decode cX3_setVan 28 = .ok (.istore_n 2, 1) := by decide +kernel
theorem dX3_setVan_29 : decode cX3_setVan 29 = .ok (.aload_n 0, 1) := by decide +kernel
theorem dX3_setVan_30 : decode cX3_setVan 30 = .ok (.iload_n 1, 1) := by decide +kernel
theorem dX3_setVan_31 : decode cX3_setVan 31 = .ok (.putfield 13, 3) := by decide +kernel
theorem dX3_setVan_34 : decode cX3_setVan 34 = .ok (.iload_n 2, 1) := by decide +kernel
theorem dX3_setVan_35 : decode cX3_setVan 35 = .ok (.ireturn, 1) := by decide +kernel
theorem dX3_loadOf_0 : decode cX3_loadOf 0 = .ok (.iconst 0, 1) := by decide +kernel
theorem dX3_loadOf_1 : decode cX3_loadOf 1 = .ok (.istore_n 2, 1) := by decide +kernel
theorem dX3_loadOf_2 : decode cX3_loadOf 2 = .ok (.iconst 0, 1) := by decide +kernel
theorem dX3_loadOf_3 : decode cX3_loadOf 3 = .ok (.istore_n 3, 1) := by decide +kernel
theorem dX3_loadOf_4 : decode cX3_loadOf 4 = .ok (.iload_n 3, 1) := by decide +kernel
theorem dX3_loadOf_5 : decode cX3_loadOf 5 = .ok (.aload_n 0, 1) := by decide +kernel
theorem dX3_loadOf_6 : decode cX3_loadOf 6 = .ok (.getfield 63, 3) := by decide +kernel
theorem dX3_loadOf_9 : decode cX3_loadOf 9 = .ok (.if_icmp .ge 32, 3) := by decide +kernel
theorem dX3_loadOf_12 : decode cX3_loadOf 12 = .ok (.iload_n 2, 1) := by decide +kernel
theorem dX3_loadOf_13 : decode cX3_loadOf 13 = .ok (.aload_n 0, 1) := by decide +kernel
theorem dX3_loadOf_14 : decode cX3_loadOf 14 = .ok (.getfield 29, 3) := by decide +kernel
theorem dX3_loadOf_17 : decode cX3_loadOf 17 = .ok (.iload_n 3, 1) := by decide +kernel
theorem dX3_loadOf_18 : decode cX3_loadOf 18 = .ok (.iaload, 1) := by decide +kernel
theorem dX3_loadOf_19 : decode cX3_loadOf 19 = .ok (.iload_n 1, 1) := by decide +kernel
theorem dX3_loadOf_20 : decode cX3_loadOf 20 = .ok (.if_icmp .ne 12, 3) := by decide +kernel
theorem dX3_loadOf_23 : decode cX3_loadOf 23 = .ok (.aload_n 0, 1) := by decide +kernel
theorem dX3_loadOf_24 : decode cX3_loadOf 24 = .ok (.getfield 23, 3) := by decide +kernel
theorem dX3_loadOf_27 : decode cX3_loadOf 27 = .ok (.iload_n 3, 1) := by decide +kernel
theorem dX3_loadOf_28 : decode cX3_loadOf 28 = .ok (.iaload, 1) := by decide +kernel
theorem dX3_loadOf_29 : decode cX3_loadOf 29 = .ok (.goto 4, 3) := by decide +kernel
theorem dX3_loadOf_32 : decode cX3_loadOf 32 = .ok (.iconst 0, 1) := by decide +kernel
theorem dX3_loadOf_33 : decode cX3_loadOf 33 = .ok (.iadd, 1) := by decide +kernel
theorem dX3_loadOf_34 : decode cX3_loadOf 34 = .ok (.istore_n 2, 1) := by decide +kernel
theorem dX3_loadOf_35 : decode cX3_loadOf 35 = .ok (.iinc 3 1, 3) := by decide +kernel
theorem dX3_loadOf_38 : decode cX3_loadOf 38 = .ok (.goto (-34), 3) := by decide +kernel
theorem dX3_loadOf_41 : decode cX3_loadOf 41 = .ok (.iload_n 2, 1) := by decide +kernel
theorem dX3_loadOf_42 : decode cX3_loadOf 42 = .ok (.ireturn, 1) := by decide +kernel
theorem dX3_leave_0 : decode cX3_leave 0 = .ok (.iload_n 1, 1) := by decide +kernel
theorem dX3_leave_1 : decode cX3_leave 1 = .ok (.iconst 0, 1) := by decide +kernel
theorem dX3_leave_2 : decode cX3_leave 2 = .ok (.bipush 7, 2) := by decide +kernel
theorem dX3_leave_4 : decode cX3_leave 4 = .ok (.invokestatic 59, 3) := by decide +kernel
theorem dX3_leave_7 : decode cX3_leave 7 = .ok (.ifCond .eq 19, 3) := by decide +kernel
theorem dX3_leave_10 : decode cX3_leave 10 = .ok (.iload_n 2, 1) := by decide +kernel
theorem dX3_leave_11 : decode cX3_leave 11 = .ok (.iconst 1, 1) := by decide +kernel
theorem dX3_leave_12 : decode cX3_leave 12 = .ok (.iconst 3, 1) := by decide +kernel
theorem dX3_leave_13 : decode cX3_leave 13 = .ok (.invokestatic 59, 3) := by decide +kernel
theorem dX3_leave_16 : decode cX3_leave 16 = .ok (.ifCond .eq 10, 3) := by decide +kernel
theorem dX3_leave_19 : decode cX3_leave 19 = .ok (.iload_n 3, 1) := by decide +kernel
theorem dX3_leave_20 : decode cX3_leave 20 = .ok (.invokestatic 66, 3) := by decide +kernel
theorem dX3_leave_23 : decode cX3_leave 23 = .ok (.ifCond .ne 7, 3) := by decide +kernel
theorem dX3_leave_26 : decode cX3_leave 26 = .ok (.iconst 1, 1) := by decide +kernel
theorem dX3_leave_27 : decode cX3_leave 27 = .ok (.goto 4, 3) := by decide +kernel
theorem dX3_leave_30 : decode cX3_leave 30 = .ok (.iconst 0, 1) := by decide +kernel
theorem dX3_leave_31 : decode cX3_leave 31 = .ok (.istore 4, 2) := by decide +kernel
theorem dX3_leave_33 : decode cX3_leave 33 = .ok (.aload_n 0, 1) := by decide +kernel
theorem dX3_leave_34 : decode cX3_leave 34 = .ok (.iload 4, 2) := by decide +kernel
theorem dX3_leave_36 : decode cX3_leave 36 = .ok (.ifCond .ne 32, 3) := by decide +kernel
theorem dX3_leave_39 : decode cX3_leave 39 = .ok (.aload_n 0, 1) := by decide +kernel
theorem dX3_leave_40 : decode cX3_leave 40 = .ok (.getfield 63, 3) := by decide +kernel
theorem dX3_leave_43 : decode cX3_leave 43 = .ok (.bipush 24, 2) := by decide +kernel
theorem dX3_leave_45 : decode cX3_leave 45 = .ok (.if_icmp .eq 19, 3) := by decide +kernel
theorem dX3_leave_48 : decode cX3_leave 48 = .ok (.aload_n 0, 1) := by decide +kernel
theorem dX3_leave_49 : decode cX3_leave 49 = .ok (.iload_n 3, 1) := by decide +kernel
theorem dX3_leave_50 : decode cX3_leave 50 = .ok (.invokevirtual 73, 3) := by decide +kernel
theorem dX3_leave_53 : decode cX3_leave 53 = .ok (.iload_n 2, 1) := by decide +kernel
theorem dX3_leave_54 : decode cX3_leave 54 = .ok (.iadd, 1) := by decide +kernel
theorem dX3_leave_55 : decode cX3_leave 55 = .ok (.aload_n 0, 1) := by decide +kernel
theorem dX3_leave_56 : decode cX3_leave 56 = .ok (.getfield 7, 3) := by decide +kernel
theorem dX3_leave_59 : decode cX3_leave 59 = .ok (.iload_n 3, 1) := by decide +kernel
theorem dX3_leave_60 : decode cX3_leave 60 = .ok (.iaload, 1) := by decide +kernel
theorem dX3_leave_61 : decode cX3_leave 61 = .ok (.if_icmp .le 7, 3) := by decide +kernel
theorem dX3_leave_64 : decode cX3_leave 64 = .ok (.iconst 2, 1) := by decide +kernel
theorem dX3_leave_65 : decode cX3_leave 65 = .ok (.goto 5, 3) := by decide +kernel
theorem dX3_leave_68 : decode cX3_leave 68 = .ok (.iload 4, 2) := by decide +kernel
theorem dX3_leave_70 : decode cX3_leave 70 = .ok (.invokevirtual 70, 3) := by decide +kernel
theorem dX3_leave_73 : decode cX3_leave 73 = .ok (.ifCond .ne 5, 3) := by decide +kernel
theorem dX3_leave_76 : decode cX3_leave 76 = .ok (.iconst 0, 1) := by decide +kernel
theorem dX3_leave_77 : decode cX3_leave 77 = .ok (.ireturn, 1) := by decide +kernel
theorem dX3_leave_78 : decode cX3_leave 78 = .ok (.aload_n 0, 1) := by decide +kernel
theorem dX3_leave_79 : decode cX3_leave 79 = .ok (.getfield 20, 3) := by decide +kernel
theorem dX3_leave_82 : decode cX3_leave 82 = .ok (.aload_n 0, 1) := by decide +kernel
theorem dX3_leave_83 : decode cX3_leave 83 = .ok (.getfield 63, 3) := by decide +kernel
theorem dX3_leave_86 : decode cX3_leave 86 = .ok (.iload_n 1, 1) := by decide +kernel
theorem dX3_leave_87 : decode cX3_leave 87 = .ok (.iastore, 1) := by decide +kernel
theorem dX3_leave_88 : decode cX3_leave 88 = .ok (.aload_n 0, 1) := by decide +kernel
theorem dX3_leave_89 : decode cX3_leave 89 = .ok (.getfield 23, 3) := by decide +kernel
theorem dX3_leave_92 : decode cX3_leave 92 = .ok (.aload_n 0, 1) := by decide +kernel
theorem dX3_leave_93 : decode cX3_leave 93 = .ok (.getfield 63, 3) := by decide +kernel
theorem dX3_leave_96 : decode cX3_leave 96 = .ok (.iload_n 2, 1) := by decide +kernel
theorem dX3_leave_97 : decode cX3_leave 97 = .ok (.iastore, 1) := by decide +kernel
theorem dX3_leave_98 : decode cX3_leave 98 = .ok (.aload_n 0, 1) := by decide +kernel
theorem dX3_leave_99 : decode cX3_leave 99 = .ok (.getfield 26, 3) := by decide +kernel
theorem dX3_leave_102 : decode cX3_leave 102 = .ok (.aload_n 0, 1) := by decide +kernel
theorem dX3_leave_103 : decode cX3_leave 103 = .ok (.getfield 63, 3) := by decide +kernel
theorem dX3_leave_106 : decode cX3_leave 106 = .ok (.bipush 20, 2) := by decide +kernel
theorem dX3_leave_108 : decode cX3_leave 108 = .ok (.iload_n 2, 1) := by decide +kernel
theorem dX3_leave_109 : decode cX3_leave 109 = .ok (.imul, 1) := by decide +kernel
theorem dX3_leave_110 : decode cX3_leave 110 = .ok (.iastore, 1) := by decide +kernel
theorem dX3_leave_111 : decode cX3_leave 111 = .ok (.aload_n 0, 1) := by decide +kernel
theorem dX3_leave_112 : decode cX3_leave 112 = .ok (.getfield 29, 3) := by decide +kernel
theorem dX3_leave_115 : decode cX3_leave 115 = .ok (.aload_n 0, 1) := by decide +kernel
theorem dX3_leave_116 : decode cX3_leave 116 = .ok (.getfield 63, 3) := by decide +kernel
theorem dX3_leave_119 : decode cX3_leave 119 = .ok (.iload_n 3, 1) := by decide +kernel
theorem dX3_leave_120 : decode cX3_leave 120 = .ok (.iastore, 1) := by decide +kernel
theorem dX3_leave_121 : decode cX3_leave 121 = .ok (.aload_n 0, 1) := by decide +kernel
theorem dX3_leave_122 : decode cX3_leave 122 = .ok (.getfield 32, 3) := by decide +kernel
theorem dX3_leave_125 : decode cX3_leave 125 = .ok (.aload_n 0, 1) := by decide +kernel
theorem dX3_leave_126 : decode cX3_leave 126 = .ok (.getfield 63, 3) := by decide +kernel
theorem dX3_leave_129 : decode cX3_leave 129 = .ok (.aload_n 0, 1) := by decide +kernel
theorem dX3_leave_130 : decode cX3_leave 130 = .ok (.getfield 77, 3) := by decide +kernel
theorem dX3_leave_133 : decode cX3_leave 133 = .ok (.iastore, 1) := by decide +kernel
theorem dX3_leave_134 : decode cX3_leave 134 = .ok (.aload_n 0, 1) := by decide +kernel
theorem dX3_leave_135 : decode cX3_leave 135 = .ok (.getfield 44, 3) := by decide +kernel
theorem dX3_leave_138 : decode cX3_leave 138 = .ok (.aload_n 0, 1) := by decide +kernel
theorem dX3_leave_139 : decode cX3_leave 139 = .ok (.getfield 63, 3) := by decide +kernel
theorem dX3_leave_142 : decode cX3_leave 142 = .ok (.iconst (-1), 1) := by decide +kernel
theorem dX3_leave_143 : decode cX3_leave 143 = .ok (.iastore, 1) := by decide +kernel
theorem dX3_leave_144 : decode cX3_leave 144 = .ok (.aload_n 0, 1) := by decide +kernel
theorem dX3_leave_145 : decode cX3_leave 145 = .ok (.getfield 47, 3) := by decide +kernel
theorem dX3_leave_148 : decode cX3_leave 148 = .ok (.aload_n 0, 1) := by decide +kernel
theorem dX3_leave_149 : decode cX3_leave 149 = .ok (.getfield 63, 3) := by decide +kernel
theorem dX3_leave_152 : decode cX3_leave 152 = .ok (.iconst (-1), 1) := by decide +kernel
theorem dX3_leave_153 : decode cX3_leave 153 = .ok (.iastore, 1) := by decide +kernel
theorem dX3_leave_154 : decode cX3_leave 154 = .ok (.aload_n 0, 1) := by decide +kernel
theorem dX3_leave_155 : decode cX3_leave 155 = .ok (.dup, 1) := by decide +kernel
theorem dX3_leave_156 : decode cX3_leave 156 = .ok (.getfield 63, 3) := by decide +kernel
theorem dX3_leave_159 : decode cX3_leave 159 = .ok (.iconst 1, 1) := by decide +kernel
theorem dX3_leave_160 : decode cX3_leave 160 = .ok (.iadd, 1) := by decide +kernel
theorem dX3_leave_161 : decode cX3_leave 161 = .ok (.putfield 63, 3) := by decide +kernel
theorem dX3_leave_164 : decode cX3_leave 164 = .ok (.aload_n 0, 1) := by decide +kernel
theorem dX3_leave_165 : decode cX3_leave 165 = .ok (.getfield 63, 3) := by decide +kernel
theorem dX3_leave_168 : decode cX3_leave 168 = .ok (.iconst 1, 1) := by decide +kernel
theorem dX3_leave_169 : decode cX3_leave 169 = .ok (.isub, 1) := by decide +kernel
theorem dX3_leave_170 : decode cX3_leave 170 = .ok (.ireturn, 1) := by decide +kernel
theorem dX3_forgets_0 : decode cX3_forgets 0 = .ok (.iconst 0, 1) := by decide +kernel
theorem dX3_forgets_1 : decode cX3_forgets 1 = .ok (.istore_n 2, 1) := by decide +kernel
theorem dX3_forgets_2 : decode cX3_forgets 2 = .ok (.iconst 0, 1) := by decide +kernel
theorem dX3_forgets_3 : decode cX3_forgets 3 = .ok (.istore_n 3, 1) := by decide +kernel
theorem dX3_forgets_4 : decode cX3_forgets 4 = .ok (.iload_n 3, 1) := by decide +kernel
theorem dX3_forgets_5 : decode cX3_forgets 5 = .ok (.aload_n 0, 1) := by decide +kernel
theorem dX3_forgets_6 : decode cX3_forgets 6 = .ok (.getfield 80, 3) := by decide +kernel
theorem dX3_forgets_9 : decode cX3_forgets 9 = .ok (.if_icmp .ge 34, 3) := by decide +kernel
theorem dX3_forgets_12 : decode cX3_forgets 12 = .ok (.aload_n 0, 1) := by decide +kernel
theorem dX3_forgets_13 : decode cX3_forgets 13 = .ok (.getfield 50, 3) := by decide +kernel
theorem dX3_forgets_16 : decode cX3_forgets 16 = .ok (.iload_n 3, 1) := by decide +kernel
theorem dX3_forgets_17 : decode cX3_forgets 17 = .ok (.iaload, 1) := by decide +kernel
theorem dX3_forgets_18 : decode cX3_forgets 18 = .ok (.iload_n 1, 1) := by decide +kernel
theorem dX3_forgets_19 : decode cX3_forgets 19 = .ok (.if_icmp .eq 18, 3) := by decide +kernel
theorem dX3_forgets_22 : decode cX3_forgets 22 = .ok (.aload_n 0, 1) := by decide +kernel
theorem dX3_forgets_23 : decode cX3_forgets 23 = .ok (.getfield 50, 3) := by decide +kernel
theorem dX3_forgets_26 : decode cX3_forgets 26 = .ok (.iload_n 2, 1) := by decide +kernel
theorem dX3_forgets_27 : decode cX3_forgets 27 = .ok (.aload_n 0, 1) := by decide +kernel
theorem dX3_forgets_28 : decode cX3_forgets 28 = .ok (.getfield 50, 3) := by decide +kernel
theorem dX3_forgets_31 : decode cX3_forgets 31 = .ok (.iload_n 3, 1) := by decide +kernel
theorem dX3_forgets_32 : decode cX3_forgets 32 = .ok (.iaload, 1) := by decide +kernel
theorem dX3_forgets_33 : decode cX3_forgets 33 = .ok (.iastore, 1) := by decide +kernel
theorem dX3_forgets_34 : decode cX3_forgets 34 = .ok (.iinc 2 1, 3) := by decide +kernel
theorem dX3_forgets_37 : decode cX3_forgets 37 = .ok (.iinc 3 1, 3) := by decide +kernel
theorem dX3_forgets_40 : decode cX3_forgets 40 = .ok (.goto (-36), 3) := by decide +kernel
theorem dX3_forgets_43 : decode cX3_forgets 43 = .ok (.aload_n 0, 1) := by decide +kernel
theorem dX3_forgets_44 : decode cX3_forgets 44 = .ok (.iload_n 2, 1) := by decide +kernel
theorem dX3_forgets_45 : decode cX3_forgets 45 = .ok (.putfield 80, 3) := by decide +kernel
theorem dX3_forgets_48 : decode cX3_forgets 48 = .ok (.aload_n 0, 1) := by decide +kernel
theorem dX3_forgets_49 : decode cX3_forgets 49 = .ok (.getfield 47, 3) := by decide +kernel
theorem dX3_forgets_52 : decode cX3_forgets 52 = .ok (.iload_n 1, 1) := by decide +kernel
theorem dX3_forgets_53 : decode cX3_forgets 53 = .ok (.iconst (-1), 1) := by decide +kernel
theorem dX3_forgets_54 : decode cX3_forgets 54 = .ok (.iastore, 1) := by decide +kernel
theorem dX3_forgets_55 : decode cX3_forgets 55 = .ok (.return_, 1) := by decide +kernel
theorem dX3_fetch_0 : decode cX3_fetch 0 = .ok (.aload_n 0, 1) := by decide +kernel
theorem dX3_fetch_1 : decode cX3_fetch 1 = .ok (.aload_n 0, 1) := by decide +kernel
theorem dX3_fetch_2 : decode cX3_fetch 2 = .ok (.iload_n 1, 1) := by decide +kernel
theorem dX3_fetch_3 : decode cX3_fetch 3 = .ok (.invokevirtual 83, 3) := by decide +kernel
theorem dX3_fetch_6 : decode cX3_fetch 6 = .ok (.ifCond .ne 7, 3) := by decide +kernel
theorem dX3_fetch_9 : decode cX3_fetch 9 = .ok (.iconst 1, 1) := by decide +kernel
theorem dX3_fetch_10 : decode cX3_fetch 10 = .ok (.goto 25, 3) := by decide +kernel
theorem dX3_fetch_13 : decode cX3_fetch 13 = .ok (.aload_n 0, 1) := by decide +kernel
theorem dX3_fetch_14 : decode cX3_fetch 14 = .ok (.iload_n 1, 1) := by decide +kernel
theorem dX3_fetch_15 : decode cX3_fetch 15 = .ok (.invokevirtual 86, 3) := by decide +kernel
theorem dX3_fetch_18 : decode cX3_fetch 18 = .ok (.ifCond .eq 12, 3) := by decide +kernel
theorem dX3_fetch_21 : decode cX3_fetch 21 = .ok (.aload_n 0, 1) := by decide +kernel
theorem dX3_fetch_22 : decode cX3_fetch 22 = .ok (.getfield 38, 3) := by decide +kernel
theorem dX3_fetch_25 : decode cX3_fetch 25 = .ok (.iload_n 1, 1) := by decide +kernel
theorem dX3_fetch_26 : decode cX3_fetch 26 = .ok (.iaload, 1) := by decide +kernel
theorem dX3_fetch_27 : decode cX3_fetch 27 = .ok (.ifCond .le 7, 3) := by decide +kernel
theorem dX3_fetch_30 : decode cX3_fetch 30 = .ok (.iconst 2, 1) := by decide +kernel
theorem dX3_fetch_31 : decode cX3_fetch 31 = .ok (.goto 4, 3) := by decide +kernel
theorem dX3_fetch_34 : decode cX3_fetch 34 = .ok (.iconst 0, 1) := by decide +kernel
theorem dX3_fetch_35 : decode cX3_fetch 35 = .ok (.invokevirtual 70, 3) := by decide +kernel
theorem dX3_fetch_38 : decode cX3_fetch 38 = .ok (.ifCond .ne 5, 3) := by decide +kernel
theorem dX3_fetch_41 : decode cX3_fetch 41 = .ok (.iconst 0, 1) := by decide +kernel
theorem dX3_fetch_42 : decode cX3_fetch 42 = .ok (.ireturn, 1) := by decide +kernel
theorem dX3_fetch_43 : decode cX3_fetch 43 = .ok (.aload_n 0, 1) := by decide +kernel
theorem dX3_fetch_44 : decode cX3_fetch 44 = .ok (.getfield 29, 3) := by decide +kernel
theorem dX3_fetch_47 : decode cX3_fetch 47 = .ok (.iload_n 1, 1) := by decide +kernel
theorem dX3_fetch_48 : decode cX3_fetch 48 = .ok (.bipush 10, 2) := by decide +kernel
theorem dX3_fetch_50 : decode cX3_fetch 50 = .ok (.iastore, 1) := by decide +kernel
theorem dX3_fetch_51 : decode cX3_fetch 51 = .ok (.aload_n 0, 1) := by decide +kernel
theorem dX3_fetch_52 : decode cX3_fetch 52 = .ok (.dup, 1) := by decide +kernel
theorem dX3_fetch_53 : decode cX3_fetch 53 = .ok (.getfield 89, 3) := by decide +kernel
theorem dX3_fetch_56 : decode cX3_fetch 56 = .ok (.aload_n 0, 1) := by decide +kernel
theorem dX3_fetch_57 : decode cX3_fetch 57 = .ok (.getfield 35, 3) := by decide +kernel
theorem dX3_fetch_60 : decode cX3_fetch 60 = .ok (.iload_n 1, 1) := by decide +kernel
theorem dX3_fetch_61 : decode cX3_fetch 61 = .ok (.iaload, 1) := by decide +kernel
theorem dX3_fetch_62 : decode cX3_fetch 62 = .ok (.iadd, 1) := by decide +kernel
theorem dX3_fetch_63 : decode cX3_fetch 63 = .ok (.putfield 89, 3) := by decide +kernel
theorem dX3_fetch_66 : decode cX3_fetch 66 = .ok (.aload_n 0, 1) := by decide +kernel
theorem dX3_fetch_67 : decode cX3_fetch 67 = .ok (.iload_n 1, 1) := by decide +kernel
theorem dX3_fetch_68 : decode cX3_fetch 68 = .ok (.invokevirtual 92, 3) := by decide +kernel
theorem dX3_fetch_71 : decode cX3_fetch 71 = .ok (.aload_n 0, 1) := by decide +kernel
theorem dX3_fetch_72 : decode cX3_fetch 72 = .ok (.getfield 35, 3) := by decide +kernel
theorem dX3_fetch_75 : decode cX3_fetch 75 = .ok (.iload_n 1, 1) := by decide +kernel
theorem dX3_fetch_76 : decode cX3_fetch 76 = .ok (.iaload, 1) := by decide +kernel
theorem dX3_fetch_77 : decode cX3_fetch 77 = .ok (.ireturn, 1) := by decide +kernel
theorem dX3_want_0 : decode cX3_want 0 = .ok (.aload_n 0, 1) := by decide +kernel
theorem dX3_want_1 : decode cX3_want 1 = .ok (.iload_n 1, 1) := by decide +kernel
theorem dX3_want_2 : decode cX3_want 2 = .ok (.invokevirtual 83, 3) := by decide +kernel
theorem dX3_want_5 : decode cX3_want 5 = .ok (.ifCond .ne 7, 3) := by decide +kernel
theorem dX3_want_8 : decode cX3_want 8 = .ok (.iconst 1, 1) := by decide +kernel
theorem dX3_want_9 : decode cX3_want 9 = .ok (.goto 37, 3) := by decide +kernel
theorem dX3_want_12 : decode cX3_want 12 = .ok (.iload_n 2, 1) := by decide +kernel
theorem dX3_want_13 : decode cX3_want 13 = .ok (.invokestatic 66, 3) := by decide +kernel
theorem dX3_want_16 : decode cX3_want 16 = .ok (.ifCond .ne 7, 3) := by decide +kernel
theorem dX3_want_19 : decode cX3_want 19 = .ok (.iconst 2, 1) := by decide +kernel
theorem dX3_want_20 : decode cX3_want 20 = .ok (.goto 26, 3) := by decide +kernel
theorem dX3_want_23 : decode cX3_want 23 = .ok (.aload_n 0, 1) := by decide +kernel
theorem dX3_want_24 : decode cX3_want 24 = .ok (.iload_n 1, 1) := by decide +kernel
theorem dX3_want_25 : decode cX3_want 25 = .ok (.invokevirtual 86, 3) := by decide +kernel
theorem dX3_want_28 : decode cX3_want 28 = .ok (.ifCond .eq 13, 3) := by decide +kernel
theorem dX3_want_31 : decode cX3_want 31 = .ok (.aload_n 0, 1) := by decide +kernel
theorem dX3_want_32 : decode cX3_want 32 = .ok (.getfield 29, 3) := by decide +kernel
theorem dX3_want_35 : decode cX3_want 35 = .ok (.iload_n 1, 1) := by decide +kernel
theorem dX3_want_36 : decode cX3_want 36 = .ok (.iaload, 1) := by decide +kernel
theorem dX3_want_37 : decode cX3_want 37 = .ok (.iload_n 2, 1) := by decide +kernel
theorem dX3_want_38 : decode cX3_want 38 = .ok (.if_icmp .ne 7, 3) := by decide +kernel
theorem dX3_want_41 : decode cX3_want 41 = .ok (.iconst 3, 1) := by decide +kernel
theorem dX3_want_42 : decode cX3_want 42 = .ok (.goto 4, 3) := by decide +kernel
theorem dX3_want_45 : decode cX3_want 45 = .ok (.iconst 0, 1) := by decide +kernel
theorem dX3_want_46 : decode cX3_want 46 = .ok (.istore_n 3, 1) := by decide +kernel
theorem dX3_want_47 : decode cX3_want 47 = .ok (.aload_n 0, 1) := by decide +kernel
theorem dX3_want_48 : decode cX3_want 48 = .ok (.iload_n 3, 1) := by decide +kernel
theorem dX3_want_49 : decode cX3_want 49 = .ok (.invokevirtual 70, 3) := by decide +kernel
theorem dX3_want_52 : decode cX3_want 52 = .ok (.ifCond .ne 5, 3) := by decide +kernel
theorem dX3_want_55 : decode cX3_want 55 = .ok (.iconst 0, 1) := by decide +kernel
theorem dX3_want_56 : decode cX3_want 56 = .ok (.ireturn, 1) := by decide +kernel
theorem dX3_want_57 : decode cX3_want 57 = .ok (.aload_n 0, 1) := by decide +kernel
theorem dX3_want_58 : decode cX3_want 58 = .ok (.iload_n 1, 1) := by decide +kernel
theorem dX3_want_59 : decode cX3_want 59 = .ok (.invokevirtual 92, 3) := by decide +kernel
theorem dX3_want_62 : decode cX3_want 62 = .ok (.aload_n 0, 1) := by decide +kernel
theorem dX3_want_63 : decode cX3_want 63 = .ok (.getfield 47, 3) := by decide +kernel
theorem dX3_want_66 : decode cX3_want 66 = .ok (.iload_n 1, 1) := by decide +kernel
theorem dX3_want_67 : decode cX3_want 67 = .ok (.iload_n 2, 1) := by decide +kernel
theorem dX3_want_68 : decode cX3_want 68 = .ok (.iastore, 1) := by decide +kernel
theorem dX3_want_69 : decode cX3_want 69 = .ok (.aload_n 0, 1) := by decide +kernel
theorem dX3_want_70 : decode cX3_want 70 = .ok (.getfield 50, 3) := by decide +kernel
theorem dX3_want_73 : decode cX3_want 73 = .ok (.aload_n 0, 1) := by decide +kernel
theorem dX3_want_74 : decode cX3_want 74 = .ok (.getfield 80, 3) := by decide +kernel
theorem dX3_want_77 : decode cX3_want 77 = .ok (.iload_n 1, 1) := by decide +kernel
theorem dX3_want_78 : decode cX3_want 78 = .ok (.iastore, 1) := by decide +kernel
theorem dX3_want_79 : decode cX3_want 79 = .ok (.aload_n 0, 1) := by decide +kernel
theorem dX3_want_80 : decode cX3_want 80 = .ok (.dup, 1) := by decide +kernel
theorem dX3_want_81 : decode cX3_want 81 = .ok (.getfield 80, 3) := by decide +kernel
theorem dX3_want_84 : decode cX3_want 84 = .ok (.iconst 1, 1) := by decide +kernel
theorem dX3_want_85 : decode cX3_want 85 = .ok (.iadd, 1) := by decide +kernel
theorem dX3_want_86 : decode cX3_want 86 = .ok (.putfield 80, 3) := by decide +kernel
theorem dX3_want_89 : decode cX3_want 89 = .ok (.aload_n 0, 1) := by decide +kernel
theorem dX3_want_90 : decode cX3_want 90 = .ok (.getfield 80, 3) := by decide +kernel
theorem dX3_want_93 : decode cX3_want 93 = .ok (.ireturn, 1) := by decide +kernel
theorem dX3_value_0 : decode cX3_value 0 = .ok (.aload_n 0, 1) := by decide +kernel
theorem dX3_value_1 : decode cX3_value 1 = .ok (.aload_n 0, 1) := by decide +kernel
theorem dX3_value_2 : decode cX3_value 2 = .ok (.iload_n 1, 1) := by decide +kernel
theorem dX3_value_3 : decode cX3_value 3 = .ok (.invokevirtual 83, 3) := by decide +kernel
theorem dX3_value_6 : decode cX3_value 6 = .ok (.ifCond .ne 7, 3) := by decide +kernel
theorem dX3_value_9 : decode cX3_value 9 = .ok (.iconst 1, 1) := by decide +kernel
theorem dX3_value_10 : decode cX3_value 10 = .ok (.goto 31, 3) := by decide +kernel
theorem dX3_value_13 : decode cX3_value 13 = .ok (.iload_n 2, 1) := by decide +kernel
theorem dX3_value_14 : decode cX3_value 14 = .ok (.iconst 0, 1) := by decide +kernel
theorem dX3_value_15 : decode cX3_value 15 = .ok (.sipush 10000, 3) := by decide +kernel
theorem dX3_value_18 : decode cX3_value 18 = .ok (.invokestatic 59, 3) := by decide +kernel
theorem dX3_value_21 : decode cX3_value 21 = .ok (.ifCond .ne 7, 3) := by decide +kernel
theorem dX3_value_24 : decode cX3_value 24 = .ok (.iconst 2, 1) := by decide +kernel
theorem dX3_value_25 : decode cX3_value 25 = .ok (.goto 16, 3) := by decide +kernel
theorem dX3_value_28 : decode cX3_value 28 = .ok (.aload_n 0, 1) := by decide +kernel
theorem dX3_value_29 : decode cX3_value 29 = .ok (.iload_n 1, 1) := by decide +kernel
theorem dX3_value_30 : decode cX3_value 30 = .ok (.invokevirtual 86, 3) := by decide +kernel
theorem dX3_value_33 : decode cX3_value 33 = .ok (.ifCond .ne 7, 3) := by decide +kernel
theorem dX3_value_36 : decode cX3_value 36 = .ok (.iconst 3, 1) := by decide +kernel
theorem dX3_value_37 : decode cX3_value 37 = .ok (.goto 4, 3) := by decide +kernel
theorem dX3_value_40 : decode cX3_value 40 = .ok (.iconst 0, 1) := by decide +kernel
theorem dX3_value_41 : decode cX3_value 41 = .ok (.invokevirtual 70, 3) := by decide +kernel
theorem dX3_value_44 : decode cX3_value 44 = .ok (.ifCond .ne 5, 3) := by decide +kernel
theorem dX3_value_47 : decode cX3_value 47 = .ok (.iconst 0, 1) := by decide +kernel
theorem dX3_value_48 : decode cX3_value 48 = .ok (.ireturn, 1) := by decide +kernel
theorem dX3_value_49 : decode cX3_value 49 = .ok (.aload_n 0, 1) := by decide +kernel
theorem dX3_value_50 : decode cX3_value 50 = .ok (.getfield 26, 3) := by decide +kernel
theorem dX3_value_53 : decode cX3_value 53 = .ok (.iload_n 1, 1) := by decide +kernel
theorem dX3_value_54 : decode cX3_value 54 = .ok (.iaload, 1) := by decide +kernel
theorem dX3_value_55 : decode cX3_value 55 = .ok (.istore_n 3, 1) := by decide +kernel
theorem dX3_value_56 : decode cX3_value 56 = .ok (.aload_n 0, 1) := by decide +kernel
theorem dX3_value_57 : decode cX3_value 57 = .ok (.getfield 26, 3) := by decide +kernel
theorem dX3_value_60 : decode cX3_value 60 = .ok (.iload_n 1, 1) := by decide +kernel
theorem dX3_value_61 : decode cX3_value 61 = .ok (.iload_n 2, 1) := by decide +kernel
theorem dX3_value_62 : decode cX3_value 62 = .ok (.iastore, 1) := by decide +kernel
theorem dX3_value_63 : decode cX3_value 63 = .ok (.iload_n 3, 1) := by decide +kernel
theorem dX3_value_64 : decode cX3_value 64 = .ok (.ireturn, 1) := by decide +kernel
theorem dX3_lend_0 : decode cX3_lend 0 = .ok (.aload_n 0, 1) := by decide +kernel
theorem dX3_lend_1 : decode cX3_lend 1 = .ok (.iload_n 1, 1) := by decide +kernel
theorem dX3_lend_2 : decode cX3_lend 2 = .ok (.invokevirtual 83, 3) := by decide +kernel
theorem dX3_lend_5 : decode cX3_lend 5 = .ok (.ifCond .ne 7, 3) := by decide +kernel
theorem dX3_lend_8 : decode cX3_lend 8 = .ok (.iconst 1, 1) := by decide +kernel
theorem dX3_lend_9 : decode cX3_lend 9 = .ok (.goto 29, 3) := by decide +kernel
theorem dX3_lend_12 : decode cX3_lend 12 = .ok (.iload_n 2, 1) := by decide +kernel
theorem dX3_lend_13 : decode cX3_lend 13 = .ok (.iconst 0, 1) := by decide +kernel
theorem dX3_lend_14 : decode cX3_lend 14 = .ok (.bipush 7, 2) := by decide +kernel
theorem dX3_lend_16 : decode cX3_lend 16 = .ok (.invokestatic 59, 3) := by decide +kernel
theorem dX3_lend_19 : decode cX3_lend 19 = .ok (.ifCond .eq 14, 3) := by decide +kernel
theorem dX3_lend_22 : decode cX3_lend 22 = .ok (.iload_n 3, 1) := by decide +kernel
theorem dX3_lend_23 : decode cX3_lend 23 = .ok (.iconst 1, 1) := by decide +kernel
theorem dX3_lend_24 : decode cX3_lend 24 = .ok (.sipush 5000, 3) := by decide +kernel
theorem dX3_lend_27 : decode cX3_lend 27 = .ok (.invokestatic 59, 3) := by decide +kernel
theorem dX3_lend_30 : decode cX3_lend 30 = .ok (.ifCond .ne 7, 3) := by decide +kernel
theorem dX3_lend_33 : decode cX3_lend 33 = .ok (.iconst 2, 1) := by decide +kernel
theorem dX3_lend_34 : decode cX3_lend 34 = .ok (.goto 4, 3) := by decide +kernel
theorem dX3_lend_37 : decode cX3_lend 37 = .ok (.iconst 0, 1) := by decide +kernel
theorem dX3_lend_38 : decode cX3_lend 38 = .ok (.istore 4, 2) := by decide +kernel
theorem dX3_lend_40 : decode cX3_lend 40 = .ok (.iload 4, 2) := by decide +kernel
theorem dX3_lend_42 : decode cX3_lend 42 = .ok (.ifCond .ne 45, 3) := by decide +kernel
theorem dX3_lend_45 : decode cX3_lend 45 = .ok (.aload_n 0, 1) := by decide +kernel
theorem dX3_lend_46 : decode cX3_lend 46 = .ok (.iload_n 1, 1) := by decide +kernel
theorem dX3_lend_47 : decode cX3_lend 47 = .ok (.invokevirtual 86, 3) := by decide +kernel
theorem dX3_lend_50 : decode cX3_lend 50 = .ok (.ifCond .eq 34, 3) := by decide +kernel
theorem dX3_lend_53 : decode cX3_lend 53 = .ok (.aload_n 0, 1) := by decide +kernel
theorem dX3_lend_54 : decode cX3_lend 54 = .ok (.getfield 20, 3) := by decide +kernel
theorem dX3_lend_57 : decode cX3_lend 57 = .ok (.iload_n 1, 1) := by decide +kernel
theorem dX3_lend_58 : decode cX3_lend 58 = .ok (.iaload, 1) := by decide +kernel
theorem dX3_lend_59 : decode cX3_lend 59 = .ok (.iload_n 2, 1) := by decide +kernel
theorem dX3_lend_60 : decode cX3_lend 60 = .ok (.if_icmp .eq 24, 3) := by decide +kernel
theorem dX3_lend_63 : decode cX3_lend 63 = .ok (.aload_n 0, 1) := by decide +kernel
theorem dX3_lend_64 : decode cX3_lend 64 = .ok (.getfield 38, 3) := by decide +kernel
theorem dX3_lend_67 : decode cX3_lend 67 = .ok (.iload_n 1, 1) := by decide +kernel
theorem dX3_lend_68 : decode cX3_lend 68 = .ok (.iaload, 1) := by decide +kernel
theorem dX3_lend_69 : decode cX3_lend 69 = .ok (.ifCond .gt 15, 3) := by decide +kernel
theorem dX3_lend_72 : decode cX3_lend 72 = .ok (.iload_n 3, 1) := by decide +kernel
theorem dX3_lend_73 : decode cX3_lend 73 = .ok (.aload_n 0, 1) := by decide +kernel
theorem dX3_lend_74 : decode cX3_lend 74 = .ok (.getfield 26, 3) := by decide +kernel
theorem dX3_lend_77 : decode cX3_lend 77 = .ok (.iload_n 1, 1) := by decide +kernel
theorem dX3_lend_78 : decode cX3_lend 78 = .ok (.iaload, 1) := by decide +kernel
theorem dX3_lend_79 : decode cX3_lend 79 = .ok (.iconst 2, 1) := by decide +kernel
theorem dX3_lend_80 : decode cX3_lend 80 = .ok (.idiv, 1) := by decide +kernel
theorem dX3_lend_81 : decode cX3_lend 81 = .ok (.if_icmp .le 6, 3) := by decide +kernel
theorem dX3_lend_84 : decode cX3_lend 84 = .ok (.iconst 3, 1) := by decide +kernel
theorem dX3_lend_85 : decode cX3_lend 85 = .ok (.istore 4, 2) := by decide +kernel
theorem dX3_lend_87 : decode cX3_lend 87 = .ok (.aload_n 0, 1) := by decide +kernel
theorem dX3_lend_88 : decode cX3_lend 88 = .ok (.iload 4, 2) := by decide +kernel
theorem dX3_lend_90 : decode cX3_lend 90 = .ok (.invokevirtual 70, 3) := by decide +kernel
theorem dX3_lend_93 : decode cX3_lend 93 = .ok (.ifCond .eq 39, 3) := by decide +kernel
theorem dX3_lend_96 : decode cX3_lend 96 = .ok (.aload_n 0, 1) := by decide +kernel
theorem dX3_lend_97 : decode cX3_lend 97 = .ok (.getfield 38, 3) := by decide +kernel
theorem dX3_lend_100 : decode cX3_lend 100 = .ok (.iload_n 1, 1) := by decide +kernel
theorem dX3_lend_101 : decode cX3_lend 101 = .ok (.iload_n 3, 1) := by decide +kernel
theorem dX3_lend_102 : decode cX3_lend 102 = .ok (.iastore, 1) := by decide +kernel
theorem dX3_lend_103 : decode cX3_lend 103 = .ok (.aload_n 0, 1) := by decide +kernel
theorem dX3_lend_104 : decode cX3_lend 104 = .ok (.getfield 41, 3) := by decide +kernel
theorem dX3_lend_107 : decode cX3_lend 107 = .ok (.iload_n 1, 1) := by decide +kernel
theorem dX3_lend_108 : decode cX3_lend 108 = .ok (.iload_n 2, 1) := by decide +kernel
theorem dX3_lend_109 : decode cX3_lend 109 = .ok (.iastore, 1) := by decide +kernel
theorem dX3_lend_110 : decode cX3_lend 110 = .ok (.aload_n 0, 1) := by decide +kernel
theorem dX3_lend_111 : decode cX3_lend 111 = .ok (.getfield 44, 3) := by decide +kernel
theorem dX3_lend_114 : decode cX3_lend 114 = .ok (.iload_n 1, 1) := by decide +kernel
theorem dX3_lend_115 : decode cX3_lend 115 = .ok (.iconst (-1), 1) := by decide +kernel
theorem dX3_lend_116 : decode cX3_lend 116 = .ok (.iastore, 1) := by decide +kernel
theorem dX3_lend_117 : decode cX3_lend 117 = .ok (.aload_n 0, 1) := by decide +kernel
theorem dX3_lend_118 : decode cX3_lend 118 = .ok (.getfield 17, 3) := by decide +kernel
theorem dX3_lend_121 : decode cX3_lend 121 = .ok (.aload_n 0, 1) := by decide +kernel
theorem dX3_lend_122 : decode cX3_lend 122 = .ok (.getfield 20, 3) := by decide +kernel
theorem dX3_lend_125 : decode cX3_lend 125 = .ok (.iload_n 1, 1) := by decide +kernel
theorem dX3_lend_126 : decode cX3_lend 126 = .ok (.iaload, 1) := by decide +kernel
theorem dX3_lend_127 : decode cX3_lend 127 = .ok (.dup2, 1) := by decide +kernel
theorem dX3_lend_128 : decode cX3_lend 128 = .ok (.iaload, 1) := by decide +kernel
theorem dX3_lend_129 : decode cX3_lend 129 = .ok (.iload_n 3, 1) := by decide +kernel
theorem dX3_lend_130 : decode cX3_lend 130 = .ok (.iadd, 1) := by decide +kernel
theorem dX3_lend_131 : decode cX3_lend 131 = .ok (.iastore, 1) := by decide +kernel
theorem dX3_lend_132 : decode cX3_lend 132 = .ok (.return_, 1) := by decide +kernel
theorem dX3_repay_0 : decode cX3_repay 0 = .ok (.aload_n 0, 1) := by decide +kernel
theorem dX3_repay_1 : decode cX3_repay 1 = .ok (.aload_n 0, 1) := by decide +kernel
theorem dX3_repay_2 : decode cX3_repay 2 = .ok (.iload_n 1, 1) := by decide +kernel
theorem dX3_repay_3 : decode cX3_repay 3 = .ok (.invokevirtual 83, 3) := by decide +kernel
theorem dX3_repay_6 : decode cX3_repay 6 = .ok (.ifCond .ne 7, 3) := by decide +kernel
theorem dX3_repay_9 : decode cX3_repay 9 = .ok (.iconst 1, 1) := by decide +kernel
theorem dX3_repay_10 : decode cX3_repay 10 = .ok (.goto 17, 3) := by decide +kernel
theorem dX3_repay_13 : decode cX3_repay 13 = .ok (.aload_n 0, 1) := by decide +kernel
theorem dX3_repay_14 : decode cX3_repay 14 = .ok (.getfield 38, 3) := by decide +kernel
theorem dX3_repay_17 : decode cX3_repay 17 = .ok (.iload_n 1, 1) := by decide +kernel
theorem dX3_repay_18 : decode cX3_repay 18 = .ok (.iaload, 1) := by decide +kernel
theorem dX3_repay_19 : decode cX3_repay 19 = .ok (.ifCond .ne 7, 3) := by decide +kernel
theorem dX3_repay_22 : decode cX3_repay 22 = .ok (.iconst 2, 1) := by decide +kernel
theorem dX3_repay_23 : decode cX3_repay 23 = .ok (.goto 4, 3) := by decide +kernel
theorem dX3_repay_26 : decode cX3_repay 26 = .ok (.iconst 0, 1) := by decide +kernel
theorem dX3_repay_27 : decode cX3_repay 27 = .ok (.invokevirtual 70, 3) := by decide +kernel
theorem dX3_repay_30 : decode cX3_repay 30 = .ok (.ifCond .ne 5, 3) := by decide +kernel
theorem dX3_repay_33 : decode cX3_repay 33 = .ok (.iconst 0, 1) := by decide +kernel
theorem dX3_repay_34 : decode cX3_repay 34 = .ok (.ireturn, 1) := by decide +kernel
theorem dX3_repay_35 : decode cX3_repay 35 = .ok (.aload_n 0, 1) := by decide +kernel
theorem dX3_repay_36 : decode cX3_repay 36 = .ok (.getfield 38, 3) := by decide +kernel
theorem dX3_repay_39 : decode cX3_repay 39 = .ok (.iload_n 1, 1) := by decide +kernel
theorem dX3_repay_40 : decode cX3_repay 40 = .ok (.iaload, 1) := by decide +kernel
theorem dX3_repay_41 : decode cX3_repay 41 = .ok (.istore_n 2, 1) := by decide +kernel
theorem dX3_repay_42 : decode cX3_repay 42 = .ok (.aload_n 0, 1) := by decide +kernel
theorem dX3_repay_43 : decode cX3_repay 43 = .ok (.getfield 17, 3) := by decide +kernel
theorem dX3_repay_46 : decode cX3_repay 46 = .ok (.aload_n 0, 1) := by decide +kernel
theorem dX3_repay_47 : decode cX3_repay 47 = .ok (.getfield 41, 3) := by decide +kernel
theorem dX3_repay_50 : decode cX3_repay 50 = .ok (.iload_n 1, 1) := by decide +kernel
theorem dX3_repay_51 : decode cX3_repay 51 = .ok (.iaload, 1) := by decide +kernel
theorem dX3_repay_52 : decode cX3_repay 52 = .ok (.dup2, 1) := by decide +kernel
theorem dX3_repay_53 : decode cX3_repay 53 = .ok (.iaload, 1) := by decide +kernel
theorem dX3_repay_54 : decode cX3_repay 54 = .ok (.iload_n 2, 1) := by decide +kernel
theorem dX3_repay_55 : decode cX3_repay 55 = .ok (.iadd, 1) := by decide +kernel
theorem dX3_repay_56 : decode cX3_repay 56 = .ok (.iastore, 1) := by decide +kernel
theorem dX3_repay_57 : decode cX3_repay 57 = .ok (.aload_n 0, 1) := by decide +kernel
theorem dX3_repay_58 : decode cX3_repay 58 = .ok (.getfield 38, 3) := by decide +kernel
theorem dX3_repay_61 : decode cX3_repay 61 = .ok (.iload_n 1, 1) := by decide +kernel
theorem dX3_repay_62 : decode cX3_repay 62 = .ok (.iconst 0, 1) := by decide +kernel
theorem dX3_repay_63 : decode cX3_repay 63 = .ok (.iastore, 1) := by decide +kernel
theorem dX3_repay_64 : decode cX3_repay 64 = .ok (.aload_n 0, 1) := by decide +kernel
theorem dX3_repay_65 : decode cX3_repay 65 = .ok (.getfield 44, 3) := by decide +kernel
theorem dX3_repay_68 : decode cX3_repay 68 = .ok (.iload_n 1, 1) := by decide +kernel
theorem dX3_repay_69 : decode cX3_repay 69 = .ok (.iconst (-1), 1) := by decide +kernel
theorem dX3_repay_70 : decode cX3_repay 70 = .ok (.iastore, 1) := by decide +kernel
theorem dX3_repay_71 : decode cX3_repay 71 = .ok (.iload_n 2, 1) := by decide +kernel
theorem dX3_repay_72 : decode cX3_repay 72 = .ok (.ireturn, 1) := by decide +kernel
theorem dX3_doubt_0 : decode cX3_doubt 0 = .ok (.aload_n 0, 1) := by decide +kernel
theorem dX3_doubt_1 : decode cX3_doubt 1 = .ok (.aload_n 0, 1) := by decide +kernel
theorem dX3_doubt_2 : decode cX3_doubt 2 = .ok (.iload_n 1, 1) := by decide +kernel
theorem dX3_doubt_3 : decode cX3_doubt 3 = .ok (.invokevirtual 83, 3) := by decide +kernel
theorem dX3_doubt_6 : decode cX3_doubt 6 = .ok (.ifCond .ne 7, 3) := by decide +kernel
theorem dX3_doubt_9 : decode cX3_doubt 9 = .ok (.iconst 1, 1) := by decide +kernel
theorem dX3_doubt_10 : decode cX3_doubt 10 = .ok (.goto 27, 3) := by decide +kernel
theorem dX3_doubt_13 : decode cX3_doubt 13 = .ok (.aload_n 0, 1) := by decide +kernel
theorem dX3_doubt_14 : decode cX3_doubt 14 = .ok (.getfield 38, 3) := by decide +kernel
theorem dX3_doubt_17 : decode cX3_doubt 17 = .ok (.iload_n 1, 1) := by decide +kernel
theorem dX3_doubt_18 : decode cX3_doubt 18 = .ok (.iaload, 1) := by decide +kernel
theorem dX3_doubt_19 : decode cX3_doubt 19 = .ok (.ifCond .eq 13, 3) := by decide +kernel
theorem dX3_doubt_22 : decode cX3_doubt 22 = .ok (.aload_n 0, 1) := by decide +kernel
theorem dX3_doubt_23 : decode cX3_doubt 23 = .ok (.getfield 44, 3) := by decide +kernel
theorem dX3_doubt_26 : decode cX3_doubt 26 = .ok (.iload_n 1, 1) := by decide +kernel
theorem dX3_doubt_27 : decode cX3_doubt 27 = .ok (.iaload, 1) := by decide +kernel
theorem dX3_doubt_28 : decode cX3_doubt 28 = .ok (.iconst (-1), 1) := by decide +kernel
theorem dX3_doubt_29 : decode cX3_doubt 29 = .ok (.if_icmp .eq 7, 3) := by decide +kernel
theorem dX3_doubt_32 : decode cX3_doubt 32 = .ok (.iconst 2, 1) := by decide +kernel
theorem dX3_doubt_33 : decode cX3_doubt 33 = .ok (.goto 4, 3) := by decide +kernel
theorem dX3_doubt_36 : decode cX3_doubt 36 = .ok (.iconst 0, 1) := by decide +kernel
theorem dX3_doubt_37 : decode cX3_doubt 37 = .ok (.invokevirtual 70, 3) := by decide +kernel
theorem dX3_doubt_40 : decode cX3_doubt 40 = .ok (.ifCond .ne 5, 3) := by decide +kernel
theorem dX3_doubt_43 : decode cX3_doubt 43 = .ok (.iconst 0, 1) := by decide +kernel
theorem dX3_doubt_44 : decode cX3_doubt 44 = .ok (.ireturn, 1) := by decide +kernel
theorem dX3_doubt_45 : decode cX3_doubt 45 = .ok (.aload_n 0, 1) := by decide +kernel
theorem dX3_doubt_46 : decode cX3_doubt 46 = .ok (.getfield 44, 3) := by decide +kernel
theorem dX3_doubt_49 : decode cX3_doubt 49 = .ok (.iload_n 1, 1) := by decide +kernel
theorem dX3_doubt_50 : decode cX3_doubt 50 = .ok (.aload_n 0, 1) := by decide +kernel
theorem dX3_doubt_51 : decode cX3_doubt 51 = .ok (.getfield 77, 3) := by decide +kernel
theorem dX3_doubt_54 : decode cX3_doubt 54 = .ok (.iconst 3, 1) := by decide +kernel
theorem dX3_doubt_55 : decode cX3_doubt 55 = .ok (.iadd, 1) := by decide +kernel
theorem dX3_doubt_56 : decode cX3_doubt 56 = .ok (.iastore, 1) := by decide +kernel
theorem dX3_doubt_57 : decode cX3_doubt 57 = .ok (.aload_n 0, 1) := by decide +kernel
theorem dX3_doubt_58 : decode cX3_doubt 58 = .ok (.getfield 44, 3) := by decide +kernel
theorem dX3_doubt_61 : decode cX3_doubt 61 = .ok (.iload_n 1, 1) := by decide +kernel
theorem dX3_doubt_62 : decode cX3_doubt 62 = .ok (.iaload, 1) := by decide +kernel
theorem dX3_doubt_63 : decode cX3_doubt 63 = .ok (.ireturn, 1) := by decide +kernel
theorem dX3_sells_0 : decode cX3_sells 0 = .ok (.aload_n 0, 1) := by decide +kernel
theorem dX3_sells_1 : decode cX3_sells 1 = .ok (.getfield 26, 3) := by decide +kernel
theorem dX3_sells_4 : decode cX3_sells 4 = .ok (.iload_n 1, 1) := by decide +kernel
theorem dX3_sells_5 : decode cX3_sells 5 = .ok (.iaload, 1) := by decide +kernel
theorem dX3_sells_6 : decode cX3_sells 6 = .ok (.istore_n 2, 1) := by decide +kernel
theorem dX3_sells_7 : decode cX3_sells 7 = .ok (.aload_n 0, 1) := by decide +kernel
theorem dX3_sells_8 : decode cX3_sells 8 = .ok (.getfield 38, 3) := by decide +kernel
theorem dX3_sells_11 : decode cX3_sells 11 = .ok (.iload_n 1, 1) := by decide +kernel
theorem dX3_sells_12 : decode cX3_sells 12 = .ok (.iaload, 1) := by decide +kernel
theorem dX3_sells_13 : decode cX3_sells 13 = .ok (.iload_n 2, 1) := by decide +kernel
theorem dX3_sells_14 : decode cX3_sells 14 = .ok (.if_icmp .ge 12, 3) := by decide +kernel
theorem dX3_sells_17 : decode cX3_sells 17 = .ok (.aload_n 0, 1) := by decide +kernel
theorem dX3_sells_18 : decode cX3_sells 18 = .ok (.getfield 38, 3) := by decide +kernel
theorem dX3_sells_21 : decode cX3_sells 21 = .ok (.iload_n 1, 1) := by decide +kernel
theorem dX3_sells_22 : decode cX3_sells 22 = .ok (.iaload, 1) := by decide +kernel
theorem dX3_sells_23 : decode cX3_sells 23 = .ok (.goto 4, 3) := by decide +kernel
theorem dX3_sells_26 : decode cX3_sells 26 = .ok (.iload_n 2, 1) := by decide +kernel
theorem dX3_sells_27 : decode cX3_sells 27 = .ok (.istore_n 3, 1) := by decide +kernel
theorem dX3_sells_28 : decode cX3_sells 28 = .ok (.iload_n 3, 1) := by decide +kernel
theorem dX3_sells_29 : decode cX3_sells 29 = .ok (.ifCond .le 18, 3) := by decide +kernel
theorem dX3_sells_32 : decode cX3_sells 32 = .ok (.aload_n 0, 1) := by decide +kernel
theorem dX3_sells_33 : decode cX3_sells 33 = .ok (.getfield 17, 3) := by decide +kernel
theorem dX3_sells_36 : decode cX3_sells 36 = .ok (.aload_n 0, 1) := by decide +kernel
theorem dX3_sells_37 : decode cX3_sells 37 = .ok (.getfield 41, 3) := by decide +kernel
theorem dX3_sells_40 : decode cX3_sells 40 = .ok (.iload_n 1, 1) := by decide +kernel
theorem dX3_sells_41 : decode cX3_sells 41 = .ok (.iaload, 1) := by decide +kernel
theorem dX3_sells_42 : decode cX3_sells 42 = .ok (.dup2, 1) := by decide +kernel
theorem dX3_sells_43 : decode cX3_sells 43 = .ok (.iaload, 1) := by decide +kernel
theorem dX3_sells_44 : decode cX3_sells 44 = .ok (.iload_n 3, 1) := by decide +kernel
theorem dX3_sells_45 : decode cX3_sells 45 = .ok (.iadd, 1) := by decide +kernel
theorem dX3_sells_46 : decode cX3_sells 46 = .ok (.iastore, 1) := by decide +kernel
theorem dX3_sells_47 : decode cX3_sells 47 = .ok (.iload_n 2, 1) := by decide +kernel
theorem dX3_sells_48 : decode cX3_sells 48 = .ok (.iload_n 3, 1) := by decide +kernel
theorem dX3_sells_49 : decode cX3_sells 49 = .ok (.isub, 1) := by decide +kernel
theorem dX3_sells_50 : decode cX3_sells 50 = .ok (.istore_n 2, 1) := by decide +kernel
theorem dX3_sells_51 : decode cX3_sells 51 = .ok (.aload_n 0, 1) := by decide +kernel
theorem dX3_sells_52 : decode cX3_sells 52 = .ok (.getfield 35, 3) := by decide +kernel
theorem dX3_sells_55 : decode cX3_sells 55 = .ok (.iload_n 1, 1) := by decide +kernel
theorem dX3_sells_56 : decode cX3_sells 56 = .ok (.aload_n 0, 1) := by decide +kernel
theorem dX3_sells_57 : decode cX3_sells 57 = .ok (.getfield 35, 3) := by decide +kernel
theorem dX3_sells_60 : decode cX3_sells 60 = .ok (.iload_n 1, 1) := by decide +kernel
theorem dX3_sells_61 : decode cX3_sells 61 = .ok (.iaload, 1) := by decide +kernel
theorem dX3_sells_62 : decode cX3_sells 62 = .ok (.iload_n 2, 1) := by decide +kernel
theorem dX3_sells_63 : decode cX3_sells 63 = .ok (.if_icmp .ge 12, 3) := by decide +kernel
theorem dX3_sells_66 : decode cX3_sells 66 = .ok (.aload_n 0, 1) := by decide +kernel
theorem dX3_sells_67 : decode cX3_sells 67 = .ok (.getfield 35, 3) := by decide +kernel
theorem dX3_sells_70 : decode cX3_sells 70 = .ok (.iload_n 1, 1) := by decide +kernel
theorem dX3_sells_71 : decode cX3_sells 71 = .ok (.iaload, 1) := by decide +kernel
theorem dX3_sells_72 : decode cX3_sells 72 = .ok (.goto 4, 3) := by decide +kernel
theorem dX3_sells_75 : decode cX3_sells 75 = .ok (.iload_n 2, 1) := by decide +kernel
theorem dX3_sells_76 : decode cX3_sells 76 = .ok (.iastore, 1) := by decide +kernel
theorem dX3_sells_77 : decode cX3_sells 77 = .ok (.aload_n 0, 1) := by decide +kernel
theorem dX3_sells_78 : decode cX3_sells 78 = .ok (.dup, 1) := by decide +kernel
theorem dX3_sells_79 : decode cX3_sells 79 = .ok (.getfield 89, 3) := by decide +kernel
theorem dX3_sells_82 : decode cX3_sells 82 = .ok (.aload_n 0, 1) := by decide +kernel
theorem dX3_sells_83 : decode cX3_sells 83 = .ok (.getfield 35, 3) := by decide +kernel
theorem dX3_sells_86 : decode cX3_sells 86 = .ok (.iload_n 1, 1) := by decide +kernel
theorem dX3_sells_87 : decode cX3_sells 87 = .ok (.iaload, 1) := by decide +kernel
theorem dX3_sells_88 : decode cX3_sells 88 = .ok (.iadd, 1) := by decide +kernel
theorem dX3_sells_89 : decode cX3_sells 89 = .ok (.putfield 89, 3) := by decide +kernel
theorem dX3_sells_92 : decode cX3_sells 92 = .ok (.aload_n 0, 1) := by decide +kernel
theorem dX3_sells_93 : decode cX3_sells 93 = .ok (.getfield 17, 3) := by decide +kernel
theorem dX3_sells_96 : decode cX3_sells 96 = .ok (.aload_n 0, 1) := by decide +kernel
theorem dX3_sells_97 : decode cX3_sells 97 = .ok (.getfield 20, 3) := by decide +kernel
theorem dX3_sells_100 : decode cX3_sells 100 = .ok (.iload_n 1, 1) := by decide +kernel
theorem dX3_sells_101 : decode cX3_sells 101 = .ok (.iaload, 1) := by decide +kernel
theorem dX3_sells_102 : decode cX3_sells 102 = .ok (.dup2, 1) := by decide +kernel
theorem dX3_sells_103 : decode cX3_sells 103 = .ok (.iaload, 1) := by decide +kernel
theorem dX3_sells_104 : decode cX3_sells 104 = .ok (.iload_n 2, 1) := by decide +kernel
theorem dX3_sells_105 : decode cX3_sells 105 = .ok (.aload_n 0, 1) := by decide +kernel
theorem dX3_sells_106 : decode cX3_sells 106 = .ok (.getfield 35, 3) := by decide +kernel
theorem dX3_sells_109 : decode cX3_sells 109 = .ok (.iload_n 1, 1) := by decide +kernel
theorem dX3_sells_110 : decode cX3_sells 110 = .ok (.iaload, 1) := by decide +kernel
theorem dX3_sells_111 : decode cX3_sells 111 = .ok (.isub, 1) := by decide +kernel
theorem dX3_sells_112 : decode cX3_sells 112 = .ok (.iadd, 1) := by decide +kernel
theorem dX3_sells_113 : decode cX3_sells 113 = .ok (.iastore, 1) := by decide +kernel
theorem dX3_sells_114 : decode cX3_sells 114 = .ok (.aload_n 0, 1) := by decide +kernel
theorem dX3_sells_115 : decode cX3_sells 115 = .ok (.getfield 38, 3) := by decide +kernel
theorem dX3_sells_118 : decode cX3_sells 118 = .ok (.iload_n 1, 1) := by decide +kernel
theorem dX3_sells_119 : decode cX3_sells 119 = .ok (.iconst 0, 1) := by decide +kernel
theorem dX3_sells_120 : decode cX3_sells 120 = .ok (.iastore, 1) := by decide +kernel
theorem dX3_sells_121 : decode cX3_sells 121 = .ok (.aload_n 0, 1) := by decide +kernel
theorem dX3_sells_122 : decode cX3_sells 122 = .ok (.getfield 44, 3) := by decide +kernel
theorem dX3_sells_125 : decode cX3_sells 125 = .ok (.iload_n 1, 1) := by decide +kernel
theorem dX3_sells_126 : decode cX3_sells 126 = .ok (.iconst (-1), 1) := by decide +kernel
theorem dX3_sells_127 : decode cX3_sells 127 = .ok (.iastore, 1) := by decide +kernel
theorem dX3_sells_128 : decode cX3_sells 128 = .ok (.aload_n 0, 1) := by decide +kernel
theorem dX3_sells_129 : decode cX3_sells 129 = .ok (.getfield 29, 3) := by decide +kernel
theorem dX3_sells_132 : decode cX3_sells 132 = .ok (.iload_n 1, 1) := by decide +kernel
theorem dX3_sells_133 : decode cX3_sells 133 = .ok (.bipush 11, 2) := by decide +kernel
theorem dX3_sells_135 : decode cX3_sells 135 = .ok (.iastore, 1) := by decide +kernel
theorem dX3_sells_136 : decode cX3_sells 136 = .ok (.aload_n 0, 1) := by decide +kernel
theorem dX3_sells_137 : decode cX3_sells 137 = .ok (.iload_n 1, 1) := by decide +kernel
theorem dX3_sells_138 : decode cX3_sells 138 = .ok (.invokevirtual 92, 3) := by decide +kernel
theorem dX3_sells_141 : decode cX3_sells 141 = .ok (.return_, 1) := by decide +kernel
theorem dX3_drives_0 : decode cX3_drives 0 = .ok (.aload_n 0, 1) := by decide +kernel
theorem dX3_drives_1 : decode cX3_drives 1 = .ok (.getfield 13, 3) := by decide +kernel
theorem dX3_drives_4 : decode cX3_drives 4 = .ok (.istore_n 1, 1) := by decide +kernel
theorem dX3_drives_5 : decode cX3_drives 5 = .ok (.iconst 0, 1) := by decide +kernel
theorem dX3_drives_6 : decode cX3_drives 6 = .ok (.istore_n 2, 1) := by decide +kernel
theorem dX3_drives_7 : decode cX3_drives 7 = .ok (.iload_n 2, 1) := by decide +kernel
theorem dX3_drives_8 : decode cX3_drives 8 = .ok (.aload_n 0, 1) := by decide +kernel
theorem dX3_drives_9 : decode cX3_drives 9 = .ok (.getfield 80, 3) := by decide +kernel
theorem dX3_drives_12 : decode cX3_drives 12 = .ok (.if_icmp .ge 91, 3) := by decide +kernel
theorem dX3_drives_15 : decode cX3_drives 15 = .ok (.aload_n 0, 1) := by decide +kernel
theorem dX3_drives_16 : decode cX3_drives 16 = .ok (.getfield 50, 3) := by decide +kernel
theorem dX3_drives_19 : decode cX3_drives 19 = .ok (.iload_n 2, 1) := by decide +kernel
theorem dX3_drives_20 : decode cX3_drives 20 = .ok (.iaload, 1) := by decide +kernel
theorem dX3_drives_21 : decode cX3_drives 21 = .ok (.istore_n 3, 1) := by decide +kernel
theorem dX3_drives_22 : decode cX3_drives 22 = .ok (.aload_n 0, 1) := by decide +kernel
theorem dX3_drives_23 : decode cX3_drives 23 = .ok (.getfield 47, 3) := by decide +kernel
theorem dX3_drives_26 : decode cX3_drives 26 = .ok (.iload_n 3, 1) := by decide +kernel
theorem dX3_drives_27 : decode cX3_drives 27 = .ok (.iaload, 1) := by decide +kernel
theorem dX3_drives_28 : decode cX3_drives 28 = .ok (.istore 4, 2) := by decide +kernel
theorem dX3_drives_30 : decode cX3_drives 30 = .ok (.aload_n 0, 1) := by decide +kernel
theorem dX3_drives_31 : decode cX3_drives 31 = .ok (.getfield 38, 3) := by decide +kernel
theorem dX3_drives_34 : decode cX3_drives 34 = .ok (.iload_n 3, 1) := by decide +kernel
theorem dX3_drives_35 : decode cX3_drives 35 = .ok (.iaload, 1) := by decide +kernel
theorem dX3_drives_36 : decode cX3_drives 36 = .ok (.ifCond .ne 61, 3) := by decide +kernel
theorem dX3_drives_39 : decode cX3_drives 39 = .ok (.aload_n 0, 1) := by decide +kernel
theorem dX3_drives_40 : decode cX3_drives 40 = .ok (.getfield 23, 3) := by decide +kernel
theorem dX3_drives_43 : decode cX3_drives 43 = .ok (.iload_n 3, 1) := by decide +kernel
theorem dX3_drives_44 : decode cX3_drives 44 = .ok (.iaload, 1) := by decide +kernel
theorem dX3_drives_45 : decode cX3_drives 45 = .ok (.iload_n 1, 1) := by decide +kernel
theorem dX3_drives_46 : decode cX3_drives 46 = .ok (.if_icmp .gt 51, 3) := by decide +kernel
theorem dX3_drives_49 : decode cX3_drives 49 = .ok (.aload_n 0, 1) := by decide +kernel
theorem dX3_drives_50 : decode cX3_drives 50 = .ok (.iload 4, 2) := by decide +kernel
theorem dX3_drives_52 : decode cX3_drives 52 = .ok (.invokevirtual 73, 3) := by decide +kernel
theorem dX3_drives_55 : decode cX3_drives 55 = .ok (.aload_n 0, 1) := by decide +kernel
theorem dX3_drives_56 : decode cX3_drives 56 = .ok (.getfield 23, 3) := by decide +kernel
theorem dX3_drives_59 : decode cX3_drives 59 = .ok (.iload_n 3, 1) := by decide +kernel
theorem dX3_drives_60 : decode cX3_drives 60 = .ok (.iaload, 1) := by decide +kernel
theorem dX3_drives_61 : decode cX3_drives 61 = .ok (.iadd, 1) := by decide +kernel
theorem dX3_drives_62 : decode cX3_drives 62 = .ok (.aload_n 0, 1) := by decide +kernel
theorem dX3_drives_63 : decode cX3_drives 63 = .ok (.getfield 7, 3) := by decide +kernel
theorem dX3_drives_66 : decode cX3_drives 66 = .ok (.iload 4, 2) := by decide +kernel
theorem dX3_drives_68 : decode cX3_drives 68 = .ok (.iaload, 1) := by decide +kernel
theorem dX3_drives_69 : decode cX3_drives 69 = .ok (.if_icmp .gt 28, 3) := by decide +kernel
theorem dX3_drives_72 : decode cX3_drives 72 = .ok (.iload_n 1, 1) := by decide +kernel
theorem dX3_drives_73 : decode cX3_drives 73 = .ok (.aload_n 0, 1) := by decide +kernel
theorem dX3_drives_74 : decode cX3_drives 74 = .ok (.getfield 23, 3) := by decide +kernel
theorem dX3_drives_77 : decode cX3_drives 77 = .ok (.iload_n 3, 1) := by decide +kernel
theorem dX3_drives_78 : decode cX3_drives 78 = .ok (.iaload, 1) := by decide +kernel
theorem dX3_drives_79 : decode cX3_drives 79 = .ok (.isub, 1) := by decide +kernel
theorem dX3_drives_80 : decode cX3_drives 80 = .ok (.istore_n 1, 1) := by decide +kernel
theorem dX3_drives_81 : decode cX3_drives 81 = .ok (.aload_n 0, 1) := by decide +kernel
theorem dX3_drives_82 : decode cX3_drives 82 = .ok (.getfield 29, 3) := by decide +kernel
theorem dX3_drives_85 : decode cX3_drives 85 = .ok (.iload_n 3, 1) := by decide +kernel
theorem dX3_drives_86 : decode cX3_drives 86 = .ok (.iload 4, 2) := by decide +kernel
theorem dX3_drives_88 : decode cX3_drives 88 = .ok (.iastore, 1) := by decide +kernel
theorem dX3_drives_89 : decode cX3_drives 89 = .ok (.aload_n 0, 1) := by decide +kernel
theorem dX3_drives_90 : decode cX3_drives 90 = .ok (.iload_n 3, 1) := by decide +kernel
theorem dX3_drives_91 : decode cX3_drives 91 = .ok (.invokevirtual 92, 3) := by decide +kernel
theorem dX3_drives_94 : decode cX3_drives 94 = .ok (.goto 6, 3) := by decide +kernel
theorem dX3_drives_97 : decode cX3_drives 97 = .ok (.iinc 2 1, 3) := by decide +kernel
theorem dX3_drives_100 : decode cX3_drives 100 = .ok (.goto (-93), 3) := by decide +kernel
theorem dX3_drives_103 : decode cX3_drives 103 = .ok (.return_, 1) := by decide +kernel
theorem dX3_endsDay_0 : decode cX3_endsDay 0 = .ok (.iconst 0, 1) := by decide +kernel
theorem dX3_endsDay_1 : decode cX3_endsDay 1 = .ok (.istore_n 1, 1) := by decide +kernel
theorem dX3_endsDay_2 : decode cX3_endsDay 2 = .ok (.iconst 0, 1) := by decide +kernel
theorem dX3_endsDay_3 : decode cX3_endsDay 3 = .ok (.istore_n 2, 1) := by decide +kernel
theorem dX3_endsDay_4 : decode cX3_endsDay 4 = .ok (.iload_n 2, 1) := by decide +kernel
theorem dX3_endsDay_5 : decode cX3_endsDay 5 = .ok (.aload_n 0, 1) := by decide +kernel
theorem dX3_endsDay_6 : decode cX3_endsDay 6 = .ok (.getfield 63, 3) := by decide +kernel
theorem dX3_endsDay_9 : decode cX3_endsDay 9 = .ok (.if_icmp .ge 56, 3) := by decide +kernel
theorem dX3_endsDay_12 : decode cX3_endsDay 12 = .ok (.aload_n 0, 1) := by decide +kernel
theorem dX3_endsDay_13 : decode cX3_endsDay 13 = .ok (.getfield 35, 3) := by decide +kernel
theorem dX3_endsDay_16 : decode cX3_endsDay 16 = .ok (.iload_n 2, 1) := by decide +kernel
theorem dX3_endsDay_17 : decode cX3_endsDay 17 = .ok (.dup2, 1) := by decide +kernel
theorem dX3_endsDay_18 : decode cX3_endsDay 18 = .ok (.iaload, 1) := by decide +kernel
theorem dX3_endsDay_19 : decode cX3_endsDay 19 = .ok (.aload_n 0, 1) := by decide +kernel
theorem dX3_endsDay_20 : decode cX3_endsDay 20 = .ok (.iload_n 2, 1) := by decide +kernel
theorem dX3_endsDay_21 : decode cX3_endsDay 21 = .ok (.invokevirtual 86, 3) := by decide +kernel
theorem dX3_endsDay_24 : decode cX3_endsDay 24 = .ok (.ifCond .ne 7, 3) := by decide +kernel
theorem dX3_endsDay_27 : decode cX3_endsDay 27 = .ok (.iconst 0, 1) := by decide +kernel
theorem dX3_endsDay_28 : decode cX3_endsDay 28 = .ok (.goto 29, 3) := by decide +kernel
theorem dX3_endsDay_31 : decode cX3_endsDay 31 = .ok (.aload_n 0, 1) := by decide +kernel
theorem dX3_endsDay_32 : decode cX3_endsDay 32 = .ok (.getfield 38, 3) := by decide +kernel
theorem dX3_endsDay_35 : decode cX3_endsDay 35 = .ok (.iload_n 2, 1) := by decide +kernel
theorem dX3_endsDay_36 : decode cX3_endsDay 36 = .ok (.iaload, 1) := by decide +kernel
theorem dX3_endsDay_37 : decode cX3_endsDay 37 = .ok (.ifCond .le 12, 3) := by decide +kernel
theorem dX3_endsDay_40 : decode cX3_endsDay 40 = .ok (.aload_n 0, 1) := by decide +kernel
theorem dX3_endsDay_41 : decode cX3_endsDay 41 = .ok (.getfield 23, 3) := by decide +kernel
theorem dX3_endsDay_44 : decode cX3_endsDay 44 = .ok (.iload_n 2, 1) := by decide +kernel
theorem dX3_endsDay_45 : decode cX3_endsDay 45 = .ok (.iaload, 1) := by decide +kernel
theorem dX3_endsDay_46 : decode cX3_endsDay 46 = .ok (.goto 11, 3) := by decide +kernel
theorem dX3_endsDay_49 : decode cX3_endsDay 49 = .ok (.iconst 2, 1) := by decide +kernel
theorem dX3_endsDay_50 : decode cX3_endsDay 50 = .ok (.aload_n 0, 1) := by decide +kernel
theorem dX3_endsDay_51 : decode cX3_endsDay 51 = .ok (.getfield 23, 3) := by decide +kernel
theorem dX3_endsDay_54 : decode cX3_endsDay 54 = .ok (.iload_n 2, 1) := by decide +kernel
theorem dX3_endsDay_55 : decode cX3_endsDay 55 = .ok (.iaload, 1) := by decide +kernel
theorem dX3_endsDay_56 : decode cX3_endsDay 56 = .ok (.imul, 1) := by decide +kernel
theorem dX3_endsDay_57 : decode cX3_endsDay 57 = .ok (.iadd, 1) := by decide +kernel
theorem dX3_endsDay_58 : decode cX3_endsDay 58 = .ok (.iastore, 1) := by decide +kernel
theorem dX3_endsDay_59 : decode cX3_endsDay 59 = .ok (.iinc 2 1, 3) := by decide +kernel
theorem dX3_endsDay_62 : decode cX3_endsDay 62 = .ok (.goto (-58), 3) := by decide +kernel
theorem dX3_endsDay_65 : decode cX3_endsDay 65 = .ok (.iconst 0, 1) := by decide +kernel
theorem dX3_endsDay_66 : decode cX3_endsDay 66 = .ok (.istore_n 2, 1) := by decide +kernel
theorem dX3_endsDay_67 : decode cX3_endsDay 67 = .ok (.iload_n 2, 1) := by decide +kernel
theorem dX3_endsDay_68 : decode cX3_endsDay 68 = .ok (.aload_n 0, 1) := by decide +kernel
theorem dX3_endsDay_69 : decode cX3_endsDay 69 = .ok (.getfield 63, 3) := by decide +kernel
theorem dX3_endsDay_72 : decode cX3_endsDay 72 = .ok (.if_icmp .ge 47, 3) := by decide +kernel
theorem dX3_endsDay_75 : decode cX3_endsDay 75 = .ok (.aload_n 0, 1) := by decide +kernel
theorem dX3_endsDay_76 : decode cX3_endsDay 76 = .ok (.iload_n 2, 1) := by decide +kernel
theorem dX3_endsDay_77 : decode cX3_endsDay 77 = .ok (.invokevirtual 86, 3) := by decide +kernel
theorem dX3_endsDay_80 : decode cX3_endsDay 80 = .ok (.ifCond .eq 33, 3) := by decide +kernel
theorem dX3_endsDay_83 : decode cX3_endsDay 83 = .ok (.aload_n 0, 1) := by decide +kernel
theorem dX3_endsDay_84 : decode cX3_endsDay 84 = .ok (.getfield 38, 3) := by decide +kernel
theorem dX3_endsDay_87 : decode cX3_endsDay 87 = .ok (.iload_n 2, 1) := by decide +kernel
theorem dX3_endsDay_88 : decode cX3_endsDay 88 = .ok (.iaload, 1) := by decide +kernel
theorem dX3_endsDay_89 : decode cX3_endsDay 89 = .ok (.ifCond .le 24, 3) := by decide +kernel
theorem dX3_endsDay_92 : decode cX3_endsDay 92 = .ok (.aload_n 0, 1) := by decide +kernel
theorem dX3_endsDay_93 : decode cX3_endsDay 93 = .ok (.getfield 44, 3) := by decide +kernel
theorem dX3_endsDay_96 : decode cX3_endsDay 96 = .ok (.iload_n 2, 1) := by decide +kernel
theorem dX3_endsDay_97 : decode cX3_endsDay 97 = .ok (.iaload, 1) := by decide +kernel
theorem dX3_endsDay_98 : decode cX3_endsDay 98 = .ok (.aload_n 0, 1) := by decide +kernel
theorem dX3_endsDay_99 : decode cX3_endsDay 99 = .ok (.getfield 77, 3) := by decide +kernel
theorem dX3_endsDay_102 : decode cX3_endsDay 102 = .ok (.if_icmp .ne 11, 3) := by decide +kernel
theorem dX3_endsDay_105 : decode cX3_endsDay 105 = .ok (.aload_n 0, 1) := by decide +kernel
theorem dX3_endsDay_106 : decode cX3_endsDay 106 = .ok (.iload_n 2, 1) := by decide +kernel
theorem dX3_endsDay_107 : decode cX3_endsDay 107 = .ok (.invokevirtual 96, 3) := by decide +kernel
theorem dX3_endsDay_110 : decode cX3_endsDay 110 = .ok (.iinc 1 1, 3) := by decide +kernel
theorem dX3_endsDay_113 : decode cX3_endsDay 113 = .ok (.iinc 2 1, 3) := by decide +kernel
theorem dX3_endsDay_116 : decode cX3_endsDay 116 = .ok (.goto (-49), 3) := by decide +kernel
theorem dX3_endsDay_119 : decode cX3_endsDay 119 = .ok (.iconst 0, 1) := by decide +kernel
theorem dX3_endsDay_120 : decode cX3_endsDay 120 = .ok (.istore_n 2, 1) := by decide +kernel
theorem dX3_endsDay_121 : decode cX3_endsDay 121 = .ok (.iload_n 2, 1) := by decide +kernel
theorem dX3_endsDay_122 : decode cX3_endsDay 122 = .ok (.aload_n 0, 1) := by decide +kernel
theorem dX3_endsDay_123 : decode cX3_endsDay 123 = .ok (.getfield 63, 3) := by decide +kernel
theorem dX3_endsDay_126 : decode cX3_endsDay 126 = .ok (.if_icmp .ge 52, 3) := by decide +kernel
theorem dX3_endsDay_129 : decode cX3_endsDay 129 = .ok (.aload_n 0, 1) := by decide +kernel
theorem dX3_endsDay_130 : decode cX3_endsDay 130 = .ok (.iload_n 2, 1) := by decide +kernel
theorem dX3_endsDay_131 : decode cX3_endsDay 131 = .ok (.invokevirtual 86, 3) := by decide +kernel
theorem dX3_endsDay_134 : decode cX3_endsDay 134 = .ok (.ifCond .eq 38, 3) := by decide +kernel
theorem dX3_endsDay_137 : decode cX3_endsDay 137 = .ok (.aload_n 0, 1) := by decide +kernel
theorem dX3_endsDay_138 : decode cX3_endsDay 138 = .ok (.getfield 38, 3) := by decide +kernel
theorem dX3_endsDay_141 : decode cX3_endsDay 141 = .ok (.iload_n 2, 1) := by decide +kernel
theorem dX3_endsDay_142 : decode cX3_endsDay 142 = .ok (.iaload, 1) := by decide +kernel
theorem dX3_endsDay_143 : decode cX3_endsDay 143 = .ok (.ifCond .ne 29, 3) := by decide +kernel
theorem dX3_endsDay_146 : decode cX3_endsDay 146 = .ok (.aload_n 0, 1) := by decide +kernel
theorem dX3_endsDay_147 : decode cX3_endsDay 147 = .ok (.getfield 77, 3) := by decide +kernel
theorem dX3_endsDay_150 : decode cX3_endsDay 150 = .ok (.aload_n 0, 1) := by decide +kernel
theorem dX3_endsDay_151 : decode cX3_endsDay 151 = .ok (.getfield 32, 3) := by decide +kernel
theorem dX3_endsDay_154 : decode cX3_endsDay 154 = .ok (.iload_n 2, 1) := by decide +kernel
theorem dX3_endsDay_155 : decode cX3_endsDay 155 = .ok (.iaload, 1) := by decide +kernel
theorem dX3_endsDay_156 : decode cX3_endsDay 156 = .ok (.isub, 1) := by decide +kernel
theorem dX3_endsDay_157 : decode cX3_endsDay 157 = .ok (.iconst 1, 1) := by decide +kernel
theorem dX3_endsDay_158 : decode cX3_endsDay 158 = .ok (.iadd, 1) := by decide +kernel
theorem dX3_endsDay_159 : decode cX3_endsDay 159 = .ok (.bipush 30, 2) := by decide +kernel
theorem dX3_endsDay_161 : decode cX3_endsDay 161 = .ok (.if_icmp .lt 11, 3) := by decide +kernel
theorem dX3_endsDay_164 : decode cX3_endsDay 164 = .ok (.aload_n 0, 1) := by decide +kernel
theorem dX3_endsDay_165 : decode cX3_endsDay 165 = .ok (.iload_n 2, 1) := by decide +kernel
theorem dX3_endsDay_166 : decode cX3_endsDay 166 = .ok (.invokevirtual 96, 3) := by decide +kernel
theorem dX3_endsDay_169 : decode cX3_endsDay 169 = .ok (.iinc 1 1, 3) := by decide +kernel
theorem dX3_endsDay_172 : decode cX3_endsDay 172 = .ok (.iinc 2 1, 3) := by decide +kernel
theorem dX3_endsDay_175 : decode cX3_endsDay 175 = .ok (.goto (-54), 3) := by decide +kernel
theorem dX3_endsDay_178 : decode cX3_endsDay 178 = .ok (.aload_n 0, 1) := by decide +kernel
theorem dX3_endsDay_179 : decode cX3_endsDay 179 = .ok (.invokevirtual 99, 3) := by decide +kernel
theorem dX3_endsDay_182 : decode cX3_endsDay 182 = .ok (.aload_n 0, 1) := by decide +kernel
theorem dX3_endsDay_183 : decode cX3_endsDay 183 = .ok (.dup, 1) := by decide +kernel
theorem dX3_endsDay_184 : decode cX3_endsDay 184 = .ok (.getfield 77, 3) := by decide +kernel
theorem dX3_endsDay_187 : decode cX3_endsDay 187 = .ok (.iconst 1, 1) := by decide +kernel
theorem dX3_endsDay_188 : decode cX3_endsDay 188 = .ok (.iadd, 1) := by decide +kernel
theorem dX3_endsDay_189 : decode cX3_endsDay 189 = .ok (.putfield 77, 3) := by decide +kernel
theorem dX3_endsDay_192 : decode cX3_endsDay 192 = .ok (.iconst 0, 1) := by decide +kernel
theorem dX3_endsDay_193 : decode cX3_endsDay 193 = .ok (.istore_n 2, 1) := by decide +kernel
theorem dX3_endsDay_194 : decode cX3_endsDay 194 = .ok (.iload_n 2, 1) := by decide +kernel
theorem dX3_endsDay_195 : decode cX3_endsDay 195 = .ok (.aload_n 0, 1) := by decide +kernel
theorem dX3_endsDay_196 : decode cX3_endsDay 196 = .ok (.getfield 63, 3) := by decide +kernel
theorem dX3_endsDay_199 : decode cX3_endsDay 199 = .ok (.if_icmp .ge 29, 3) := by decide +kernel
theorem dX3_endsDay_202 : decode cX3_endsDay 202 = .ok (.aload_n 0, 1) := by decide +kernel
theorem dX3_endsDay_203 : decode cX3_endsDay 203 = .ok (.getfield 53, 3) := by decide +kernel
theorem dX3_endsDay_206 : decode cX3_endsDay 206 = .ok (.bipush 24, 2) := by decide +kernel
theorem dX3_endsDay_208 : decode cX3_endsDay 208 = .ok (.aload_n 0, 1) := by decide +kernel
theorem dX3_endsDay_209 : decode cX3_endsDay 209 = .ok (.getfield 77, 3) := by decide +kernel
theorem dX3_endsDay_212 : decode cX3_endsDay 212 = .ok (.imul, 1) := by decide +kernel
theorem dX3_endsDay_213 : decode cX3_endsDay 213 = .ok (.iload_n 2, 1) := by decide +kernel
theorem dX3_endsDay_214 : decode cX3_endsDay 214 = .ok (.iadd, 1) := by decide +kernel
theorem dX3_endsDay_215 : decode cX3_endsDay 215 = .ok (.aload_n 0, 1) := by decide +kernel
theorem dX3_endsDay_216 : decode cX3_endsDay 216 = .ok (.getfield 29, 3) := by decide +kernel
theorem dX3_endsDay_219 : decode cX3_endsDay 219 = .ok (.iload_n 2, 1) := by decide +kernel
theorem dX3_endsDay_220 : decode cX3_endsDay 220 = .ok (.iaload, 1) := by decide +kernel
theorem dX3_endsDay_221 : decode cX3_endsDay 221 = .ok (.iastore, 1) := by decide +kernel
theorem dX3_endsDay_222 : decode cX3_endsDay 222 = .ok (.iinc 2 1, 3) := by decide +kernel
theorem dX3_endsDay_225 : decode cX3_endsDay 225 = .ok (.goto (-31), 3) := by decide +kernel
theorem dX3_endsDay_228 : decode cX3_endsDay 228 = .ok (.iload_n 1, 1) := by decide +kernel
theorem dX3_endsDay_229 : decode cX3_endsDay 229 = .ok (.ireturn, 1) := by decide +kernel
theorem dX3_pass_0 : decode cX3_pass 0 = .ok (.aload_n 0, 1) := by decide +kernel
theorem dX3_pass_1 : decode cX3_pass 1 = .ok (.iload_n 1, 1) := by decide +kernel
theorem dX3_pass_2 : decode cX3_pass 2 = .ok (.iconst 1, 1) := by decide +kernel
theorem dX3_pass_3 : decode cX3_pass 3 = .ok (.bipush 40, 2) := by decide +kernel
theorem dX3_pass_5 : decode cX3_pass 5 = .ok (.invokestatic 59, 3) := by decide +kernel
theorem dX3_pass_8 : decode cX3_pass 8 = .ok (.ifCond .ne 7, 3) := by decide +kernel
theorem dX3_pass_11 : decode cX3_pass 11 = .ok (.iconst 1, 1) := by decide +kernel
theorem dX3_pass_12 : decode cX3_pass 12 = .ok (.goto 20, 3) := by decide +kernel
theorem dX3_pass_15 : decode cX3_pass 15 = .ok (.aload_n 0, 1) := by decide +kernel
theorem dX3_pass_16 : decode cX3_pass 16 = .ok (.getfield 77, 3) := by decide +kernel
theorem dX3_pass_19 : decode cX3_pass 19 = .ok (.iload_n 1, 1) := by decide +kernel
theorem dX3_pass_20 : decode cX3_pass 20 = .ok (.iadd, 1) := by decide +kernel
theorem dX3_pass_21 : decode cX3_pass 21 = .ok (.sipush 1000, 3) := by decide +kernel
theorem dX3_pass_24 : decode cX3_pass 24 = .ok (.if_icmp .le 7, 3) := by decide +kernel
theorem dX3_pass_27 : decode cX3_pass 27 = .ok (.iconst 2, 1) := by decide +kernel
theorem dX3_pass_28 : decode cX3_pass 28 = .ok (.goto 4, 3) := by decide +kernel
theorem dX3_pass_31 : decode cX3_pass 31 = .ok (.iconst 0, 1) := by decide +kernel
theorem dX3_pass_32 : decode cX3_pass 32 = .ok (.invokevirtual 70, 3) := by decide +kernel
theorem dX3_pass_35 : decode cX3_pass 35 = .ok (.ifCond .ne 5, 3) := by decide +kernel
theorem dX3_pass_38 : decode cX3_pass 38 = .ok (.iconst 0, 1) := by decide +kernel
theorem dX3_pass_39 : decode cX3_pass 39 = .ok (.ireturn, 1) := by decide +kernel
theorem dX3_pass_40 : decode cX3_pass 40 = .ok (.iconst 0, 1) := by decide +kernel
theorem dX3_pass_41 : decode cX3_pass 41 = .ok (.istore_n 2, 1) := by decide +kernel
theorem dX3_pass_42 : decode cX3_pass 42 = .ok (.iconst 0, 1) := by decide +kernel
theorem dX3_pass_43 : decode cX3_pass 43 = .ok (.istore_n 3, 1) := by decide +kernel
theorem dX3_pass_44 : decode cX3_pass 44 = .ok (.iload_n 3, 1) := by decide +kernel
theorem dX3_pass_45 : decode cX3_pass 45 = .ok (.iload_n 1, 1) := by decide +kernel
theorem dX3_pass_46 : decode cX3_pass 46 = .ok (.if_icmp .ge 16, 3) := by decide +kernel
theorem dX3_pass_49 : decode cX3_pass 49 = .ok (.iload_n 2, 1) := by decide +kernel
theorem dX3_pass_50 : decode cX3_pass 50 = .ok (.aload_n 0, 1) := by decide +kernel
theorem dX3_pass_51 : decode cX3_pass 51 = .ok (.invokevirtual 102, 3) := by decide +kernel
theorem dX3_pass_54 : decode cX3_pass 54 = .ok (.iadd, 1) := by decide +kernel
theorem dX3_pass_55 : decode cX3_pass 55 = .ok (.istore_n 2, 1) := by decide +kernel
theorem dX3_pass_56 : decode cX3_pass 56 = .ok (.iinc 3 1, 3) := by decide +kernel
theorem dX3_pass_59 : decode cX3_pass 59 = .ok (.goto (-15), 3) := by decide +kernel
theorem dX3_pass_62 : decode cX3_pass 62 = .ok (.iload_n 2, 1) := by decide +kernel
theorem dX3_pass_63 : decode cX3_pass 63 = .ok (.ireturn, 1) := by decide +kernel
theorem dX3_day_0 : decode cX3_day 0 = .ok (.aload_n 0, 1) := by decide +kernel
theorem dX3_day_1 : decode cX3_day 1 = .ok (.iconst 0, 1) := by decide +kernel
theorem dX3_day_2 : decode cX3_day 2 = .ok (.putfield 56, 3) := by decide +kernel
theorem dX3_day_5 : decode cX3_day 5 = .ok (.aload_n 0, 1) := by decide +kernel
theorem dX3_day_6 : decode cX3_day 6 = .ok (.getfield 77, 3) := by decide +kernel
theorem dX3_day_9 : decode cX3_day 9 = .ok (.ireturn, 1) := by decide +kernel
theorem dX3_things_0 : decode cX3_things 0 = .ok (.aload_n 0, 1) := by decide +kernel
theorem dX3_things_1 : decode cX3_things 1 = .ok (.iconst 0, 1) := by decide +kernel
theorem dX3_things_2 : decode cX3_things 2 = .ok (.putfield 56, 3) := by decide +kernel
theorem dX3_things_5 : decode cX3_things 5 = .ok (.aload_n 0, 1) := by decide +kernel
theorem dX3_things_6 : decode cX3_things 6 = .ok (.getfield 63, 3) := by decide +kernel
theorem dX3_things_9 : decode cX3_things 9 = .ok (.ireturn, 1) := by decide +kernel
theorem dX3_where_0 : decode cX3_where 0 = .ok (.aload_n 0, 1) := by decide +kernel
theorem dX3_where_1 : decode cX3_where 1 = .ok (.aload_n 0, 1) := by decide +kernel
theorem dX3_where_2 : decode cX3_where 2 = .ok (.iload_n 1, 1) := by decide +kernel
theorem dX3_where_3 : decode cX3_where 3 = .ok (.invokevirtual 83, 3) := by decide +kernel
theorem dX3_where_6 : decode cX3_where 6 = .ok (.ifCond .eq 7, 3) := by decide +kernel
theorem dX3_where_9 : decode cX3_where 9 = .ok (.iconst 0, 1) := by decide +kernel
theorem dX3_where_10 : decode cX3_where 10 = .ok (.goto 4, 3) := by decide +kernel
theorem dX3_where_13 : decode cX3_where 13 = .ok (.iconst 1, 1) := by decide +kernel
theorem dX3_where_14 : decode cX3_where 14 = .ok (.invokevirtual 70, 3) := by decide +kernel
theorem dX3_where_17 : decode cX3_where 17 = .ok (.ifCond .eq 12, 3) := by decide +kernel
theorem dX3_where_20 : decode cX3_where 20 = .ok (.aload_n 0, 1) := by decide +kernel
theorem dX3_where_21 : decode cX3_where 21 = .ok (.getfield 29, 3) := by decide +kernel
theorem dX3_where_24 : decode cX3_where 24 = .ok (.iload_n 1, 1) := by decide +kernel
theorem dX3_where_25 : decode cX3_where 25 = .ok (.iaload, 1) := by decide +kernel
theorem dX3_where_26 : decode cX3_where 26 = .ok (.goto 4, 3) := by decide +kernel
theorem dX3_where_29 : decode cX3_where 29 = .ok (.iconst 0, 1) := by decide +kernel
theorem dX3_where_30 : decode cX3_where 30 = .ok (.ireturn, 1) := by decide +kernel
theorem dX3_whereOn_0 : decode cX3_whereOn 0 = .ok (.aload_n 0, 1) := by decide +kernel
theorem dX3_whereOn_1 : decode cX3_whereOn 1 = .ok (.aload_n 0, 1) := by decide +kernel
theorem dX3_whereOn_2 : decode cX3_whereOn 2 = .ok (.iload_n 1, 1) := by decide +kernel
theorem dX3_whereOn_3 : decode cX3_whereOn 3 = .ok (.invokevirtual 83, 3) := by decide +kernel
theorem dX3_whereOn_6 : decode cX3_whereOn 6 = .ok (.ifCond .ne 7, 3) := by decide +kernel
theorem dX3_whereOn_9 : decode cX3_whereOn 9 = .ok (.iconst 1, 1) := by decide +kernel
theorem dX3_whereOn_10 : decode cX3_whereOn 10 = .ok (.goto 20, 3) := by decide +kernel
theorem dX3_whereOn_13 : decode cX3_whereOn 13 = .ok (.iload_n 2, 1) := by decide +kernel
theorem dX3_whereOn_14 : decode cX3_whereOn 14 = .ok (.iconst 0, 1) := by decide +kernel
theorem dX3_whereOn_15 : decode cX3_whereOn 15 = .ok (.aload_n 0, 1) := by decide +kernel
theorem dX3_whereOn_16 : decode cX3_whereOn 16 = .ok (.getfield 77, 3) := by decide +kernel
theorem dX3_whereOn_19 : decode cX3_whereOn 19 = .ok (.invokestatic 59, 3) := by decide +kernel
theorem dX3_whereOn_22 : decode cX3_whereOn 22 = .ok (.ifCond .ne 7, 3) := by decide +kernel
theorem dX3_whereOn_25 : decode cX3_whereOn 25 = .ok (.iconst 2, 1) := by decide +kernel
theorem dX3_whereOn_26 : decode cX3_whereOn 26 = .ok (.goto 4, 3) := by decide +kernel
theorem dX3_whereOn_29 : decode cX3_whereOn 29 = .ok (.iconst 0, 1) := by decide +kernel
theorem dX3_whereOn_30 : decode cX3_whereOn 30 = .ok (.invokevirtual 70, 3) := by decide +kernel
theorem dX3_whereOn_33 : decode cX3_whereOn 33 = .ok (.ifCond .ne 5, 3) := by decide +kernel
theorem dX3_whereOn_36 : decode cX3_whereOn 36 = .ok (.iconst 0, 1) := by decide +kernel
theorem dX3_whereOn_37 : decode cX3_whereOn 37 = .ok (.ireturn, 1) := by decide +kernel
theorem dX3_whereOn_38 : decode cX3_whereOn 38 = .ok (.iload_n 2, 1) := by decide +kernel
theorem dX3_whereOn_39 : decode cX3_whereOn 39 = .ok (.aload_n 0, 1) := by decide +kernel
theorem dX3_whereOn_40 : decode cX3_whereOn 40 = .ok (.getfield 77, 3) := by decide +kernel
theorem dX3_whereOn_43 : decode cX3_whereOn 43 = .ok (.if_icmp .ne 12, 3) := by decide +kernel
theorem dX3_whereOn_46 : decode cX3_whereOn 46 = .ok (.aload_n 0, 1) := by decide +kernel
theorem dX3_whereOn_47 : decode cX3_whereOn 47 = .ok (.getfield 29, 3) := by decide +kernel
theorem dX3_whereOn_50 : decode cX3_whereOn 50 = .ok (.iload_n 1, 1) := by decide +kernel
theorem dX3_whereOn_51 : decode cX3_whereOn 51 = .ok (.iaload, 1) := by decide +kernel
theorem dX3_whereOn_52 : decode cX3_whereOn 52 = .ok (.goto 14, 3) := by decide +kernel
theorem dX3_whereOn_55 : decode cX3_whereOn 55 = .ok (.aload_n 0, 1) := by decide +kernel
theorem dX3_whereOn_56 : decode cX3_whereOn 56 = .ok (.getfield 53, 3) := by decide +kernel
theorem dX3_whereOn_59 : decode cX3_whereOn 59 = .ok (.bipush 24, 2) := by decide +kernel
theorem dX3_whereOn_61 : decode cX3_whereOn 61 = .ok (.iload_n 2, 1) := by decide +kernel
theorem dX3_whereOn_62 : decode cX3_whereOn 62 = .ok (.imul, 1) := by decide +kernel
theorem dX3_whereOn_63 : decode cX3_whereOn 63 = .ok (.iload_n 1, 1) := by decide +kernel
theorem dX3_whereOn_64 : decode cX3_whereOn 64 = .ok (.iadd, 1) := by decide +kernel
theorem dX3_whereOn_65 : decode cX3_whereOn 65 = .ok (.iaload, 1) := by decide +kernel
theorem dX3_whereOn_66 : decode cX3_whereOn 66 = .ok (.ireturn, 1) := by decide +kernel
theorem dX3_load_0 : decode cX3_load 0 = .ok (.aload_n 0, 1) := by decide +kernel
theorem dX3_load_1 : decode cX3_load 1 = .ok (.iload_n 1, 1) := by decide +kernel
theorem dX3_load_2 : decode cX3_load 2 = .ok (.invokestatic 66, 3) := by decide +kernel
theorem dX3_load_5 : decode cX3_load 5 = .ok (.ifCond .eq 7, 3) := by decide +kernel
theorem dX3_load_8 : decode cX3_load 8 = .ok (.iconst 0, 1) := by decide +kernel
theorem dX3_load_9 : decode cX3_load 9 = .ok (.goto 4, 3) := by decide +kernel
theorem dX3_load_12 : decode cX3_load 12 = .ok (.iconst 1, 1) := by decide +kernel
theorem dX3_load_13 : decode cX3_load 13 = .ok (.invokevirtual 70, 3) := by decide +kernel
theorem dX3_load_16 : decode cX3_load 16 = .ok (.ifCond .eq 11, 3) := by decide +kernel
theorem dX3_load_19 : decode cX3_load 19 = .ok (.aload_n 0, 1) := by decide +kernel
theorem dX3_load_20 : decode cX3_load 20 = .ok (.iload_n 1, 1) := by decide +kernel
theorem dX3_load_21 : decode cX3_load 21 = .ok (.invokevirtual 73, 3) := by decide +kernel
theorem dX3_load_24 : decode cX3_load 24 = .ok (.goto 4, 3) := by decide +kernel
theorem dX3_load_27 : decode cX3_load 27 = .ok (.iconst 0, 1) := by decide +kernel
theorem dX3_load_28 : decode cX3_load 28 = .ok (.ireturn, 1) := by decide +kernel
theorem dX3_fees_0 : decode cX3_fees 0 = .ok (.aload_n 0, 1) := by decide +kernel
theorem dX3_fees_1 : decode cX3_fees 1 = .ok (.aload_n 0, 1) := by decide +kernel
theorem dX3_fees_2 : decode cX3_fees 2 = .ok (.iload_n 1, 1) := by decide +kernel
theorem dX3_fees_3 : decode cX3_fees 3 = .ok (.invokevirtual 83, 3) := by decide +kernel
theorem dX3_fees_6 : decode cX3_fees 6 = .ok (.ifCond .eq 7, 3) := by decide +kernel
theorem dX3_fees_9 : decode cX3_fees 9 = .ok (.iconst 0, 1) := by decide +kernel
theorem dX3_fees_10 : decode cX3_fees 10 = .ok (.goto 4, 3) := by decide +kernel
theorem dX3_fees_13 : decode cX3_fees 13 = .ok (.iconst 1, 1) := by decide +kernel
theorem dX3_fees_14 : decode cX3_fees 14 = .ok (.invokevirtual 70, 3) := by decide +kernel
theorem dX3_fees_17 : decode cX3_fees 17 = .ok (.ifCond .eq 12, 3) := by decide +kernel
theorem dX3_fees_20 : decode cX3_fees 20 = .ok (.aload_n 0, 1) := by decide +kernel
theorem dX3_fees_21 : decode cX3_fees 21 = .ok (.getfield 35, 3) := by decide +kernel
theorem dX3_fees_24 : decode cX3_fees 24 = .ok (.iload_n 1, 1) := by decide +kernel
theorem dX3_fees_25 : decode cX3_fees 25 = .ok (.iaload, 1) := by decide +kernel
theorem dX3_fees_26 : decode cX3_fees 26 = .ok (.goto 4, 3) := by decide +kernel
theorem dX3_fees_29 : decode cX3_fees 29 = .ok (.iconst 0, 1) := by decide +kernel
theorem dX3_fees_30 : decode cX3_fees 30 = .ok (.ireturn, 1) := by decide +kernel
theorem dX3_loan_0 : decode cX3_loan 0 = .ok (.aload_n 0, 1) := by decide +kernel
theorem dX3_loan_1 : decode cX3_loan 1 = .ok (.aload_n 0, 1) := by decide +kernel
theorem dX3_loan_2 : decode cX3_loan 2 = .ok (.iload_n 1, 1) := by decide +kernel
theorem dX3_loan_3 : decode cX3_loan 3 = .ok (.invokevirtual 83, 3) := by decide +kernel
theorem dX3_loan_6 : decode cX3_loan 6 = .ok (.ifCond .eq 7, 3) := by decide +kernel
theorem dX3_loan_9 : decode cX3_loan 9 = .ok (.iconst 0, 1) := by decide +kernel
theorem dX3_loan_10 : decode cX3_loan 10 = .ok (.goto 4, 3) := by decide +kernel
theorem dX3_loan_13 : decode cX3_loan 13 = .ok (.iconst 1, 1) := by decide +kernel
theorem dX3_loan_14 : decode cX3_loan 14 = .ok (.invokevirtual 70, 3) := by decide +kernel
theorem dX3_loan_17 : decode cX3_loan 17 = .ok (.ifCond .eq 12, 3) := by decide +kernel
theorem dX3_loan_20 : decode cX3_loan 20 = .ok (.aload_n 0, 1) := by decide +kernel
theorem dX3_loan_21 : decode cX3_loan 21 = .ok (.getfield 38, 3) := by decide +kernel
theorem dX3_loan_24 : decode cX3_loan 24 = .ok (.iload_n 1, 1) := by decide +kernel
theorem dX3_loan_25 : decode cX3_loan 25 = .ok (.iaload, 1) := by decide +kernel
theorem dX3_loan_26 : decode cX3_loan 26 = .ok (.goto 4, 3) := by decide +kernel
theorem dX3_loan_29 : decode cX3_loan 29 = .ok (.iconst 0, 1) := by decide +kernel
theorem dX3_loan_30 : decode cX3_loan 30 = .ok (.ireturn, 1) := by decide +kernel
theorem dX3_purse_0 : decode cX3_purse 0 = .ok (.aload_n 0, 1) := by decide +kernel
theorem dX3_purse_1 : decode cX3_purse 1 = .ok (.iload_n 1, 1) := by decide +kernel
theorem dX3_purse_2 : decode cX3_purse 2 = .ok (.iconst 0, 1) := by decide +kernel
theorem dX3_purse_3 : decode cX3_purse 3 = .ok (.bipush 7, 2) := by decide +kernel
theorem dX3_purse_5 : decode cX3_purse 5 = .ok (.invokestatic 59, 3) := by decide +kernel
theorem dX3_purse_8 : decode cX3_purse 8 = .ok (.ifCond .eq 7, 3) := by decide +kernel
theorem dX3_purse_11 : decode cX3_purse 11 = .ok (.iconst 0, 1) := by decide +kernel
theorem dX3_purse_12 : decode cX3_purse 12 = .ok (.goto 4, 3) := by decide +kernel
theorem dX3_purse_15 : decode cX3_purse 15 = .ok (.iconst 1, 1) := by decide +kernel
theorem dX3_purse_16 : decode cX3_purse 16 = .ok (.invokevirtual 70, 3) := by decide +kernel
theorem dX3_purse_19 : decode cX3_purse 19 = .ok (.ifCond .eq 12, 3) := by decide +kernel
theorem dX3_purse_22 : decode cX3_purse 22 = .ok (.aload_n 0, 1) := by decide +kernel
theorem dX3_purse_23 : decode cX3_purse 23 = .ok (.getfield 17, 3) := by decide +kernel
theorem dX3_purse_26 : decode cX3_purse 26 = .ok (.iload_n 1, 1) := by decide +kernel
theorem dX3_purse_27 : decode cX3_purse 27 = .ok (.iaload, 1) := by decide +kernel
theorem dX3_purse_28 : decode cX3_purse 28 = .ok (.goto 4, 3) := by decide +kernel
theorem dX3_purse_31 : decode cX3_purse 31 = .ok (.iconst 0, 1) := by decide +kernel
theorem dX3_purse_32 : decode cX3_purse 32 = .ok (.ireturn, 1) := by decide +kernel
theorem dX3_taken_0 : decode cX3_taken 0 = .ok (.aload_n 0, 1) := by decide +kernel
theorem dX3_taken_1 : decode cX3_taken 1 = .ok (.iconst 0, 1) := by decide +kernel
theorem dX3_taken_2 : decode cX3_taken 2 = .ok (.putfield 56, 3) := by decide +kernel
theorem dX3_taken_5 : decode cX3_taken 5 = .ok (.aload_n 0, 1) := by decide +kernel
theorem dX3_taken_6 : decode cX3_taken 6 = .ok (.getfield 89, 3) := by decide +kernel
theorem dX3_taken_9 : decode cX3_taken 9 = .ok (.ireturn, 1) := by decide +kernel
theorem dX3_wish_0 : decode cX3_wish 0 = .ok (.aload_n 0, 1) := by decide +kernel
theorem dX3_wish_1 : decode cX3_wish 1 = .ok (.iload_n 1, 1) := by decide +kernel
theorem dX3_wish_2 : decode cX3_wish 2 = .ok (.iconst 0, 1) := by decide +kernel
theorem dX3_wish_3 : decode cX3_wish 3 = .ok (.aload_n 0, 1) := by decide +kernel
theorem dX3_wish_4 : decode cX3_wish 4 = .ok (.getfield 80, 3) := by decide +kernel
theorem dX3_wish_7 : decode cX3_wish 7 = .ok (.iconst 1, 1) := by decide +kernel
theorem dX3_wish_8 : decode cX3_wish 8 = .ok (.isub, 1) := by decide +kernel
theorem dX3_wish_9 : decode cX3_wish 9 = .ok (.invokestatic 59, 3) := by decide +kernel
theorem dX3_wish_12 : decode cX3_wish 12 = .ok (.ifCond .eq 7, 3) := by decide +kernel
theorem dX3_wish_15 : decode cX3_wish 15 = .ok (.iconst 0, 1) := by decide +kernel
theorem dX3_wish_16 : decode cX3_wish 16 = .ok (.goto 4, 3) := by decide +kernel
theorem dX3_wish_19 : decode cX3_wish 19 = .ok (.iconst 1, 1) := by decide +kernel
theorem dX3_wish_20 : decode cX3_wish 20 = .ok (.invokevirtual 70, 3) := by decide +kernel
theorem dX3_wish_23 : decode cX3_wish 23 = .ok (.ifCond .eq 12, 3) := by decide +kernel
theorem dX3_wish_26 : decode cX3_wish 26 = .ok (.aload_n 0, 1) := by decide +kernel
theorem dX3_wish_27 : decode cX3_wish 27 = .ok (.getfield 50, 3) := by decide +kernel
theorem dX3_wish_30 : decode cX3_wish 30 = .ok (.iload_n 1, 1) := by decide +kernel
theorem dX3_wish_31 : decode cX3_wish 31 = .ok (.iaload, 1) := by decide +kernel
theorem dX3_wish_32 : decode cX3_wish 32 = .ok (.goto 4, 3) := by decide +kernel
theorem dX3_wish_35 : decode cX3_wish 35 = .ok (.iconst 0, 1) := by decide +kernel
theorem dX3_wish_36 : decode cX3_wish 36 = .ok (.ireturn, 1) := by decide +kernel
