theorem dD_init_0 : decode cD_init 0 = .ok (.aload_n 0, 1) := by decide +kernel
theorem dD_init_1 : decode cD_init 1 = .ok (.invokespecial 1, 3) := by decide +kernel
theorem dD_init_4 : decode cD_init 4 = .ok (.aload_n 0, 1) := by decide +kernel
theorem dD_init_5 : decode cD_init 5 = .ok (.iconst 3, 1) := by decide +kernel
theorem dD_init_6 : decode cD_init 6 = .ok (.anewarray 9, 3) := by decide +kernel
theorem dD_init_9 : decode cD_init 9 = .ok (.putfield 11, 3) := by decide +kernel
theorem dD_init_12 : decode cD_init 12 = .ok (.aload_n 0, 1) := by decide +kernel
theorem dD_init_13 : decode cD_init 13 = .ok (.iconst 0, 1) := by decide +kernel
theorem dD_init_14 : decode cD_init 14 = .ok (.putfield 15, 3) := by decide +kernel
theorem dD_init_17 : decode cD_init 17 = .ok (.aload_n 0, 1) := by decide +kernel
theorem dD_init_18 : decode cD_init 18 = .ok (.iconst 0, 1) := by decide +kernel
theorem dD_init_19 : decode cD_init 19 = .ok (.putfield 19, 3) := by decide +kernel
theorem dD_init_22 : decode cD_init 22 = .ok (.return_, 1) := by decide +kernel
theorem dD_date_0 : decode cD_date 0 = .ok (.aload_n 0, 1) := by decide +kernel
theorem dD_date_1 : decode cD_date 1 = .ok (.getfield 19, 3) := by decide +kernel
theorem dD_date_4 : decode cD_date 4 = .ok (.invokestatic 76, 3) := by decide +kernel
theorem dD_date_7 : decode cD_date 7 = .ok (.istore_n 1, 1) := by decide +kernel
theorem dD_date_8 : decode cD_date 8 = .ok (.sipush 10000, 3) := by decide +kernel
theorem dD_date_11 : decode cD_date 11 = .ok (.sipush 2000, 3) := by decide +kernel
theorem dD_date_14 : decode cD_date 14 = .ok (.iload_n 1, 1) := by decide +kernel
theorem dD_date_15 : decode cD_date 15 = .ok (.bipush 12, 2) := by decide +kernel
theorem dD_date_17 : decode cD_date 17 = .ok (.idiv, 1) := by decide +kernel
theorem dD_date_18 : decode cD_date 18 = .ok (.iadd, 1) := by decide +kernel
theorem dD_date_19 : decode cD_date 19 = .ok (.imul, 1) := by decide +kernel
theorem dD_date_20 : decode cD_date 20 = .ok (.bipush 100, 2) := by decide +kernel
theorem dD_date_22 : decode cD_date 22 = .ok (.iload_n 1, 1) := by decide +kernel
theorem dD_date_23 : decode cD_date 23 = .ok (.bipush 12, 2) := by decide +kernel
theorem dD_date_25 : decode cD_date 25 = .ok (.irem, 1) := by decide +kernel
theorem dD_date_26 : decode cD_date 26 = .ok (.iconst 1, 1) := by decide +kernel
theorem dD_date_27 : decode cD_date 27 = .ok (.iadd, 1) := by decide +kernel
theorem dD_date_28 : decode cD_date 28 = .ok (.imul, 1) := by decide +kernel
theorem dD_date_29 : decode cD_date 29 = .ok (.iadd, 1) := by decide +kernel
theorem dD_date_30 : decode cD_date 30 = .ok (.aload_n 0, 1) := by decide +kernel
theorem dD_date_31 : decode cD_date 31 = .ok (.getfield 19, 3) := by decide +kernel
theorem dD_date_34 : decode cD_date 34 = .ok (.invokestatic 82, 3) := by decide +kernel
theorem dD_date_37 : decode cD_date 37 = .ok (.iadd, 1) := by decide +kernel
theorem dD_date_38 : decode cD_date 38 = .ok (.ireturn, 1) := by decide +kernel
theorem dY_monthOf_0 : decode cY_monthOf 0 = .ok (.iload_n 0, 1) := by decide +kernel
theorem dY_monthOf_1 : decode cY_monthOf 1 = .ok (.sipush 306, 3) := by decide +kernel
theorem dY_monthOf_4 : decode cY_monthOf 4 = .ok (.iadd, 1) := by decide +kernel
theorem dY_monthOf_5 : decode cY_monthOf 5 = .ok (.istore_n 1, 1) := by decide +kernel
theorem dY_monthOf_6 : decode cY_monthOf 6 = .ok (.iconst 4, 1) := by decide +kernel
theorem dY_monthOf_7 : decode cY_monthOf 7 = .ok (.iload_n 1, 1) := by decide +kernel
theorem dY_monthOf_8 : decode cY_monthOf 8 = .ok (.imul, 1) := by decide +kernel
theorem dY_monthOf_9 : decode cY_monthOf 9 = .ok (.sipush 1461, 3) := by decide +kernel
theorem dY_monthOf_12 : decode cY_monthOf 12 = .ok (.idiv, 1) := by decide +kernel
theorem dY_monthOf_13 : decode cY_monthOf 13 = .ok (.istore_n 2, 1) := by decide +kernel
theorem dY_monthOf_14 : decode cY_monthOf 14 = .ok (.iload_n 1, 1) := by decide +kernel
theorem dY_monthOf_15 : decode cY_monthOf 15 = .ok (.sipush 1461, 3) := by decide +kernel
theorem dY_monthOf_18 : decode cY_monthOf 18 = .ok (.iload_n 2, 1) := by decide +kernel
theorem dY_monthOf_19 : decode cY_monthOf 19 = .ok (.imul, 1) := by decide +kernel
theorem dY_monthOf_20 : decode cY_monthOf 20 = .ok (.iconst 3, 1) := by decide +kernel
theorem dY_monthOf_21 : decode cY_monthOf 21 = .ok (.iadd, 1) := by decide +kernel
theorem dY_monthOf_22 : decode cY_monthOf 22 = .ok (.iconst 4, 1) := by decide +kernel
theorem dY_monthOf_23 : decode cY_monthOf 23 = .ok (.idiv, 1) := by decide +kernel
theorem dY_monthOf_24 : decode cY_monthOf 24 = .ok (.isub, 1) := by decide +kernel
theorem dY_monthOf_25 : decode cY_monthOf 25 = .ok (.istore_n 3, 1) := by decide +kernel
theorem dY_monthOf_26 : decode cY_monthOf 26 = .ok (.bipush 12, 2) := by decide +kernel
theorem dY_monthOf_28 : decode cY_monthOf 28 = .ok (.iload_n 2, 1) := by decide +kernel
theorem dY_monthOf_29 : decode cY_monthOf 29 = .ok (.imul, 1) := by decide +kernel
theorem dY_monthOf_30 : decode cY_monthOf 30 = .ok (.iconst 5, 1) := by decide +kernel
theorem dY_monthOf_31 : decode cY_monthOf 31 = .ok (.iload_n 3, 1) := by decide +kernel
theorem dY_monthOf_32 : decode cY_monthOf 32 = .ok (.imul, 1) := by decide +kernel
theorem dY_monthOf_33 : decode cY_monthOf 33 = .ok (.iconst 2, 1) := by decide +kernel
theorem dY_monthOf_34 : decode cY_monthOf 34 = .ok (.iadd, 1) := by decide +kernel
theorem dY_monthOf_35 : decode cY_monthOf 35 = .ok (.sipush 153, 3) := by decide +kernel
theorem dY_monthOf_38 : decode cY_monthOf 38 = .ok (.idiv, 1) := by decide +kernel
theorem dY_monthOf_39 : decode cY_monthOf 39 = .ok (.iadd, 1) := by decide +kernel
theorem dY_monthOf_40 : decode cY_monthOf 40 = .ok (.bipush 10, 2) := by decide +kernel
theorem dY_monthOf_42 : decode cY_monthOf 42 = .ok (.isub, 1) := by decide +kernel
theorem dY_monthOf_43 : decode cY_monthOf 43 = .ok (.ireturn, 1) := by decide +kernel
theorem dY_numberInMonth_0 : decode cY_numberInMonth 0 = .ok (.iload_n 0, 1) := by decide +kernel
theorem dY_numberInMonth_1 : decode cY_numberInMonth 1 = .ok (.iload_n 0, 1) := by decide +kernel
theorem dY_numberInMonth_2 : decode cY_numberInMonth 2 = .ok (.invokestatic 9, 3) := by decide +kernel
theorem dY_numberInMonth_5 : decode cY_numberInMonth 5 = .ok (.invokestatic 13, 3) := by decide +kernel
theorem dY_numberInMonth_8 : decode cY_numberInMonth 8 = .ok (.isub, 1) := by decide +kernel
theorem dY_numberInMonth_9 : decode cY_numberInMonth 9 = .ok (.iconst 1, 1) := by decide +kernel
theorem dY_numberInMonth_10 : decode cY_numberInMonth 10 = .ok (.iadd, 1) := by decide +kernel
theorem dY_numberInMonth_11 : decode cY_numberInMonth 11 = .ok (.ireturn, 1) := by decide +kernel
theorem dY_firstDayOf_0 : decode cY_firstDayOf 0 = .ok (.iload_n 0, 1) := by decide +kernel
theorem dY_firstDayOf_1 : decode cY_firstDayOf 1 = .ok (.bipush 10, 2) := by decide +kernel
theorem dY_firstDayOf_3 : decode cY_firstDayOf 3 = .ok (.iadd, 1) := by decide +kernel
theorem dY_firstDayOf_4 : decode cY_firstDayOf 4 = .ok (.istore_n 1, 1) := by decide +kernel
theorem dY_firstDayOf_5 : decode cY_firstDayOf 5 = .ok (.iload_n 1, 1) := by decide +kernel
theorem dY_firstDayOf_6 : decode cY_firstDayOf 6 = .ok (.bipush 12, 2) := by decide +kernel
theorem dY_firstDayOf_8 : decode cY_firstDayOf 8 = .ok (.idiv, 1) := by decide +kernel
theorem dY_firstDayOf_9 : decode cY_firstDayOf 9 = .ok (.istore_n 2, 1) := by decide +kernel
theorem dY_firstDayOf_10 : decode cY_firstDayOf 10 = .ok (.iload_n 1, 1) := by decide +kernel
theorem dY_firstDayOf_11 : decode cY_firstDayOf 11 = .ok (.bipush 12, 2) := by decide +kernel
theorem dY_firstDayOf_13 : decode cY_firstDayOf 13 = .ok (.irem, 1) := by decide +kernel
theorem dY_firstDayOf_14 : decode cY_firstDayOf 14 = .ok (.istore_n 3, 1) := by decide +kernel
theorem dY_firstDayOf_15 : decode cY_firstDayOf 15 = .ok (.sipush 1461, 3) := by decide +kernel
theorem dY_firstDayOf_18 : decode cY_firstDayOf 18 = .ok (.iload_n 2, 1) := by decide +kernel
theorem dY_firstDayOf_19 : decode cY_firstDayOf 19 = .ok (.imul, 1) := by decide +kernel
theorem dY_firstDayOf_20 : decode cY_firstDayOf 20 = .ok (.iconst 3, 1) := by decide +kernel
theorem dY_firstDayOf_21 : decode cY_firstDayOf 21 = .ok (.iadd, 1) := by decide +kernel
theorem dY_firstDayOf_22 : decode cY_firstDayOf 22 = .ok (.iconst 4, 1) := by decide +kernel
theorem dY_firstDayOf_23 : decode cY_firstDayOf 23 = .ok (.idiv, 1) := by decide +kernel
theorem dY_firstDayOf_24 : decode cY_firstDayOf 24 = .ok (.sipush 153, 3) := by decide +kernel
theorem dY_firstDayOf_27 : decode cY_firstDayOf 27 = .ok (.iload_n 3, 1) := by decide +kernel
theorem dY_firstDayOf_28 : decode cY_firstDayOf 28 = .ok (.imul, 1) := by decide +kernel
theorem dY_firstDayOf_29 : decode cY_firstDayOf 29 = .ok (.iconst 2, 1) := by decide +kernel
theorem dY_firstDayOf_30 : decode cY_firstDayOf 30 = .ok (.iadd, 1) := by decide +kernel
theorem dY_firstDayOf_31 : decode cY_firstDayOf 31 = .ok (.iconst 5, 1) := by decide +kernel
theorem dY_firstDayOf_32 : decode cY_firstDayOf 32 = .ok (.idiv, 1) := by decide +kernel
theorem dY_firstDayOf_33 : decode cY_firstDayOf 33 = .ok (.iadd, 1) := by decide +kernel
theorem dY_firstDayOf_34 : decode cY_firstDayOf 34 = .ok (.sipush 306, 3) := by decide +kernel
theorem dY_firstDayOf_37 : decode cY_firstDayOf 37 = .ok (.isub, 1) := by decide +kernel
theorem dY_firstDayOf_38 : decode cY_firstDayOf 38 = .ok (.ireturn, 1) := by decide +kernel
theorem dD_open_0 : decode cD_open 0 = .ok (.iload_n 1, 1) := by decide +kernel
theorem dD_open_1 : decode cD_open 1 = .ok (.iconst 1, 1) := by decide +kernel
theorem dD_open_2 : decode cD_open 2 = .ok (.ldc 22, 2) := by decide +kernel
theorem dD_open_4 : decode cD_open 4 = .ok (.invokestatic 23, 3) := by decide +kernel
theorem dD_open_7 : decode cD_open 7 = .ok (.ifCond .eq 44, 3) := by decide +kernel
theorem dD_open_10 : decode cD_open 10 = .ok (.iload_n 2, 1) := by decide +kernel
theorem dD_open_11 : decode cD_open 11 = .ok (.iconst 0, 1) := by decide +kernel
theorem dD_open_12 : decode cD_open 12 = .ok (.sipush 30000, 3) := by decide +kernel
theorem dD_open_15 : decode cD_open 15 = .ok (.invokestatic 23, 3) := by decide +kernel
theorem dD_open_18 : decode cD_open 18 = .ok (.ifCond .eq 33, 3) := by decide +kernel
theorem dD_open_21 : decode cD_open 21 = .ok (.iload_n 3, 1) := by decide +kernel
theorem dD_open_22 : decode cD_open 22 = .ok (.iconst 1, 1) := by decide +kernel
theorem dD_open_23 : decode cD_open 23 = .ok (.bipush 36, 2) := by decide +kernel
theorem dD_open_25 : decode cD_open 25 = .ok (.invokestatic 23, 3) := by decide +kernel
theorem dD_open_28 : decode cD_open 28 = .ok (.ifCond .eq 23, 3) := by decide +kernel
theorem dD_open_31 : decode cD_open 31 = .ok (.iload 4, 2) := by decide +kernel
theorem dD_open_33 : decode cD_open 33 = .ok (.iconst 0, 1) := by decide +kernel
theorem dD_open_34 : decode cD_open 34 = .ok (.iconst 3, 1) := by decide +kernel
theorem dD_open_35 : decode cD_open 35 = .ok (.invokestatic 23, 3) := by decide +kernel
theorem dD_open_38 : decode cD_open 38 = .ok (.ifCond .eq 13, 3) := by decide +kernel
theorem dD_open_41 : decode cD_open 41 = .ok (.iload 5, 2) := by decide +kernel
theorem dD_open_43 : decode cD_open 43 = .ok (.iconst 0, 1) := by decide +kernel
theorem dD_open_44 : decode cD_open 44 = .ok (.iconst 3, 1) := by decide +kernel
theorem dD_open_45 : decode cD_open 45 = .ok (.invokestatic 23, 3) := by decide +kernel
theorem dD_open_48 : decode cD_open 48 = .ok (.ifCond .ne 11, 3) := by decide +kernel
theorem dD_open_51 : decode cD_open 51 = .ok (.new 27, 3) := by decide +kernel
theorem dD_open_54 : decode cD_open 54 = .ok (.dup, 1) := by decide +kernel
theorem dD_open_55 : decode cD_open 55 = .ok (.invokespecial 29, 3) := by decide +kernel
theorem dD_open_58 : decode cD_open 58 = .ok (.athrow, 1) := by decide +kernel
theorem dD_open_59 : decode cD_open 59 = .ok (.aload_n 0, 1) := by decide +kernel
theorem dD_open_60 : decode cD_open 60 = .ok (.getfield 15, 3) := by decide +kernel
theorem dD_open_63 : decode cD_open 63 = .ok (.iconst 3, 1) := by decide +kernel
theorem dD_open_64 : decode cD_open 64 = .ok (.if_icmp .lt 11, 3) := by decide +kernel
theorem dD_open_67 : decode cD_open 67 = .ok (.new 30, 3) := by decide +kernel
theorem dD_open_70 : decode cD_open 70 = .ok (.dup, 1) := by decide +kernel
theorem dD_open_71 : decode cD_open 71 = .ok (.invokespecial 32, 3) := by decide +kernel
theorem dD_open_74 : decode cD_open 74 = .ok (.athrow, 1) := by decide +kernel
theorem dD_open_75 : decode cD_open 75 = .ok (.new 33, 3) := by decide +kernel
theorem dD_open_78 : decode cD_open 78 = .ok (.dup, 1) := by decide +kernel
theorem dD_open_79 : decode cD_open 79 = .ok (.iload_n 2, 1) := by decide +kernel
theorem dD_open_80 : decode cD_open 80 = .ok (.iload_n 3, 1) := by decide +kernel
theorem dD_open_81 : decode cD_open 81 = .ok (.iload 4, 2) := by decide +kernel
theorem dD_open_83 : decode cD_open 83 = .ok (.iload 5, 2) := by decide +kernel
theorem dD_open_85 : decode cD_open 85 = .ok (.iload 6, 2) := by decide +kernel
theorem dD_open_87 : decode cD_open 87 = .ok (.aload_n 0, 1) := by decide +kernel
theorem dD_open_88 : decode cD_open 88 = .ok (.getfield 19, 3) := by decide +kernel
theorem dD_open_91 : decode cD_open 91 = .ok (.invokespecial 35, 3) := by decide +kernel
theorem dD_open_94 : decode cD_open 94 = .ok (.astore 7, 2) := by decide +kernel
theorem dD_open_96 : decode cD_open 96 = .ok (.new 9, 3) := by decide +kernel
theorem dD_open_99 : decode cD_open 99 = .ok (.dup, 1) := by decide +kernel
theorem dD_open_100 : decode cD_open 100 = .ok (.aload 7, 2) := by decide +kernel
theorem dD_open_102 : decode cD_open 102 = .ok (.iload_n 1, 1) := by decide +kernel
theorem dD_open_103 : decode cD_open 103 = .ok (.aload_n 0, 1) := by decide +kernel
theorem dD_open_104 : decode cD_open 104 = .ok (.getfield 19, 3) := by decide +kernel
theorem dD_open_107 : decode cD_open 107 = .ok (.invokespecial 38, 3) := by decide +kernel
theorem dD_open_110 : decode cD_open 110 = .ok (.astore 8, 2) := by decide +kernel
theorem dD_open_112 : decode cD_open 112 = .ok (.aload 8, 2) := by decide +kernel
theorem dD_open_114 : decode cD_open 114 = .ok (.aload_n 0, 1) := by decide +kernel
theorem dD_open_115 : decode cD_open 115 = .ok (.getfield 19, 3) := by decide +kernel
theorem dD_open_118 : decode cD_open 118 = .ok (.invokevirtual 41, 3) := by decide +kernel
theorem dD_open_121 : decode cD_open 121 = .ok (.aload_n 0, 1) := by decide +kernel
theorem dD_open_122 : decode cD_open 122 = .ok (.getfield 11, 3) := by decide +kernel
theorem dD_open_125 : decode cD_open 125 = .ok (.aload_n 0, 1) := by decide +kernel
theorem dD_open_126 : decode cD_open 126 = .ok (.getfield 15, 3) := by decide +kernel
theorem dD_open_129 : decode cD_open 129 = .ok (.aload 8, 2) := by decide +kernel
theorem dD_open_131 : decode cD_open 131 = .ok (.aastore, 1) := by decide +kernel
theorem dD_open_132 : decode cD_open 132 = .ok (.aload_n 0, 1) := by decide +kernel
theorem dD_open_133 : decode cD_open 133 = .ok (.dup, 1) := by decide +kernel
theorem dD_open_134 : decode cD_open 134 = .ok (.getfield 15, 3) := by decide +kernel
theorem dD_open_137 : decode cD_open 137 = .ok (.iconst 1, 1) := by decide +kernel
theorem dD_open_138 : decode cD_open 138 = .ok (.iadd, 1) := by decide +kernel
theorem dD_open_139 : decode cD_open 139 = .ok (.putfield 15, 3) := by decide +kernel
theorem dD_open_142 : decode cD_open 142 = .ok (.aload_n 0, 1) := by decide +kernel
theorem dD_open_143 : decode cD_open 143 = .ok (.getfield 15, 3) := by decide +kernel
theorem dD_open_146 : decode cD_open 146 = .ok (.iconst 1, 1) := by decide +kernel
theorem dD_open_147 : decode cD_open 147 = .ok (.isub, 1) := by decide +kernel
theorem dD_open_148 : decode cD_open 148 = .ok (.ireturn, 1) := by decide +kernel
theorem dD_within_0 : decode cD_within 0 = .ok (.iload_n 0, 1) := by decide +kernel
theorem dD_within_1 : decode cD_within 1 = .ok (.iload_n 1, 1) := by decide +kernel
theorem dD_within_2 : decode cD_within 2 = .ok (.if_icmp .lt 12, 3) := by decide +kernel
theorem dD_within_5 : decode cD_within 5 = .ok (.iload_n 0, 1) := by decide +kernel
theorem dD_within_6 : decode cD_within 6 = .ok (.iload_n 2, 1) := by decide +kernel
theorem dD_within_7 : decode cD_within 7 = .ok (.if_icmp .gt 7, 3) := by decide +kernel
theorem dD_within_10 : decode cD_within 10 = .ok (.iconst 1, 1) := by decide +kernel
theorem dD_within_11 : decode cD_within 11 = .ok (.goto 4, 3) := by decide +kernel
theorem dD_within_14 : decode cD_within 14 = .ok (.iconst 0, 1) := by decide +kernel
theorem dD_within_15 : decode cD_within 15 = .ok (.ireturn, 1) := by decide +kernel
theorem dT_init_0 : decode cT_init 0 = .ok (.aload_n 0, 1) := by decide +kernel
theorem dT_init_1 : decode cT_init 1 = .ok (.invokespecial 1, 3) := by decide +kernel
theorem dT_init_4 : decode cT_init 4 = .ok (.aload_n 0, 1) := by decide +kernel
theorem dT_init_5 : decode cT_init 5 = .ok (.iload_n 1, 1) := by decide +kernel
theorem dT_init_6 : decode cT_init 6 = .ok (.putfield 7, 3) := by decide +kernel
theorem dT_init_9 : decode cT_init 9 = .ok (.aload_n 0, 1) := by decide +kernel
theorem dT_init_10 : decode cT_init 10 = .ok (.iload_n 2, 1) := by decide +kernel
theorem dT_init_11 : decode cT_init 11 = .ok (.putfield 13, 3) := by decide +kernel
theorem dT_init_14 : decode cT_init 14 = .ok (.aload_n 0, 1) := by decide +kernel
theorem dT_init_15 : decode cT_init 15 = .ok (.iload_n 3, 1) := by decide +kernel
theorem dT_init_16 : decode cT_init 16 = .ok (.putfield 16, 3) := by decide +kernel
theorem dT_init_19 : decode cT_init 19 = .ok (.aload_n 0, 1) := by decide +kernel
theorem dT_init_20 : decode cT_init 20 = .ok (.iload 4, 2) := by decide +kernel
theorem dT_init_22 : decode cT_init 22 = .ok (.putfield 19, 3) := by decide +kernel
theorem dT_init_25 : decode cT_init 25 = .ok (.aload_n 0, 1) := by decide +kernel
theorem dT_init_26 : decode cT_init 26 = .ok (.iload 5, 2) := by decide +kernel
theorem dT_init_28 : decode cT_init 28 = .ok (.putfield 22, 3) := by decide +kernel
theorem dT_init_31 : decode cT_init 31 = .ok (.aload_n 0, 1) := by decide +kernel
theorem dT_init_32 : decode cT_init 32 = .ok (.iload 6, 2) := by decide +kernel
theorem dT_init_34 : decode cT_init 34 = .ok (.invokestatic 26, 3) := by decide +kernel
theorem dT_init_37 : decode cT_init 37 = .ok (.putfield 32, 3) := by decide +kernel
theorem dT_init_40 : decode cT_init 40 = .ok (.aload_n 0, 1) := by decide +kernel
theorem dT_init_41 : decode cT_init 41 = .ok (.iload 6, 2) := by decide +kernel
theorem dT_init_43 : decode cT_init 43 = .ok (.invokestatic 35, 3) := by decide +kernel
theorem dT_init_46 : decode cT_init 46 = .ok (.putfield 38, 3) := by decide +kernel
theorem dT_init_49 : decode cT_init 49 = .ok (.return_, 1) := by decide +kernel
theorem dN_init_0 : decode cN_init 0 = .ok (.aload_n 0, 1) := by decide +kernel
theorem dN_init_1 : decode cN_init 1 = .ok (.invokespecial 3, 3) := by decide +kernel
theorem dN_init_4 : decode cN_init 4 = .ok (.aload_n 0, 1) := by decide +kernel
theorem dN_init_5 : decode cN_init 5 = .ok (.aload_n 1, 1) := by decide +kernel
theorem dN_init_6 : decode cN_init 6 = .ok (.putfield 9, 3) := by decide +kernel
theorem dN_init_9 : decode cN_init 9 = .ok (.aload_n 0, 1) := by decide +kernel
theorem dN_init_10 : decode cN_init 10 = .ok (.iload_n 2, 1) := by decide +kernel
theorem dN_init_11 : decode cN_init 11 = .ok (.putfield 15, 3) := by decide +kernel
theorem dN_init_14 : decode cN_init 14 = .ok (.aload_n 0, 1) := by decide +kernel
theorem dN_init_15 : decode cN_init 15 = .ok (.new 19, 3) := by decide +kernel
theorem dN_init_18 : decode cN_init 18 = .ok (.dup, 1) := by decide +kernel
theorem dN_init_19 : decode cN_init 19 = .ok (.invokespecial 21, 3) := by decide +kernel
theorem dN_init_22 : decode cN_init 22 = .ok (.putfield 22, 3) := by decide +kernel
theorem dN_init_25 : decode cN_init 25 = .ok (.aload_n 0, 1) := by decide +kernel
theorem dN_init_26 : decode cN_init 26 = .ok (.new 26, 3) := by decide +kernel
theorem dN_init_29 : decode cN_init 29 = .ok (.dup, 1) := by decide +kernel
theorem dN_init_30 : decode cN_init 30 = .ok (.invokespecial 28, 3) := by decide +kernel
theorem dN_init_33 : decode cN_init 33 = .ok (.putfield 29, 3) := by decide +kernel
theorem dN_init_36 : decode cN_init 36 = .ok (.aload_n 0, 1) := by decide +kernel
theorem dN_init_37 : decode cN_init 37 = .ok (.iconst 4, 1) := by decide +kernel
theorem dN_init_38 : decode cN_init 38 = .ok (.newarray .int, 2) := by decide +kernel
theorem dN_init_40 : decode cN_init 40 = .ok (.putfield 33, 3) := by decide +kernel
theorem dN_init_43 : decode cN_init 43 = .ok (.aload_n 0, 1) := by decide +kernel
theorem dN_init_44 : decode cN_init 44 = .ok (.bipush 6, 2) := by decide +kernel
theorem dN_init_46 : decode cN_init 46 = .ok (.newarray .int, 2) := by decide +kernel
theorem dN_init_48 : decode cN_init 48 = .ok (.putfield 37, 3) := by decide +kernel
theorem dN_init_51 : decode cN_init 51 = .ok (.aload_n 0, 1) := by decide +kernel
theorem dN_init_52 : decode cN_init 52 = .ok (.iload_n 3, 1) := by decide +kernel
theorem dN_init_53 : decode cN_init 53 = .ok (.putfield 40, 3) := by decide +kernel
theorem dN_init_56 : decode cN_init 56 = .ok (.aload_n 0, 1) := by decide +kernel
theorem dN_init_57 : decode cN_init 57 = .ok (.aload_n 1, 1) := by decide +kernel
theorem dN_init_58 : decode cN_init 58 = .ok (.iconst 1, 1) := by decide +kernel
theorem dN_init_59 : decode cN_init 59 = .ok (.invokevirtual 43, 3) := by decide +kernel
theorem dN_init_62 : decode cN_init 62 = .ok (.putfield 49, 3) := by decide +kernel
theorem dN_init_65 : decode cN_init 65 = .ok (.aload_n 0, 1) := by decide +kernel
theorem dN_init_66 : decode cN_init 66 = .ok (.bipush 36, 2) := by decide +kernel
theorem dN_init_68 : decode cN_init 68 = .ok (.newarray .int, 2) := by decide +kernel
theorem dN_init_70 : decode cN_init 70 = .ok (.putfield 52, 3) := by decide +kernel
theorem dN_init_73 : decode cN_init 73 = .ok (.return_, 1) := by decide +kernel
theorem dA_init_0 : decode cA_init 0 = .ok (.aload_n 0, 1) := by decide +kernel
theorem dA_init_1 : decode cA_init 1 = .ok (.invokespecial 1, 3) := by decide +kernel
theorem dA_init_4 : decode cA_init 4 = .ok (.return_, 1) := by decide +kernel
theorem dB_init_0 : decode cB_init 0 = .ok (.aload_n 0, 1) := by decide +kernel
theorem dB_init_1 : decode cB_init 1 = .ok (.invokespecial 1, 3) := by decide +kernel
theorem dB_init_4 : decode cB_init 4 = .ok (.aload_n 0, 1) := by decide +kernel
theorem dB_init_5 : decode cB_init 5 = .ok (.sipush 250, 3) := by decide +kernel
theorem dB_init_8 : decode cB_init 8 = .ok (.newarray .int, 2) := by decide +kernel
theorem dB_init_10 : decode cB_init 10 = .ok (.putfield 9, 3) := by decide +kernel
theorem dB_init_13 : decode cB_init 13 = .ok (.return_, 1) := by decide +kernel
theorem dT_dueDay_0 : decode cT_dueDay 0 = .ok (.aload_n 0, 1) := by decide +kernel
theorem dT_dueDay_1 : decode cT_dueDay 1 = .ok (.getfield 32, 3) := by decide +kernel
theorem dT_dueDay_4 : decode cT_dueDay 4 = .ok (.iload_n 1, 1) := by decide +kernel
theorem dT_dueDay_5 : decode cT_dueDay 5 = .ok (.iadd, 1) := by decide +kernel
theorem dT_dueDay_6 : decode cT_dueDay 6 = .ok (.invokestatic 40, 3) := by decide +kernel
theorem dT_dueDay_9 : decode cT_dueDay 9 = .ok (.istore_n 2, 1) := by decide +kernel
theorem dT_dueDay_10 : decode cT_dueDay 10 = .ok (.aload_n 0, 1) := by decide +kernel
theorem dT_dueDay_11 : decode cT_dueDay 11 = .ok (.getfield 32, 3) := by decide +kernel
theorem dT_dueDay_14 : decode cT_dueDay 14 = .ok (.iload_n 1, 1) := by decide +kernel
theorem dT_dueDay_15 : decode cT_dueDay 15 = .ok (.iadd, 1) := by decide +kernel
theorem dT_dueDay_16 : decode cT_dueDay 16 = .ok (.iconst 1, 1) := by decide +kernel
theorem dT_dueDay_17 : decode cT_dueDay 17 = .ok (.iadd, 1) := by decide +kernel
theorem dT_dueDay_18 : decode cT_dueDay 18 = .ok (.invokestatic 40, 3) := by decide +kernel
theorem dT_dueDay_21 : decode cT_dueDay 21 = .ok (.iconst 1, 1) := by decide +kernel
theorem dT_dueDay_22 : decode cT_dueDay 22 = .ok (.isub, 1) := by decide +kernel
theorem dT_dueDay_23 : decode cT_dueDay 23 = .ok (.istore_n 3, 1) := by decide +kernel
theorem dT_dueDay_24 : decode cT_dueDay 24 = .ok (.iload_n 2, 1) := by decide +kernel
theorem dT_dueDay_25 : decode cT_dueDay 25 = .ok (.aload_n 0, 1) := by decide +kernel
theorem dT_dueDay_26 : decode cT_dueDay 26 = .ok (.getfield 38, 3) := by decide +kernel
theorem dT_dueDay_29 : decode cT_dueDay 29 = .ok (.iadd, 1) := by decide +kernel
theorem dT_dueDay_30 : decode cT_dueDay 30 = .ok (.iconst 1, 1) := by decide +kernel
theorem dT_dueDay_31 : decode cT_dueDay 31 = .ok (.isub, 1) := by decide +kernel
theorem dT_dueDay_32 : decode cT_dueDay 32 = .ok (.iload_n 3, 1) := by decide +kernel
theorem dT_dueDay_33 : decode cT_dueDay 33 = .ok (.invokestatic 43, 3) := by decide +kernel
theorem dT_dueDay_36 : decode cT_dueDay 36 = .ok (.ireturn, 1) := by decide +kernel
theorem dN_reckonLevel_0 : decode cN_reckonLevel 0 = .ok (.aload_n 0, 1) := by decide +kernel
theorem dN_reckonLevel_1 : decode cN_reckonLevel 1 = .ok (.getfield 15, 3) := by decide +kernel
theorem dN_reckonLevel_4 : decode cN_reckonLevel 4 = .ok (.aload_n 0, 1) := by decide +kernel
theorem dN_reckonLevel_5 : decode cN_reckonLevel 5 = .ok (.getfield 33, 3) := by decide +kernel
theorem dN_reckonLevel_8 : decode cN_reckonLevel 8 = .ok (.iconst 2, 1) := by decide +kernel
theorem dN_reckonLevel_9 : decode cN_reckonLevel 9 = .ok (.iaload, 1) := by decide +kernel
theorem dN_reckonLevel_10 : decode cN_reckonLevel 10 = .ok (.isub, 1) := by decide +kernel
theorem dN_reckonLevel_11 : decode cN_reckonLevel 11 = .ok (.istore_n 2, 1) := by decide +kernel
theorem dN_reckonLevel_12 : decode cN_reckonLevel 12 = .ok (.iload_n 2, 1) := by decide +kernel
theorem dN_reckonLevel_13 : decode cN_reckonLevel 13 = .ok (.ifCond .gt 9, 3) := by decide +kernel
theorem dN_reckonLevel_16 : decode cN_reckonLevel 16 = .ok (.aload_n 0, 1) := by decide +kernel
theorem dN_reckonLevel_17 : decode cN_reckonLevel 17 = .ok (.iconst 0, 1) := by decide +kernel
theorem dN_reckonLevel_18 : decode cN_reckonLevel 18 = .ok (.putfield 121, 3) := by decide +kernel
theorem dN_reckonLevel_21 : decode cN_reckonLevel 21 = .ok (.return_, 1) := by decide +kernel
theorem dN_reckonLevel_22 : decode cN_reckonLevel 22 = .ok (.aload_n 0, 1) := by decide +kernel
theorem dN_reckonLevel_23 : decode cN_reckonLevel 23 = .ok (.iload_n 1, 1) := by decide +kernel
theorem dN_reckonLevel_24 : decode cN_reckonLevel 24 = .ok (.invokevirtual 149, 3) := by decide +kernel
theorem dN_reckonLevel_27 : decode cN_reckonLevel 27 = .ok (.istore_n 3, 1) := by decide +kernel
theorem dN_reckonLevel_28 : decode cN_reckonLevel 28 = .ok (.iload_n 3, 1) := by decide +kernel
theorem dN_reckonLevel_29 : decode cN_reckonLevel 29 = .ok (.ifCond .le 13, 3) := by decide +kernel
theorem dN_reckonLevel_32 : decode cN_reckonLevel 32 = .ok (.aload_n 0, 1) := by decide +kernel
theorem dN_reckonLevel_33 : decode cN_reckonLevel 33 = .ok (.aload_n 0, 1) := by decide +kernel
theorem dN_reckonLevel_34 : decode cN_reckonLevel 34 = .ok (.iload_n 2, 1) := by decide +kernel
theorem dN_reckonLevel_35 : decode cN_reckonLevel 35 = .ok (.iload_n 3, 1) := by decide +kernel
theorem dN_reckonLevel_36 : decode cN_reckonLevel 36 = .ok (.invokevirtual 152, 3) := by decide +kernel
theorem dN_reckonLevel_39 : decode cN_reckonLevel 39 = .ok (.putfield 121, 3) := by decide +kernel
theorem dN_reckonLevel_42 : decode cN_reckonLevel 42 = .ok (.return_, 1) := by decide +kernel
theorem dN_layOutSpans_0 : decode cN_layOutSpans 0 = .ok (.iconst 0, 1) := by decide +kernel
theorem dN_layOutSpans_1 : decode cN_layOutSpans 1 = .ok (.istore_n 2, 1) := by decide +kernel
theorem dN_layOutSpans_2 : decode cN_layOutSpans 2 = .ok (.iload_n 1, 1) := by decide +kernel
theorem dN_layOutSpans_3 : decode cN_layOutSpans 3 = .ok (.istore_n 3, 1) := by decide +kernel
theorem dN_layOutSpans_4 : decode cN_layOutSpans 4 = .ok (.aload_n 0, 1) := by decide +kernel
theorem dN_layOutSpans_5 : decode cN_layOutSpans 5 = .ok (.getfield 89, 3) := by decide +kernel
theorem dN_layOutSpans_8 : decode cN_layOutSpans 8 = .ok (.iconst 1, 1) := by decide +kernel
theorem dN_layOutSpans_9 : decode cN_layOutSpans 9 = .ok (.iadd, 1) := by decide +kernel
theorem dN_layOutSpans_10 : decode cN_layOutSpans 10 = .ok (.istore 4, 2) := by decide +kernel
theorem dN_layOutSpans_12 : decode cN_layOutSpans 12 = .ok (.iload 4, 2) := by decide +kernel
theorem dN_layOutSpans_14 : decode cN_layOutSpans 14 = .ok (.aload_n 0, 1) := by decide +kernel
theorem dN_layOutSpans_15 : decode cN_layOutSpans 15 = .ok (.getfield 9, 3) := by decide +kernel
theorem dN_layOutSpans_18 : decode cN_layOutSpans 18 = .ok (.getfield 118, 3) := by decide +kernel
theorem dN_layOutSpans_21 : decode cN_layOutSpans 21 = .ok (.if_icmp .gt 54, 3) := by decide +kernel
theorem dN_layOutSpans_24 : decode cN_layOutSpans 24 = .ok (.iload_n 2, 1) := by decide +kernel
theorem dN_layOutSpans_25 : decode cN_layOutSpans 25 = .ok (.aload_n 0, 1) := by decide +kernel
theorem dN_layOutSpans_26 : decode cN_layOutSpans 26 = .ok (.getfield 52, 3) := by decide +kernel
theorem dN_layOutSpans_29 : decode cN_layOutSpans 29 = .ok (.arraylength, 1) := by decide +kernel
theorem dN_layOutSpans_30 : decode cN_layOutSpans 30 = .ok (.if_icmp .ge 45, 3) := by decide +kernel
theorem dN_layOutSpans_33 : decode cN_layOutSpans 33 = .ok (.aload_n 0, 1) := by decide +kernel
theorem dN_layOutSpans_34 : decode cN_layOutSpans 34 = .ok (.getfield 9, 3) := by decide +kernel
theorem dN_layOutSpans_37 : decode cN_layOutSpans 37 = .ok (.iload 4, 2) := by decide +kernel
theorem dN_layOutSpans_39 : decode cN_layOutSpans 39 = .ok (.invokevirtual 43, 3) := by decide +kernel
theorem dN_layOutSpans_42 : decode cN_layOutSpans 42 = .ok (.istore 5, 2) := by decide +kernel
theorem dN_layOutSpans_44 : decode cN_layOutSpans 44 = .ok (.aload_n 0, 1) := by decide +kernel
theorem dN_layOutSpans_45 : decode cN_layOutSpans 45 = .ok (.getfield 52, 3) := by decide +kernel
theorem dN_layOutSpans_48 : decode cN_layOutSpans 48 = .ok (.iload_n 2, 1) := by decide +kernel
theorem dN_layOutSpans_49 : decode cN_layOutSpans 49 = .ok (.aload_n 0, 1) := by decide +kernel
theorem dN_layOutSpans_50 : decode cN_layOutSpans 50 = .ok (.getfield 9, 3) := by decide +kernel
theorem dN_layOutSpans_53 : decode cN_layOutSpans 53 = .ok (.getfield 55, 3) := by decide +kernel
theorem dN_layOutSpans_56 : decode cN_layOutSpans 56 = .ok (.iload_n 3, 1) := by decide +kernel
theorem dN_layOutSpans_57 : decode cN_layOutSpans 57 = .ok (.iload 5, 2) := by decide +kernel
theorem dN_layOutSpans_59 : decode cN_layOutSpans 59 = .ok (.invokestatic 58, 3) := by decide +kernel
theorem dN_layOutSpans_62 : decode cN_layOutSpans 62 = .ok (.iastore, 1) := by decide +kernel
theorem dN_layOutSpans_63 : decode cN_layOutSpans 63 = .ok (.iinc 2 1, 3) := by decide +kernel
theorem dN_layOutSpans_66 : decode cN_layOutSpans 66 = .ok (.iload 5, 2) := by decide +kernel
theorem dN_layOutSpans_68 : decode cN_layOutSpans 68 = .ok (.istore_n 3, 1) := by decide +kernel
theorem dN_layOutSpans_69 : decode cN_layOutSpans 69 = .ok (.iinc 4 1, 3) := by decide +kernel
theorem dN_layOutSpans_72 : decode cN_layOutSpans 72 = .ok (.goto (-60), 3) := by decide +kernel
theorem dN_layOutSpans_75 : decode cN_layOutSpans 75 = .ok (.iload_n 2, 1) := by decide +kernel
theorem dN_layOutSpans_76 : decode cN_layOutSpans 76 = .ok (.ireturn, 1) := by decide +kernel
theorem dS_top_0 : decode cS_top 0 = .ok (.iload_n 0, 1) := by decide +kernel
theorem dS_top_1 : decode cS_top 1 = .ok (.lookupswitch 63 #[(2, 27), (3, 37)], 27) := by decide +kernel
theorem dS_top_28 : decode cS_top 28 = .ok (.iload_n 2, 1) := by decide +kernel
theorem dS_top_29 : decode cS_top 29 = .ok (.invokestatic 7, 3) := by decide +kernel
theorem dS_top_32 : decode cS_top 32 = .ok (.iload_n 1, 1) := by decide +kernel
theorem dS_top_33 : decode cS_top 33 = .ok (.invokestatic 7, 3) := by decide +kernel
theorem dS_top_36 : decode cS_top 36 = .ok (.isub, 1) := by decide +kernel
theorem dS_top_37 : decode cS_top 37 = .ok (.ireturn, 1) := by decide +kernel
theorem dS_top_38 : decode cS_top 38 = .ok (.iload_n 2, 1) := by decide +kernel
theorem dS_top_39 : decode cS_top 39 = .ok (.invokestatic 13, 3) := by decide +kernel
theorem dS_top_42 : decode cS_top 42 = .ok (.iload_n 1, 1) := by decide +kernel
theorem dS_top_43 : decode cS_top 43 = .ok (.invokestatic 13, 3) := by decide +kernel
theorem dS_top_46 : decode cS_top 46 = .ok (.isub, 1) := by decide +kernel
theorem dS_top_47 : decode cS_top 47 = .ok (.istore_n 3, 1) := by decide +kernel
theorem dS_top_48 : decode cS_top 48 = .ok (.iload_n 3, 1) := by decide +kernel
theorem dS_top_49 : decode cS_top 49 = .ok (.sipush 365, 3) := by decide +kernel
theorem dS_top_52 : decode cS_top 52 = .ok (.imul, 1) := by decide +kernel
theorem dS_top_53 : decode cS_top 53 = .ok (.iload_n 2, 1) := by decide +kernel
theorem dS_top_54 : decode cS_top 54 = .ok (.iload_n 1, 1) := by decide +kernel
theorem dS_top_55 : decode cS_top 55 = .ok (.isub, 1) := by decide +kernel
theorem dS_top_56 : decode cS_top 56 = .ok (.iload_n 3, 1) := by decide +kernel
theorem dS_top_57 : decode cS_top 57 = .ok (.isub, 1) := by decide +kernel
theorem dS_top_58 : decode cS_top 58 = .ok (.sipush 366, 3) := by decide +kernel
theorem dS_top_61 : decode cS_top 61 = .ok (.imul, 1) := by decide +kernel
theorem dS_top_62 : decode cS_top 62 = .ok (.iadd, 1) := by decide +kernel
theorem dS_top_63 : decode cS_top 63 = .ok (.ireturn, 1) := by decide +kernel
theorem dS_top_64 : decode cS_top 64 = .ok (.iload_n 2, 1) := by decide +kernel
theorem dS_top_65 : decode cS_top 65 = .ok (.iload_n 1, 1) := by decide +kernel
theorem dS_top_66 : decode cS_top 66 = .ok (.isub, 1) := by decide +kernel
theorem dS_top_67 : decode cS_top 67 = .ok (.ireturn, 1) := by decide +kernel
theorem dY_thirties_0 : decode cY_thirties 0 = .ok (.iload_n 0, 1) := by decide +kernel
theorem dY_thirties_1 : decode cY_thirties 1 = .ok (.invokestatic 9, 3) := by decide +kernel
theorem dY_thirties_4 : decode cY_thirties 4 = .ok (.istore_n 1, 1) := by decide +kernel
theorem dY_thirties_5 : decode cY_thirties 5 = .ok (.iload_n 0, 1) := by decide +kernel
theorem dY_thirties_6 : decode cY_thirties 6 = .ok (.iload_n 1, 1) := by decide +kernel
theorem dY_thirties_7 : decode cY_thirties 7 = .ok (.invokestatic 13, 3) := by decide +kernel
theorem dY_thirties_10 : decode cY_thirties 10 = .ok (.isub, 1) := by decide +kernel
theorem dY_thirties_11 : decode cY_thirties 11 = .ok (.iconst 1, 1) := by decide +kernel
theorem dY_thirties_12 : decode cY_thirties 12 = .ok (.iadd, 1) := by decide +kernel
theorem dY_thirties_13 : decode cY_thirties 13 = .ok (.istore_n 2, 1) := by decide +kernel
theorem dY_thirties_14 : decode cY_thirties 14 = .ok (.bipush 30, 2) := by decide +kernel
theorem dY_thirties_16 : decode cY_thirties 16 = .ok (.iload_n 1, 1) := by decide +kernel
theorem dY_thirties_17 : decode cY_thirties 17 = .ok (.imul, 1) := by decide +kernel
theorem dY_thirties_18 : decode cY_thirties 18 = .ok (.iload_n 2, 1) := by decide +kernel
theorem dY_thirties_19 : decode cY_thirties 19 = .ok (.bipush 30, 2) := by decide +kernel
theorem dY_thirties_21 : decode cY_thirties 21 = .ok (.invokestatic 16, 3) := by decide +kernel
theorem dY_thirties_24 : decode cY_thirties 24 = .ok (.iadd, 1) := by decide +kernel
theorem dY_thirties_25 : decode cY_thirties 25 = .ok (.ireturn, 1) := by decide +kernel
theorem dY_inLongYears_0 : decode cY_inLongYears 0 = .ok (.iload_n 0, 1) := by decide +kernel
theorem dY_inLongYears_1 : decode cY_inLongYears 1 = .ok (.sipush 1461, 3) := by decide +kernel
theorem dY_inLongYears_4 : decode cY_inLongYears 4 = .ok (.idiv, 1) := by decide +kernel
theorem dY_inLongYears_5 : decode cY_inLongYears 5 = .ok (.sipush 366, 3) := by decide +kernel
theorem dY_inLongYears_8 : decode cY_inLongYears 8 = .ok (.imul, 1) := by decide +kernel
theorem dY_inLongYears_9 : decode cY_inLongYears 9 = .ok (.iload_n 0, 1) := by decide +kernel
theorem dY_inLongYears_10 : decode cY_inLongYears 10 = .ok (.sipush 1461, 3) := by decide +kernel
theorem dY_inLongYears_13 : decode cY_inLongYears 13 = .ok (.irem, 1) := by decide +kernel
theorem dY_inLongYears_14 : decode cY_inLongYears 14 = .ok (.sipush 366, 3) := by decide +kernel
theorem dY_inLongYears_17 : decode cY_inLongYears 17 = .ok (.invokestatic 16, 3) := by decide +kernel
theorem dY_inLongYears_20 : decode cY_inLongYears 20 = .ok (.iadd, 1) := by decide +kernel
theorem dY_inLongYears_21 : decode cY_inLongYears 21 = .ok (.ireturn, 1) := by decide +kernel
theorem dN_leastLevel_0 : decode cN_leastLevel 0 = .ok (.iconst 0, 1) := by decide +kernel
theorem dN_leastLevel_1 : decode cN_leastLevel 1 = .ok (.istore_n 3, 1) := by decide +kernel
theorem dN_leastLevel_2 : decode cN_leastLevel 2 = .ok (.iload_n 1, 1) := by decide +kernel
theorem dN_leastLevel_3 : decode cN_leastLevel 3 = .ok (.iload_n 1, 1) := by decide +kernel
theorem dN_leastLevel_4 : decode cN_leastLevel 4 = .ok (.aload_n 0, 1) := by decide +kernel
theorem dN_leastLevel_5 : decode cN_leastLevel 5 = .ok (.getfield 9, 3) := by decide +kernel
theorem dN_leastLevel_8 : decode cN_leastLevel 8 = .ok (.getfield 67, 3) := by decide +kernel
theorem dN_leastLevel_11 : decode cN_leastLevel 11 = .ok (.aload_n 0, 1) := by decide +kernel
theorem dN_leastLevel_12 : decode cN_leastLevel 12 = .ok (.getfield 52, 3) := by decide +kernel
theorem dN_leastLevel_15 : decode cN_leastLevel 15 = .ok (.iconst 0, 1) := by decide +kernel
theorem dN_leastLevel_16 : decode cN_leastLevel 16 = .ok (.iaload, 1) := by decide +kernel
theorem dN_leastLevel_17 : decode cN_leastLevel 17 = .ok (.aload_n 0, 1) := by decide +kernel
theorem dN_leastLevel_18 : decode cN_leastLevel 18 = .ok (.getfield 9, 3) := by decide +kernel
theorem dN_leastLevel_21 : decode cN_leastLevel 21 = .ok (.getfield 55, 3) := by decide +kernel
theorem dN_leastLevel_24 : decode cN_leastLevel 24 = .ok (.aload_n 0, 1) := by decide +kernel
theorem dN_leastLevel_25 : decode cN_leastLevel 25 = .ok (.getfield 9, 3) := by decide +kernel
theorem dN_leastLevel_28 : decode cN_leastLevel 28 = .ok (.getfield 70, 3) := by decide +kernel
theorem dN_leastLevel_31 : decode cN_leastLevel 31 = .ok (.invokestatic 73, 3) := by decide +kernel
theorem dN_leastLevel_34 : decode cN_leastLevel 34 = .ok (.iadd, 1) := by decide +kernel
theorem dN_leastLevel_35 : decode cN_leastLevel 35 = .ok (.istore 4, 2) := by decide +kernel
theorem dN_leastLevel_37 : decode cN_leastLevel 37 = .ok (.iconst 0, 1) := by decide +kernel
theorem dN_leastLevel_38 : decode cN_leastLevel 38 = .ok (.istore 5, 2) := by decide +kernel
theorem dN_leastLevel_40 : decode cN_leastLevel 40 = .ok (.iload 5, 2) := by decide +kernel
theorem dN_leastLevel_42 : decode cN_leastLevel 42 = .ok (.bipush 32, 2) := by decide +kernel
theorem dN_leastLevel_44 : decode cN_leastLevel 44 = .ok (.if_icmp .ge 48, 3) := by decide +kernel
theorem dN_leastLevel_47 : decode cN_leastLevel 47 = .ok (.iload 4, 2) := by decide +kernel
theorem dN_leastLevel_49 : decode cN_leastLevel 49 = .ok (.iload_n 3, 1) := by decide +kernel
theorem dN_leastLevel_50 : decode cN_leastLevel 50 = .ok (.isub, 1) := by decide +kernel
theorem dN_leastLevel_51 : decode cN_leastLevel 51 = .ok (.iconst 1, 1) := by decide +kernel
theorem dN_leastLevel_52 : decode cN_leastLevel 52 = .ok (.if_icmp .le 40, 3) := by decide +kernel
theorem dN_leastLevel_55 : decode cN_leastLevel 55 = .ok (.iload_n 3, 1) := by decide +kernel
theorem dN_leastLevel_56 : decode cN_leastLevel 56 = .ok (.iload 4, 2) := by decide +kernel
theorem dN_leastLevel_58 : decode cN_leastLevel 58 = .ok (.iload_n 3, 1) := by decide +kernel
theorem dN_leastLevel_59 : decode cN_leastLevel 59 = .ok (.isub, 1) := by decide +kernel
theorem dN_leastLevel_60 : decode cN_leastLevel 60 = .ok (.iconst 2, 1) := by decide +kernel
theorem dN_leastLevel_61 : decode cN_leastLevel 61 = .ok (.idiv, 1) := by decide +kernel
theorem dN_leastLevel_62 : decode cN_leastLevel 62 = .ok (.iadd, 1) := by decide +kernel
theorem dN_leastLevel_63 : decode cN_leastLevel 63 = .ok (.istore 6, 2) := by decide +kernel
theorem dN_leastLevel_65 : decode cN_leastLevel 65 = .ok (.aload_n 0, 1) := by decide +kernel
theorem dN_leastLevel_66 : decode cN_leastLevel 66 = .ok (.iload_n 1, 1) := by decide +kernel
theorem dN_leastLevel_67 : decode cN_leastLevel 67 = .ok (.iload 6, 2) := by decide +kernel
theorem dN_leastLevel_69 : decode cN_leastLevel 69 = .ok (.iload_n 2, 1) := by decide +kernel
theorem dN_leastLevel_70 : decode cN_leastLevel 70 = .ok (.invokevirtual 155, 3) := by decide +kernel
theorem dN_leastLevel_73 : decode cN_leastLevel 73 = .ok (.ifCond .le 9, 3) := by decide +kernel
theorem dN_leastLevel_76 : decode cN_leastLevel 76 = .ok (.iload 6, 2) := by decide +kernel
theorem dN_leastLevel_78 : decode cN_leastLevel 78 = .ok (.istore_n 3, 1) := by decide +kernel
theorem dN_leastLevel_79 : decode cN_leastLevel 79 = .ok (.goto 7, 3) := by decide +kernel
theorem dN_leastLevel_82 : decode cN_leastLevel 82 = .ok (.iload 6, 2) := by decide +kernel
theorem dN_leastLevel_84 : decode cN_leastLevel 84 = .ok (.istore 4, 2) := by decide +kernel
theorem dN_leastLevel_86 : decode cN_leastLevel 86 = .ok (.iinc 5 1, 3) := by decide +kernel
theorem dN_leastLevel_89 : decode cN_leastLevel 89 = .ok (.goto (-49), 3) := by decide +kernel
theorem dN_leastLevel_92 : decode cN_leastLevel 92 = .ok (.iload 4, 2) := by decide +kernel
theorem dN_leastLevel_94 : decode cN_leastLevel 94 = .ok (.ireturn, 1) := by decide +kernel
theorem dC_interestOn_0 : decode cC_interestOn 0 = .ok (.iload_n 0, 1) := by decide +kernel
theorem dC_interestOn_1 : decode cC_interestOn 1 = .ok (.i2l, 1) := by decide +kernel
theorem dC_interestOn_2 : decode cC_interestOn 2 = .ok (.iload_n 1, 1) := by decide +kernel
theorem dC_interestOn_3 : decode cC_interestOn 3 = .ok (.i2l, 1) := by decide +kernel
theorem dC_interestOn_4 : decode cC_interestOn 4 = .ok (.lmul, 1) := by decide +kernel
theorem dC_interestOn_5 : decode cC_interestOn 5 = .ok (.iload_n 2, 1) := by decide +kernel
theorem dC_interestOn_6 : decode cC_interestOn 6 = .ok (.i2l, 1) := by decide +kernel
theorem dC_interestOn_7 : decode cC_interestOn 7 = .ok (.lmul, 1) := by decide +kernel
theorem dC_interestOn_8 : decode cC_interestOn 8 = .ok (.ldc2_w 9, 3) := by decide +kernel
theorem dC_interestOn_11 : decode cC_interestOn 11 = .ok (.iload_n 3, 1) := by decide +kernel
theorem dC_interestOn_12 : decode cC_interestOn 12 = .ok (.invokestatic 11, 3) := by decide +kernel
theorem dC_interestOn_15 : decode cC_interestOn 15 = .ok (.i2l, 1) := by decide +kernel
theorem dC_interestOn_16 : decode cC_interestOn 16 = .ok (.lmul, 1) := by decide +kernel
theorem dC_interestOn_17 : decode cC_interestOn 17 = .ok (.iload 4, 2) := by decide +kernel
theorem dC_interestOn_19 : decode cC_interestOn 19 = .ok (.invokestatic 17, 3) := by decide +kernel
theorem dC_interestOn_22 : decode cC_interestOn 22 = .ok (.ireturn, 1) := by decide +kernel
theorem dS_bottom_0 : decode cS_bottom 0 = .ok (.iload_n 0, 1) := by decide +kernel
theorem dS_bottom_1 : decode cS_bottom 1 = .ok (.lookupswitch 34 #[(0, 27), (3, 31)], 27) := by decide +kernel
theorem dS_bottom_28 : decode cS_bottom 28 = .ok (.sipush 365, 3) := by decide +kernel
theorem dS_bottom_31 : decode cS_bottom 31 = .ok (.ireturn, 1) := by decide +kernel
theorem dS_bottom_32 : decode cS_bottom 32 = .ok (.ldc 16, 2) := by decide +kernel
theorem dS_bottom_34 : decode cS_bottom 34 = .ok (.ireturn, 1) := by decide +kernel
theorem dS_bottom_35 : decode cS_bottom 35 = .ok (.sipush 360, 3) := by decide +kernel
theorem dS_bottom_38 : decode cS_bottom 38 = .ok (.ireturn, 1) := by decide +kernel
theorem dC_rounded_0 : decode cC_rounded 0 = .ok (.lload_n 2, 1) := by decide +kernel
theorem dC_rounded_1 : decode cC_rounded 1 = .ok (.lconst 0, 1) := by decide +kernel
theorem dC_rounded_2 : decode cC_rounded 2 = .ok (.lcmp, 1) := by decide +kernel
theorem dC_rounded_3 : decode cC_rounded 3 = .ok (.ifCond .gt 5, 3) := by decide +kernel
theorem dC_rounded_6 : decode cC_rounded 6 = .ok (.iconst 0, 1) := by decide +kernel
theorem dC_rounded_7 : decode cC_rounded 7 = .ok (.ireturn, 1) := by decide +kernel
theorem dC_rounded_8 : decode cC_rounded 8 = .ok (.lload_n 0, 1) := by decide +kernel
theorem dC_rounded_9 : decode cC_rounded 9 = .ok (.lload_n 2, 1) := by decide +kernel
theorem dC_rounded_10 : decode cC_rounded 10 = .ok (.ldiv, 1) := by decide +kernel
theorem dC_rounded_11 : decode cC_rounded 11 = .ok (.lstore 5, 2) := by decide +kernel
theorem dC_rounded_13 : decode cC_rounded 13 = .ok (.lload_n 0, 1) := by decide +kernel
theorem dC_rounded_14 : decode cC_rounded 14 = .ok (.lload_n 2, 1) := by decide +kernel
theorem dC_rounded_15 : decode cC_rounded 15 = .ok (.lrem, 1) := by decide +kernel
theorem dC_rounded_16 : decode cC_rounded 16 = .ok (.lstore 7, 2) := by decide +kernel
theorem dC_rounded_18 : decode cC_rounded 18 = .ok (.iload 4, 2) := by decide +kernel
theorem dC_rounded_20 : decode cC_rounded 20 = .ok (.tableswitch 72 0 2 #[28, 34, 51], 28) := by decide +kernel
theorem dC_rounded_48 : decode cC_rounded 48 = .ok (.iconst 0, 1) := by decide +kernel
theorem dC_rounded_49 : decode cC_rounded 49 = .ok (.istore 9, 2) := by decide +kernel
theorem dC_rounded_51 : decode cC_rounded 51 = .ok (.goto 81, 3) := by decide +kernel
theorem dC_rounded_54 : decode cC_rounded 54 = .ok (.lload 7, 2) := by decide +kernel
theorem dC_rounded_56 : decode cC_rounded 56 = .ok (.lconst 0, 1) := by decide +kernel
theorem dC_rounded_57 : decode cC_rounded 57 = .ok (.lcmp, 1) := by decide +kernel
theorem dC_rounded_58 : decode cC_rounded 58 = .ok (.ifCond .le 7, 3) := by decide +kernel
theorem dC_rounded_61 : decode cC_rounded 61 = .ok (.iconst 1, 1) := by decide +kernel
theorem dC_rounded_62 : decode cC_rounded 62 = .ok (.goto 4, 3) := by decide +kernel
theorem dC_rounded_65 : decode cC_rounded 65 = .ok (.iconst 0, 1) := by decide +kernel
theorem dC_rounded_66 : decode cC_rounded 66 = .ok (.istore 9, 2) := by decide +kernel
theorem dC_rounded_68 : decode cC_rounded 68 = .ok (.goto 64, 3) := by decide +kernel
theorem dC_rounded_71 : decode cC_rounded 71 = .ok (.ldc2_w 21, 3) := by decide +kernel
theorem dC_rounded_74 : decode cC_rounded 74 = .ok (.lload 7, 2) := by decide +kernel
theorem dC_rounded_76 : decode cC_rounded 76 = .ok (.lmul, 1) := by decide +kernel
theorem dC_rounded_77 : decode cC_rounded 77 = .ok (.lload_n 2, 1) := by decide +kernel
theorem dC_rounded_78 : decode cC_rounded 78 = .ok (.lcmp, 1) := by decide +kernel
theorem dC_rounded_79 : decode cC_rounded 79 = .ok (.ifCond .lt 7, 3) := by decide +kernel
theorem dC_rounded_82 : decode cC_rounded 82 = .ok (.iconst 1, 1) := by decide +kernel
theorem dC_rounded_83 : decode cC_rounded 83 = .ok (.goto 4, 3) := by decide +kernel
theorem dC_rounded_86 : decode cC_rounded 86 = .ok (.iconst 0, 1) := by decide +kernel
theorem dC_rounded_87 : decode cC_rounded 87 = .ok (.istore 9, 2) := by decide +kernel
theorem dC_rounded_89 : decode cC_rounded 89 = .ok (.goto 43, 3) := by decide +kernel
theorem dC_rounded_92 : decode cC_rounded 92 = .ok (.ldc2_w 21, 3) := by decide +kernel
theorem dC_rounded_95 : decode cC_rounded 95 = .ok (.lload 7, 2) := by decide +kernel
theorem dC_rounded_97 : decode cC_rounded 97 = .ok (.lmul, 1) := by decide +kernel
theorem dC_rounded_98 : decode cC_rounded 98 = .ok (.lload_n 2, 1) := by decide +kernel
theorem dC_rounded_99 : decode cC_rounded 99 = .ok (.lcmp, 1) := by decide +kernel
theorem dC_rounded_100 : decode cC_rounded 100 = .ok (.ifCond .gt 25, 3) := by decide +kernel
theorem dC_rounded_103 : decode cC_rounded 103 = .ok (.ldc2_w 21, 3) := by decide +kernel
theorem dC_rounded_106 : decode cC_rounded 106 = .ok (.lload 7, 2) := by decide +kernel
theorem dC_rounded_108 : decode cC_rounded 108 = .ok (.lmul, 1) := by decide +kernel
theorem dC_rounded_109 : decode cC_rounded 109 = .ok (.lload_n 2, 1) := by decide +kernel
theorem dC_rounded_110 : decode cC_rounded 110 = .ok (.lcmp, 1) := by decide +kernel
theorem dC_rounded_111 : decode cC_rounded 111 = .ok (.ifCond .ne 18, 3) := by decide +kernel
theorem dC_rounded_114 : decode cC_rounded 114 = .ok (.lload 5, 2) := by decide +kernel
theorem dC_rounded_116 : decode cC_rounded 116 = .ok (.ldc2_w 21, 3) := by decide +kernel
theorem dC_rounded_119 : decode cC_rounded 119 = .ok (.lrem, 1) := by decide +kernel
theorem dC_rounded_120 : decode cC_rounded 120 = .ok (.lconst 1, 1) := by decide +kernel
theorem dC_rounded_121 : decode cC_rounded 121 = .ok (.lcmp, 1) := by decide +kernel
theorem dC_rounded_122 : decode cC_rounded 122 = .ok (.ifCond .ne 7, 3) := by decide +kernel
theorem dC_rounded_125 : decode cC_rounded 125 = .ok (.iconst 1, 1) := by decide +kernel
theorem dC_rounded_126 : decode cC_rounded 126 = .ok (.goto 4, 3) := by decide +kernel
theorem dC_rounded_129 : decode cC_rounded 129 = .ok (.iconst 0, 1) := by decide +kernel
theorem dC_rounded_130 : decode cC_rounded 130 = .ok (.istore 9, 2) := by decide +kernel
theorem dC_rounded_132 : decode cC_rounded 132 = .ok (.iload 9, 2) := by decide +kernel
theorem dC_rounded_134 : decode cC_rounded 134 = .ok (.ifCond .eq 10, 3) := by decide +kernel
theorem dC_rounded_137 : decode cC_rounded 137 = .ok (.lload 5, 2) := by decide +kernel
theorem dC_rounded_139 : decode cC_rounded 139 = .ok (.lconst 1, 1) := by decide +kernel
theorem dC_rounded_140 : decode cC_rounded 140 = .ok (.ladd, 1) := by decide +kernel
theorem dC_rounded_141 : decode cC_rounded 141 = .ok (.goto 5, 3) := by decide +kernel
theorem dC_rounded_144 : decode cC_rounded 144 = .ok (.lload 5, 2) := by decide +kernel
theorem dC_rounded_146 : decode cC_rounded 146 = .ok (.l2i, 1) := by decide +kernel
theorem dC_rounded_147 : decode cC_rounded 147 = .ok (.ireturn, 1) := by decide +kernel
theorem dN_leftInTheEnd_0 : decode cN_leftInTheEnd 0 = .ok (.iload_n 1, 1) := by decide +kernel
theorem dN_leftInTheEnd_1 : decode cN_leftInTheEnd 1 = .ok (.istore 4, 2) := by decide +kernel
theorem dN_leftInTheEnd_3 : decode cN_leftInTheEnd 3 = .ok (.iconst 0, 1) := by decide +kernel
theorem dN_leftInTheEnd_4 : decode cN_leftInTheEnd 4 = .ok (.istore 5, 2) := by decide +kernel
theorem dN_leftInTheEnd_6 : decode cN_leftInTheEnd 6 = .ok (.iload 5, 2) := by decide +kernel
theorem dN_leftInTheEnd_8 : decode cN_leftInTheEnd 8 = .ok (.iload_n 3, 1) := by decide +kernel
theorem dN_leftInTheEnd_9 : decode cN_leftInTheEnd 9 = .ok (.if_icmp .ge 73, 3) := by decide +kernel
theorem dN_leftInTheEnd_12 : decode cN_leftInTheEnd 12 = .ok (.iload 5, 2) := by decide +kernel
theorem dN_leftInTheEnd_14 : decode cN_leftInTheEnd 14 = .ok (.aload_n 0, 1) := by decide +kernel
theorem dN_leftInTheEnd_15 : decode cN_leftInTheEnd 15 = .ok (.getfield 52, 3) := by decide +kernel
theorem dN_leftInTheEnd_18 : decode cN_leftInTheEnd 18 = .ok (.arraylength, 1) := by decide +kernel
theorem dN_leftInTheEnd_19 : decode cN_leftInTheEnd 19 = .ok (.if_icmp .ge 63, 3) := by decide +kernel
theorem dN_leftInTheEnd_22 : decode cN_leftInTheEnd 22 = .ok (.iload_n 2, 1) := by decide +kernel
theorem dN_leftInTheEnd_23 : decode cN_leftInTheEnd 23 = .ok (.iload 4, 2) := by decide +kernel
theorem dN_leftInTheEnd_25 : decode cN_leftInTheEnd 25 = .ok (.aload_n 0, 1) := by decide +kernel
theorem dN_leftInTheEnd_26 : decode cN_leftInTheEnd 26 = .ok (.getfield 9, 3) := by decide +kernel
theorem dN_leftInTheEnd_29 : decode cN_leftInTheEnd 29 = .ok (.getfield 67, 3) := by decide +kernel
theorem dN_leftInTheEnd_32 : decode cN_leftInTheEnd 32 = .ok (.aload_n 0, 1) := by decide +kernel
theorem dN_leftInTheEnd_33 : decode cN_leftInTheEnd 33 = .ok (.getfield 52, 3) := by decide +kernel
theorem dN_leftInTheEnd_36 : decode cN_leftInTheEnd 36 = .ok (.iload 5, 2) := by decide +kernel
theorem dN_leftInTheEnd_38 : decode cN_leftInTheEnd 38 = .ok (.iaload, 1) := by decide +kernel
theorem dN_leftInTheEnd_39 : decode cN_leftInTheEnd 39 = .ok (.aload_n 0, 1) := by decide +kernel
theorem dN_leftInTheEnd_40 : decode cN_leftInTheEnd 40 = .ok (.getfield 9, 3) := by decide +kernel
theorem dN_leftInTheEnd_43 : decode cN_leftInTheEnd 43 = .ok (.getfield 55, 3) := by decide +kernel
theorem dN_leftInTheEnd_46 : decode cN_leftInTheEnd 46 = .ok (.aload_n 0, 1) := by decide +kernel
theorem dN_leftInTheEnd_47 : decode cN_leftInTheEnd 47 = .ok (.getfield 9, 3) := by decide +kernel
theorem dN_leftInTheEnd_50 : decode cN_leftInTheEnd 50 = .ok (.getfield 70, 3) := by decide +kernel
theorem dN_leftInTheEnd_53 : decode cN_leftInTheEnd 53 = .ok (.invokestatic 73, 3) := by decide +kernel
theorem dN_leftInTheEnd_56 : decode cN_leftInTheEnd 56 = .ok (.isub, 1) := by decide +kernel
theorem dN_leftInTheEnd_57 : decode cN_leftInTheEnd 57 = .ok (.istore 6, 2) := by decide +kernel
theorem dN_leftInTheEnd_59 : decode cN_leftInTheEnd 59 = .ok (.iload 6, 2) := by decide +kernel
theorem dN_leftInTheEnd_61 : decode cN_leftInTheEnd 61 = .ok (.ifCond .le 15, 3) := by decide +kernel
theorem dN_leftInTheEnd_64 : decode cN_leftInTheEnd 64 = .ok (.iload 4, 2) := by decide +kernel
theorem dN_leftInTheEnd_66 : decode cN_leftInTheEnd 66 = .ok (.iload 6, 2) := by decide +kernel
theorem dN_leftInTheEnd_68 : decode cN_leftInTheEnd 68 = .ok (.iload 4, 2) := by decide +kernel
theorem dN_leftInTheEnd_70 : decode cN_leftInTheEnd 70 = .ok (.invokestatic 130, 3) := by decide +kernel
theorem dN_leftInTheEnd_73 : decode cN_leftInTheEnd 73 = .ok (.isub, 1) := by decide +kernel
theorem dN_leftInTheEnd_74 : decode cN_leftInTheEnd 74 = .ok (.istore 4, 2) := by decide +kernel
theorem dN_leftInTheEnd_76 : decode cN_leftInTheEnd 76 = .ok (.iinc 5 1, 3) := by decide +kernel
theorem dN_leftInTheEnd_79 : decode cN_leftInTheEnd 79 = .ok (.goto (-73), 3) := by decide +kernel
theorem dN_leftInTheEnd_82 : decode cN_leftInTheEnd 82 = .ok (.iload 4, 2) := by decide +kernel
theorem dN_leftInTheEnd_84 : decode cN_leftInTheEnd 84 = .ok (.ireturn, 1) := by decide +kernel
theorem dD_charge_0 : decode cD_charge 0 = .ok (.aload_n 0, 1) := by decide +kernel
theorem dD_charge_1 : decode cD_charge 1 = .ok (.iload_n 1, 1) := by decide +kernel
theorem dD_charge_2 : decode cD_charge 2 = .ok (.invokevirtual 45, 3) := by decide +kernel
theorem dD_charge_5 : decode cD_charge 5 = .ok (.astore_n 3, 1) := by decide +kernel
theorem dD_charge_6 : decode cD_charge 6 = .ok (.iload_n 2, 1) := by decide +kernel
theorem dD_charge_7 : decode cD_charge 7 = .ok (.iconst 0, 1) := by decide +kernel
theorem dD_charge_8 : decode cD_charge 8 = .ok (.ldc 49, 2) := by decide +kernel
theorem dD_charge_10 : decode cD_charge 10 = .ok (.invokestatic 23, 3) := by decide +kernel
theorem dD_charge_13 : decode cD_charge 13 = .ok (.ifCond .ne 11, 3) := by decide +kernel
theorem dD_charge_16 : decode cD_charge 16 = .ok (.new 27, 3) := by decide +kernel
theorem dD_charge_19 : decode cD_charge 19 = .ok (.dup, 1) := by decide +kernel
theorem dD_charge_20 : decode cD_charge 20 = .ok (.invokespecial 29, 3) := by decide +kernel
theorem dD_charge_23 : decode cD_charge 23 = .ok (.athrow, 1) := by decide +kernel
theorem dD_charge_24 : decode cD_charge 24 = .ok (.aload_n 3, 1) := by decide +kernel
theorem dD_charge_25 : decode cD_charge 25 = .ok (.getfield 50, 3) := by decide +kernel
theorem dD_charge_28 : decode cD_charge 28 = .ok (.iload_n 2, 1) := by decide +kernel
theorem dD_charge_29 : decode cD_charge 29 = .ok (.invokevirtual 54, 3) := by decide +kernel
theorem dD_charge_32 : decode cD_charge 32 = .ok (.return_, 1) := by decide +kernel
theorem dD_find_0 : decode cD_find 0 = .ok (.iload_n 1, 1) := by decide +kernel
theorem dD_find_1 : decode cD_find 1 = .ok (.ifCond .lt 11, 3) := by decide +kernel
theorem dD_find_4 : decode cD_find 4 = .ok (.iload_n 1, 1) := by decide +kernel
theorem dD_find_5 : decode cD_find 5 = .ok (.aload_n 0, 1) := by decide +kernel
theorem dD_find_6 : decode cD_find 6 = .ok (.getfield 15, 3) := by decide +kernel
theorem dD_find_9 : decode cD_find 9 = .ok (.if_icmp .lt 11, 3) := by decide +kernel
theorem dD_find_12 : decode cD_find 12 = .ok (.new 137, 3) := by decide +kernel
theorem dD_find_15 : decode cD_find 15 = .ok (.dup, 1) := by decide +kernel
theorem dD_find_16 : decode cD_find 16 = .ok (.invokespecial 139, 3) := by decide +kernel
theorem dD_find_19 : decode cD_find 19 = .ok (.athrow, 1) := by decide +kernel
theorem dD_find_20 : decode cD_find 20 = .ok (.aload_n 0, 1) := by decide +kernel
theorem dD_find_21 : decode cD_find 21 = .ok (.getfield 11, 3) := by decide +kernel
theorem dD_find_24 : decode cD_find 24 = .ok (.iload_n 1, 1) := by decide +kernel
theorem dD_find_25 : decode cD_find 25 = .ok (.aaload, 1) := by decide +kernel
theorem dD_find_26 : decode cD_find 26 = .ok (.areturn, 1) := by decide +kernel
theorem dA_agreeOn_0 : decode cA_agreeOn 0 = .ok (.aload_n 0, 1) := by decide +kernel
theorem dA_agreeOn_1 : decode cA_agreeOn 1 = .ok (.iload_n 1, 1) := by decide +kernel
theorem dA_agreeOn_2 : decode cA_agreeOn 2 = .ok (.putfield 7, 3) := by decide +kernel
theorem dA_agreeOn_5 : decode cA_agreeOn 5 = .ok (.aload_n 0, 1) := by decide +kernel
theorem dA_agreeOn_6 : decode cA_agreeOn 6 = .ok (.iload_n 1, 1) := by decide +kernel
theorem dA_agreeOn_7 : decode cA_agreeOn 7 = .ok (.invokestatic 13, 3) := by decide +kernel
theorem dA_agreeOn_10 : decode cA_agreeOn 10 = .ok (.putfield 19, 3) := by decide +kernel
theorem dA_agreeOn_13 : decode cA_agreeOn 13 = .ok (.return_, 1) := by decide +kernel
theorem dC_twelfth_0 : decode cC_twelfth 0 = .ok (.iload_n 0, 1) := by decide +kernel
theorem dC_twelfth_1 : decode cC_twelfth 1 = .ok (.bipush 11, 2) := by decide +kernel
theorem dC_twelfth_3 : decode cC_twelfth 3 = .ok (.iadd, 1) := by decide +kernel
theorem dC_twelfth_4 : decode cC_twelfth 4 = .ok (.bipush 12, 2) := by decide +kernel
theorem dC_twelfth_6 : decode cC_twelfth 6 = .ok (.idiv, 1) := by decide +kernel
theorem dC_twelfth_7 : decode cC_twelfth 7 = .ok (.ireturn, 1) := by decide +kernel
theorem dD_advance_0 : decode cD_advance 0 = .ok (.iload_n 1, 1) := by decide +kernel
theorem dD_advance_1 : decode cD_advance 1 = .ok (.ifCond .ge 11, 3) := by decide +kernel
theorem dD_advance_4 : decode cD_advance 4 = .ok (.new 27, 3) := by decide +kernel
theorem dD_advance_7 : decode cD_advance 7 = .ok (.dup, 1) := by decide +kernel
theorem dD_advance_8 : decode cD_advance 8 = .ok (.invokespecial 29, 3) := by decide +kernel
theorem dD_advance_11 : decode cD_advance 11 = .ok (.athrow, 1) := by decide +kernel
theorem dD_advance_12 : decode cD_advance 12 = .ok (.iload_n 1, 1) := by decide +kernel
theorem dD_advance_13 : decode cD_advance 13 = .ok (.sipush 1500, 3) := by decide +kernel
theorem dD_advance_16 : decode cD_advance 16 = .ok (.aload_n 0, 1) := by decide +kernel
theorem dD_advance_17 : decode cD_advance 17 = .ok (.getfield 19, 3) := by decide +kernel
theorem dD_advance_20 : decode cD_advance 20 = .ok (.isub, 1) := by decide +kernel
theorem dD_advance_21 : decode cD_advance 21 = .ok (.if_icmp .le 11, 3) := by decide +kernel
theorem dD_advance_24 : decode cD_advance 24 = .ok (.new 30, 3) := by decide +kernel
theorem dD_advance_27 : decode cD_advance 27 = .ok (.dup, 1) := by decide +kernel
theorem dD_advance_28 : decode cD_advance 28 = .ok (.invokespecial 32, 3) := by decide +kernel
theorem dD_advance_31 : decode cD_advance 31 = .ok (.athrow, 1) := by decide +kernel
theorem dD_advance_32 : decode cD_advance 32 = .ok (.iconst 0, 1) := by decide +kernel
theorem dD_advance_33 : decode cD_advance 33 = .ok (.istore_n 2, 1) := by decide +kernel
theorem dD_advance_34 : decode cD_advance 34 = .ok (.iconst 0, 1) := by decide +kernel
theorem dD_advance_35 : decode cD_advance 35 = .ok (.istore_n 3, 1) := by decide +kernel
theorem dD_advance_36 : decode cD_advance 36 = .ok (.iload_n 3, 1) := by decide +kernel
theorem dD_advance_37 : decode cD_advance 37 = .ok (.iload_n 1, 1) := by decide +kernel
theorem dD_advance_38 : decode cD_advance 38 = .ok (.if_icmp .ge 57, 3) := by decide +kernel
theorem dD_advance_41 : decode cD_advance 41 = .ok (.aload_n 0, 1) := by decide +kernel
theorem dD_advance_42 : decode cD_advance 42 = .ok (.dup, 1) := by decide +kernel
theorem dD_advance_43 : decode cD_advance 43 = .ok (.getfield 19, 3) := by decide +kernel
theorem dD_advance_46 : decode cD_advance 46 = .ok (.iconst 1, 1) := by decide +kernel
theorem dD_advance_47 : decode cD_advance 47 = .ok (.iadd, 1) := by decide +kernel
theorem dD_advance_48 : decode cD_advance 48 = .ok (.putfield 19, 3) := by decide +kernel
theorem dD_advance_51 : decode cD_advance 51 = .ok (.iconst 0, 1) := by decide +kernel
theorem dD_advance_52 : decode cD_advance 52 = .ok (.istore 4, 2) := by decide +kernel
theorem dD_advance_54 : decode cD_advance 54 = .ok (.iload 4, 2) := by decide +kernel
theorem dD_advance_56 : decode cD_advance 56 = .ok (.aload_n 0, 1) := by decide +kernel
theorem dD_advance_57 : decode cD_advance 57 = .ok (.getfield 15, 3) := by decide +kernel
theorem dD_advance_60 : decode cD_advance 60 = .ok (.if_icmp .ge 29, 3) := by decide +kernel
theorem dD_advance_63 : decode cD_advance 63 = .ok (.aload_n 0, 1) := by decide +kernel
theorem dD_advance_64 : decode cD_advance 64 = .ok (.getfield 11, 3) := by decide +kernel
theorem dD_advance_67 : decode cD_advance 67 = .ok (.iload 4, 2) := by decide +kernel
theorem dD_advance_69 : decode cD_advance 69 = .ok (.aaload, 1) := by decide +kernel
theorem dD_advance_70 : decode cD_advance 70 = .ok (.aload_n 0, 1) := by decide +kernel
theorem dD_advance_71 : decode cD_advance 71 = .ok (.getfield 19, 3) := by decide +kernel
theorem dD_advance_74 : decode cD_advance 74 = .ok (.invokevirtual 59, 3) := by decide +kernel
theorem dD_advance_77 : decode cD_advance 77 = .ok (.ifCond .eq 6, 3) := by decide +kernel
theorem dD_advance_80 : decode cD_advance 80 = .ok (.iinc 2 1, 3) := by decide +kernel
theorem dD_advance_83 : decode cD_advance 83 = .ok (.iinc 4 1, 3) := by decide +kernel
theorem dD_advance_86 : decode cD_advance 86 = .ok (.goto (-32), 3) := by decide +kernel
theorem dD_advance_89 : decode cD_advance 89 = .ok (.iinc 3 1, 3) := by decide +kernel
theorem dD_advance_92 : decode cD_advance 92 = .ok (.goto (-56), 3) := by decide +kernel
theorem dD_advance_95 : decode cD_advance 95 = .ok (.iload_n 2, 1) := by decide +kernel
theorem dD_advance_96 : decode cD_advance 96 = .ok (.ireturn, 1) := by decide +kernel
theorem dN_beginDay_0 : decode cN_beginDay 0 = .ok (.aload_n 0, 1) := by decide +kernel
theorem dN_beginDay_1 : decode cN_beginDay 1 = .ok (.getfield 29, 3) := by decide +kernel
theorem dN_beginDay_4 : decode cN_beginDay 4 = .ok (.iload_n 1, 1) := by decide +kernel
theorem dN_beginDay_5 : decode cN_beginDay 5 = .ok (.bipush 10, 2) := by decide +kernel
theorem dN_beginDay_7 : decode cN_beginDay 7 = .ok (.isub, 1) := by decide +kernel
theorem dN_beginDay_8 : decode cN_beginDay 8 = .ok (.invokevirtual 82, 3) := by decide +kernel
theorem dN_beginDay_11 : decode cN_beginDay 11 = .ok (.ifCond .eq 7, 3) := by decide +kernel
theorem dN_beginDay_14 : decode cN_beginDay 14 = .ok (.aload_n 0, 1) := by decide +kernel
theorem dN_beginDay_15 : decode cN_beginDay 15 = .ok (.invokevirtual 86, 3) := by decide +kernel
theorem dN_beginDay_18 : decode cN_beginDay 18 = .ok (.iload_n 1, 1) := by decide +kernel
theorem dN_beginDay_19 : decode cN_beginDay 19 = .ok (.aload_n 0, 1) := by decide +kernel
theorem dN_beginDay_20 : decode cN_beginDay 20 = .ok (.getfield 49, 3) := by decide +kernel
theorem dN_beginDay_23 : decode cN_beginDay 23 = .ok (.if_icmp .eq 5, 3) := by decide +kernel
theorem dN_beginDay_26 : decode cN_beginDay 26 = .ok (.iconst 0, 1) := by decide +kernel
theorem dN_beginDay_27 : decode cN_beginDay 27 = .ok (.ireturn, 1) := by decide +kernel
theorem dN_beginDay_28 : decode cN_beginDay 28 = .ok (.aload_n 0, 1) := by decide +kernel
theorem dN_beginDay_29 : decode cN_beginDay 29 = .ok (.dup, 1) := by decide +kernel
theorem dN_beginDay_30 : decode cN_beginDay 30 = .ok (.getfield 89, 3) := by decide +kernel
theorem dN_beginDay_33 : decode cN_beginDay 33 = .ok (.iconst 1, 1) := by decide +kernel
theorem dN_beginDay_34 : decode cN_beginDay 34 = .ok (.iadd, 1) := by decide +kernel
theorem dN_beginDay_35 : decode cN_beginDay 35 = .ok (.putfield 89, 3) := by decide +kernel
theorem dN_beginDay_38 : decode cN_beginDay 38 = .ok (.aload_n 0, 1) := by decide +kernel
theorem dN_beginDay_39 : decode cN_beginDay 39 = .ok (.aload_n 0, 1) := by decide +kernel
theorem dN_beginDay_40 : decode cN_beginDay 40 = .ok (.getfield 9, 3) := by decide +kernel
theorem dN_beginDay_43 : decode cN_beginDay 43 = .ok (.aload_n 0, 1) := by decide +kernel
theorem dN_beginDay_44 : decode cN_beginDay 44 = .ok (.getfield 89, 3) := by decide +kernel
theorem dN_beginDay_47 : decode cN_beginDay 47 = .ok (.iconst 1, 1) := by decide +kernel
theorem dN_beginDay_48 : decode cN_beginDay 48 = .ok (.iadd, 1) := by decide +kernel
theorem dN_beginDay_49 : decode cN_beginDay 49 = .ok (.invokevirtual 43, 3) := by decide +kernel
theorem dN_beginDay_52 : decode cN_beginDay 52 = .ok (.putfield 49, 3) := by decide +kernel
theorem dN_beginDay_55 : decode cN_beginDay 55 = .ok (.aload_n 0, 1) := by decide +kernel
theorem dN_beginDay_56 : decode cN_beginDay 56 = .ok (.getfield 89, 3) := by decide +kernel
theorem dN_beginDay_59 : decode cN_beginDay 59 = .ok (.bipush 12, 2) := by decide +kernel
theorem dN_beginDay_61 : decode cN_beginDay 61 = .ok (.irem, 1) := by decide +kernel
theorem dN_beginDay_62 : decode cN_beginDay 62 = .ok (.ifCond .ne 10, 3) := by decide +kernel
theorem dN_beginDay_65 : decode cN_beginDay 65 = .ok (.aload_n 0, 1) := by decide +kernel
theorem dN_beginDay_66 : decode cN_beginDay 66 = .ok (.getfield 22, 3) := by decide +kernel
theorem dN_beginDay_69 : decode cN_beginDay 69 = .ok (.invokevirtual 92, 3) := by decide +kernel
theorem dN_beginDay_72 : decode cN_beginDay 72 = .ok (.aload_n 0, 1) := by decide +kernel
theorem dN_beginDay_73 : decode cN_beginDay 73 = .ok (.iload_n 1, 1) := by decide +kernel
theorem dN_beginDay_74 : decode cN_beginDay 74 = .ok (.invokevirtual 95, 3) := by decide +kernel
theorem dN_beginDay_77 : decode cN_beginDay 77 = .ok (.aload_n 0, 1) := by decide +kernel
theorem dN_beginDay_78 : decode cN_beginDay 78 = .ok (.getfield 15, 3) := by decide +kernel
theorem dN_beginDay_81 : decode cN_beginDay 81 = .ok (.ifCond .gt 12, 3) := by decide +kernel
theorem dN_beginDay_84 : decode cN_beginDay 84 = .ok (.aload_n 0, 1) := by decide +kernel
theorem dN_beginDay_85 : decode cN_beginDay 85 = .ok (.getfield 64, 3) := by decide +kernel
theorem dN_beginDay_88 : decode cN_beginDay 88 = .ok (.ifCond .gt 5, 3) := by decide +kernel
theorem dN_beginDay_91 : decode cN_beginDay 91 = .ok (.iconst 0, 1) := by decide +kernel
theorem dN_beginDay_92 : decode cN_beginDay 92 = .ok (.ireturn, 1) := by decide +kernel
theorem dN_beginDay_93 : decode cN_beginDay 93 = .ok (.aload_n 0, 1) := by decide +kernel
theorem dN_beginDay_94 : decode cN_beginDay 94 = .ok (.iload_n 1, 1) := by decide +kernel
theorem dN_beginDay_95 : decode cN_beginDay 95 = .ok (.invokevirtual 99, 3) := by decide +kernel
theorem dN_beginDay_98 : decode cN_beginDay 98 = .ok (.iconst 1, 1) := by decide +kernel
theorem dN_beginDay_99 : decode cN_beginDay 99 = .ok (.ireturn, 1) := by decide +kernel
theorem dB_latestIsOf_0 : decode cB_latestIsOf 0 = .ok (.aload_n 0, 1) := by decide +kernel
theorem dB_latestIsOf_1 : decode cB_latestIsOf 1 = .ok (.getfield 13, 3) := by decide +kernel
theorem dB_latestIsOf_4 : decode cB_latestIsOf 4 = .ok (.ifCond .le 24, 3) := by decide +kernel
theorem dB_latestIsOf_7 : decode cB_latestIsOf 7 = .ok (.aload_n 0, 1) := by decide +kernel
theorem dB_latestIsOf_8 : decode cB_latestIsOf 8 = .ok (.getfield 9, 3) := by decide +kernel
theorem dB_latestIsOf_11 : decode cB_latestIsOf 11 = .ok (.aload_n 0, 1) := by decide +kernel
theorem dB_latestIsOf_12 : decode cB_latestIsOf 12 = .ok (.getfield 13, 3) := by decide +kernel
theorem dB_latestIsOf_15 : decode cB_latestIsOf 15 = .ok (.iconst 1, 1) := by decide +kernel
theorem dB_latestIsOf_16 : decode cB_latestIsOf 16 = .ok (.isub, 1) := by decide +kernel
theorem dB_latestIsOf_17 : decode cB_latestIsOf 17 = .ok (.iconst 5, 1) := by decide +kernel
theorem dB_latestIsOf_18 : decode cB_latestIsOf 18 = .ok (.imul, 1) := by decide +kernel
theorem dB_latestIsOf_19 : decode cB_latestIsOf 19 = .ok (.iaload, 1) := by decide +kernel
theorem dB_latestIsOf_20 : decode cB_latestIsOf 20 = .ok (.iload_n 1, 1) := by decide +kernel
theorem dB_latestIsOf_21 : decode cB_latestIsOf 21 = .ok (.if_icmp .ne 7, 3) := by decide +kernel
theorem dB_latestIsOf_24 : decode cB_latestIsOf 24 = .ok (.iconst 1, 1) := by decide +kernel
theorem dB_latestIsOf_25 : decode cB_latestIsOf 25 = .ok (.goto 4, 3) := by decide +kernel
theorem dB_latestIsOf_28 : decode cB_latestIsOf 28 = .ok (.iconst 0, 1) := by decide +kernel
theorem dB_latestIsOf_29 : decode cB_latestIsOf 29 = .ok (.ireturn, 1) := by decide +kernel
theorem dN_addLateFee_0 : decode cN_addLateFee 0 = .ok (.aload_n 0, 1) := by decide +kernel
theorem dN_addLateFee_1 : decode cN_addLateFee 1 = .ok (.getfield 33, 3) := by decide +kernel
theorem dN_addLateFee_4 : decode cN_addLateFee 4 = .ok (.iconst 1, 1) := by decide +kernel
theorem dN_addLateFee_5 : decode cN_addLateFee 5 = .ok (.iaload, 1) := by decide +kernel
theorem dN_addLateFee_6 : decode cN_addLateFee 6 = .ok (.i2l, 1) := by decide +kernel
theorem dN_addLateFee_7 : decode cN_addLateFee 7 = .ok (.aload_n 0, 1) := by decide +kernel
theorem dN_addLateFee_8 : decode cN_addLateFee 8 = .ok (.getfield 33, 3) := by decide +kernel
theorem dN_addLateFee_11 : decode cN_addLateFee 11 = .ok (.iconst 2, 1) := by decide +kernel
theorem dN_addLateFee_12 : decode cN_addLateFee 12 = .ok (.iaload, 1) := by decide +kernel
theorem dN_addLateFee_13 : decode cN_addLateFee 13 = .ok (.i2l, 1) := by decide +kernel
theorem dN_addLateFee_14 : decode cN_addLateFee 14 = .ok (.ladd, 1) := by decide +kernel
theorem dN_addLateFee_15 : decode cN_addLateFee 15 = .ok (.aload_n 0, 1) := by decide +kernel
theorem dN_addLateFee_16 : decode cN_addLateFee 16 = .ok (.getfield 33, 3) := by decide +kernel
theorem dN_addLateFee_19 : decode cN_addLateFee 19 = .ok (.iconst 3, 1) := by decide +kernel
theorem dN_addLateFee_20 : decode cN_addLateFee 20 = .ok (.iaload, 1) := by decide +kernel
theorem dN_addLateFee_21 : decode cN_addLateFee 21 = .ok (.i2l, 1) := by decide +kernel
theorem dN_addLateFee_22 : decode cN_addLateFee 22 = .ok (.ladd, 1) := by decide +kernel
theorem dN_addLateFee_23 : decode cN_addLateFee 23 = .ok (.lstore_n 1, 1) := by decide +kernel
theorem dN_addLateFee_24 : decode cN_addLateFee 24 = .ok (.aload_n 0, 1) := by decide +kernel
theorem dN_addLateFee_25 : decode cN_addLateFee 25 = .ok (.getfield 33, 3) := by decide +kernel
theorem dN_addLateFee_28 : decode cN_addLateFee 28 = .ok (.iconst 0, 1) := by decide +kernel
theorem dN_addLateFee_29 : decode cN_addLateFee 29 = .ok (.dup2, 1) := by decide +kernel
theorem dN_addLateFee_30 : decode cN_addLateFee 30 = .ok (.iaload, 1) := by decide +kernel
theorem dN_addLateFee_31 : decode cN_addLateFee 31 = .ok (.lload_n 1, 1) := by decide +kernel
theorem dN_addLateFee_32 : decode cN_addLateFee 32 = .ok (.ldc2_w 102, 3) := by decide +kernel
theorem dN_addLateFee_35 : decode cN_addLateFee 35 = .ok (.aload_n 0, 1) := by decide +kernel
theorem dN_addLateFee_36 : decode cN_addLateFee 36 = .ok (.getfield 9, 3) := by decide +kernel
theorem dN_addLateFee_39 : decode cN_addLateFee 39 = .ok (.getfield 70, 3) := by decide +kernel
theorem dN_addLateFee_42 : decode cN_addLateFee 42 = .ok (.invokestatic 104, 3) := by decide +kernel
theorem dN_addLateFee_45 : decode cN_addLateFee 45 = .ok (.iadd, 1) := by decide +kernel
theorem dN_addLateFee_46 : decode cN_addLateFee 46 = .ok (.iastore, 1) := by decide +kernel
theorem dN_addLateFee_47 : decode cN_addLateFee 47 = .ok (.return_, 1) := by decide +kernel
theorem dA_payCharge_0 : decode cA_payCharge 0 = .ok (.aload_n 0, 1) := by decide +kernel
theorem dA_payCharge_1 : decode cA_payCharge 1 = .ok (.dup, 1) := by decide +kernel
theorem dA_payCharge_2 : decode cA_payCharge 2 = .ok (.getfield 22, 3) := by decide +kernel
theorem dA_payCharge_5 : decode cA_payCharge 5 = .ok (.aload_n 0, 1) := by decide +kernel
theorem dA_payCharge_6 : decode cA_payCharge 6 = .ok (.getfield 7, 3) := by decide +kernel
theorem dA_payCharge_9 : decode cA_payCharge 9 = .ok (.isub, 1) := by decide +kernel
theorem dA_payCharge_10 : decode cA_payCharge 10 = .ok (.putfield 22, 3) := by decide +kernel
theorem dA_payCharge_13 : decode cA_payCharge 13 = .ok (.aload_n 0, 1) := by decide +kernel
theorem dA_payCharge_14 : decode cA_payCharge 14 = .ok (.aload_n 0, 1) := by decide +kernel
theorem dA_payCharge_15 : decode cA_payCharge 15 = .ok (.getfield 7, 3) := by decide +kernel
theorem dA_payCharge_18 : decode cA_payCharge 18 = .ok (.iconst 0, 1) := by decide +kernel
theorem dA_payCharge_19 : decode cA_payCharge 19 = .ok (.aload_n 0, 1) := by decide +kernel
theorem dA_payCharge_20 : decode cA_payCharge 20 = .ok (.getfield 22, 3) := by decide +kernel
theorem dA_payCharge_23 : decode cA_payCharge 23 = .ok (.ineg, 1) := by decide +kernel
theorem dA_payCharge_24 : decode cA_payCharge 24 = .ok (.invokestatic 25, 3) := by decide +kernel
theorem dA_payCharge_27 : decode cA_payCharge 27 = .ok (.iadd, 1) := by decide +kernel
theorem dA_payCharge_28 : decode cA_payCharge 28 = .ok (.invokestatic 13, 3) := by decide +kernel
theorem dA_payCharge_31 : decode cA_payCharge 31 = .ok (.putfield 19, 3) := by decide +kernel
theorem dA_payCharge_34 : decode cA_payCharge 34 = .ok (.return_, 1) := by decide +kernel
theorem dN_accrue_0 : decode cN_accrue 0 = .ok (.aload_n 0, 1) := by decide +kernel
theorem dN_accrue_1 : decode cN_accrue 1 = .ok (.aload_n 0, 1) := by decide +kernel
theorem dN_accrue_2 : decode cN_accrue 2 = .ok (.iload_n 1, 1) := by decide +kernel
theorem dN_accrue_3 : decode cN_accrue 3 = .ok (.invokevirtual 79, 3) := by decide +kernel
theorem dN_accrue_6 : decode cN_accrue 6 = .ok (.putfield 64, 3) := by decide +kernel
theorem dN_accrue_9 : decode cN_accrue 9 = .ok (.aload_n 0, 1) := by decide +kernel
theorem dN_accrue_10 : decode cN_accrue 10 = .ok (.iload_n 1, 1) := by decide +kernel
theorem dN_accrue_11 : decode cN_accrue 11 = .ok (.putfield 40, 3) := by decide +kernel
theorem dN_accrue_14 : decode cN_accrue 14 = .ok (.return_, 1) := by decide +kernel
theorem dN_accruedBy_0 : decode cN_accruedBy 0 = .ok (.aload_n 0, 1) := by decide +kernel
theorem dN_accruedBy_1 : decode cN_accruedBy 1 = .ok (.getfield 9, 3) := by decide +kernel
theorem dN_accruedBy_4 : decode cN_accruedBy 4 = .ok (.getfield 55, 3) := by decide +kernel
theorem dN_accruedBy_7 : decode cN_accruedBy 7 = .ok (.aload_n 0, 1) := by decide +kernel
theorem dN_accruedBy_8 : decode cN_accruedBy 8 = .ok (.getfield 40, 3) := by decide +kernel
theorem dN_accruedBy_11 : decode cN_accruedBy 11 = .ok (.iload_n 1, 1) := by decide +kernel
theorem dN_accruedBy_12 : decode cN_accruedBy 12 = .ok (.invokestatic 58, 3) := by decide +kernel
theorem dN_accruedBy_15 : decode cN_accruedBy 15 = .ok (.istore_n 2, 1) := by decide +kernel
theorem dN_accruedBy_16 : decode cN_accruedBy 16 = .ok (.aload_n 0, 1) := by decide +kernel
theorem dN_accruedBy_17 : decode cN_accruedBy 17 = .ok (.getfield 64, 3) := by decide +kernel
theorem dN_accruedBy_20 : decode cN_accruedBy 20 = .ok (.aload_n 0, 1) := by decide +kernel
theorem dN_accruedBy_21 : decode cN_accruedBy 21 = .ok (.getfield 15, 3) := by decide +kernel
theorem dN_accruedBy_24 : decode cN_accruedBy 24 = .ok (.aload_n 0, 1) := by decide +kernel
theorem dN_accruedBy_25 : decode cN_accruedBy 25 = .ok (.getfield 9, 3) := by decide +kernel
theorem dN_accruedBy_28 : decode cN_accruedBy 28 = .ok (.getfield 67, 3) := by decide +kernel
theorem dN_accruedBy_31 : decode cN_accruedBy 31 = .ok (.iload_n 2, 1) := by decide +kernel
theorem dN_accruedBy_32 : decode cN_accruedBy 32 = .ok (.aload_n 0, 1) := by decide +kernel
theorem dN_accruedBy_33 : decode cN_accruedBy 33 = .ok (.getfield 9, 3) := by decide +kernel
theorem dN_accruedBy_36 : decode cN_accruedBy 36 = .ok (.getfield 55, 3) := by decide +kernel
theorem dN_accruedBy_39 : decode cN_accruedBy 39 = .ok (.aload_n 0, 1) := by decide +kernel
theorem dN_accruedBy_40 : decode cN_accruedBy 40 = .ok (.getfield 9, 3) := by decide +kernel
theorem dN_accruedBy_43 : decode cN_accruedBy 43 = .ok (.getfield 70, 3) := by decide +kernel
theorem dN_accruedBy_46 : decode cN_accruedBy 46 = .ok (.invokestatic 73, 3) := by decide +kernel
theorem dN_accruedBy_49 : decode cN_accruedBy 49 = .ok (.iadd, 1) := by decide +kernel
theorem dN_accruedBy_50 : decode cN_accruedBy 50 = .ok (.ireturn, 1) := by decide +kernel
theorem dN_makeBill_0 : decode cN_makeBill 0 = .ok (.aload_n 0, 1) := by decide +kernel
theorem dN_makeBill_1 : decode cN_makeBill 1 = .ok (.getfield 64, 3) := by decide +kernel
theorem dN_makeBill_4 : decode cN_makeBill 4 = .ok (.istore_n 2, 1) := by decide +kernel
theorem dN_makeBill_5 : decode cN_makeBill 5 = .ok (.aload_n 0, 1) := by decide +kernel
theorem dN_makeBill_6 : decode cN_makeBill 6 = .ok (.iload_n 2, 1) := by decide +kernel
theorem dN_makeBill_7 : decode cN_makeBill 7 = .ok (.invokevirtual 108, 3) := by decide +kernel
theorem dN_makeBill_10 : decode cN_makeBill 10 = .ok (.istore_n 3, 1) := by decide +kernel
theorem dN_makeBill_11 : decode cN_makeBill 11 = .ok (.aload_n 0, 1) := by decide +kernel
theorem dN_makeBill_12 : decode cN_makeBill 12 = .ok (.getfield 15, 3) := by decide +kernel
theorem dN_makeBill_15 : decode cN_makeBill 15 = .ok (.ifCond .le 13, 3) := by decide +kernel
theorem dN_makeBill_18 : decode cN_makeBill 18 = .ok (.aload_n 0, 1) := by decide +kernel
theorem dN_makeBill_19 : decode cN_makeBill 19 = .ok (.getfield 22, 3) := by decide +kernel
theorem dN_makeBill_22 : decode cN_makeBill 22 = .ok (.getfield 111, 3) := by decide +kernel
theorem dN_makeBill_25 : decode cN_makeBill 25 = .ok (.goto 4, 3) := by decide +kernel
theorem dN_makeBill_28 : decode cN_makeBill 28 = .ok (.iconst 0, 1) := by decide +kernel
theorem dN_makeBill_29 : decode cN_makeBill 29 = .ok (.istore 4, 2) := by decide +kernel
theorem dN_makeBill_31 : decode cN_makeBill 31 = .ok (.aload_n 0, 1) := by decide +kernel
theorem dN_makeBill_32 : decode cN_makeBill 32 = .ok (.iconst 0, 1) := by decide +kernel
theorem dN_makeBill_33 : decode cN_makeBill 33 = .ok (.putfield 64, 3) := by decide +kernel
theorem dN_makeBill_36 : decode cN_makeBill 36 = .ok (.aload_n 0, 1) := by decide +kernel
theorem dN_makeBill_37 : decode cN_makeBill 37 = .ok (.getfield 33, 3) := by decide +kernel
theorem dN_makeBill_40 : decode cN_makeBill 40 = .ok (.iconst 1, 1) := by decide +kernel
theorem dN_makeBill_41 : decode cN_makeBill 41 = .ok (.dup2, 1) := by decide +kernel
theorem dN_makeBill_42 : decode cN_makeBill 42 = .ok (.iaload, 1) := by decide +kernel
theorem dN_makeBill_43 : decode cN_makeBill 43 = .ok (.iload_n 2, 1) := by decide +kernel
theorem dN_makeBill_44 : decode cN_makeBill 44 = .ok (.iadd, 1) := by decide +kernel
theorem dN_makeBill_45 : decode cN_makeBill 45 = .ok (.iastore, 1) := by decide +kernel
theorem dN_makeBill_46 : decode cN_makeBill 46 = .ok (.aload_n 0, 1) := by decide +kernel
theorem dN_makeBill_47 : decode cN_makeBill 47 = .ok (.getfield 33, 3) := by decide +kernel
theorem dN_makeBill_50 : decode cN_makeBill 50 = .ok (.iconst 2, 1) := by decide +kernel
theorem dN_makeBill_51 : decode cN_makeBill 51 = .ok (.dup2, 1) := by decide +kernel
theorem dN_makeBill_52 : decode cN_makeBill 52 = .ok (.iaload, 1) := by decide +kernel
theorem dN_makeBill_53 : decode cN_makeBill 53 = .ok (.iload_n 3, 1) := by decide +kernel
theorem dN_makeBill_54 : decode cN_makeBill 54 = .ok (.iadd, 1) := by decide +kernel
theorem dN_makeBill_55 : decode cN_makeBill 55 = .ok (.iastore, 1) := by decide +kernel
theorem dN_makeBill_56 : decode cN_makeBill 56 = .ok (.aload_n 0, 1) := by decide +kernel
theorem dN_makeBill_57 : decode cN_makeBill 57 = .ok (.getfield 33, 3) := by decide +kernel
theorem dN_makeBill_60 : decode cN_makeBill 60 = .ok (.iconst 3, 1) := by decide +kernel
theorem dN_makeBill_61 : decode cN_makeBill 61 = .ok (.dup2, 1) := by decide +kernel
theorem dN_makeBill_62 : decode cN_makeBill 62 = .ok (.iaload, 1) := by decide +kernel
theorem dN_makeBill_63 : decode cN_makeBill 63 = .ok (.iload 4, 2) := by decide +kernel
theorem dN_makeBill_65 : decode cN_makeBill 65 = .ok (.iadd, 1) := by decide +kernel
theorem dN_makeBill_66 : decode cN_makeBill 66 = .ok (.iastore, 1) := by decide +kernel
theorem dN_makeBill_67 : decode cN_makeBill 67 = .ok (.aload_n 0, 1) := by decide +kernel
theorem dN_makeBill_68 : decode cN_makeBill 68 = .ok (.getfield 29, 3) := by decide +kernel
theorem dN_makeBill_71 : decode cN_makeBill 71 = .ok (.iload_n 1, 1) := by decide +kernel
theorem dN_makeBill_72 : decode cN_makeBill 72 = .ok (.aload_n 0, 1) := by decide +kernel
theorem dN_makeBill_73 : decode cN_makeBill 73 = .ok (.getfield 15, 3) := by decide +kernel
theorem dN_makeBill_76 : decode cN_makeBill 76 = .ok (.iload_n 2, 1) := by decide +kernel
theorem dN_makeBill_77 : decode cN_makeBill 77 = .ok (.iload_n 3, 1) := by decide +kernel
theorem dN_makeBill_78 : decode cN_makeBill 78 = .ok (.iload 4, 2) := by decide +kernel
theorem dN_makeBill_80 : decode cN_makeBill 80 = .ok (.invokevirtual 114, 3) := by decide +kernel
theorem dN_makeBill_83 : decode cN_makeBill 83 = .ok (.return_, 1) := by decide +kernel
theorem dN_partToBill_0 : decode cN_partToBill 0 = .ok (.aload_n 0, 1) := by decide +kernel
theorem dN_partToBill_1 : decode cN_partToBill 1 = .ok (.getfield 15, 3) := by decide +kernel
theorem dN_partToBill_4 : decode cN_partToBill 4 = .ok (.aload_n 0, 1) := by decide +kernel
theorem dN_partToBill_5 : decode cN_partToBill 5 = .ok (.getfield 33, 3) := by decide +kernel
theorem dN_partToBill_8 : decode cN_partToBill 8 = .ok (.iconst 2, 1) := by decide +kernel
theorem dN_partToBill_9 : decode cN_partToBill 9 = .ok (.iaload, 1) := by decide +kernel
theorem dN_partToBill_10 : decode cN_partToBill 10 = .ok (.isub, 1) := by decide +kernel
theorem dN_partToBill_11 : decode cN_partToBill 11 = .ok (.istore_n 2, 1) := by decide +kernel
theorem dN_partToBill_12 : decode cN_partToBill 12 = .ok (.aload_n 0, 1) := by decide +kernel
theorem dN_partToBill_13 : decode cN_partToBill 13 = .ok (.getfield 89, 3) := by decide +kernel
theorem dN_partToBill_16 : decode cN_partToBill 16 = .ok (.aload_n 0, 1) := by decide +kernel
theorem dN_partToBill_17 : decode cN_partToBill 17 = .ok (.getfield 9, 3) := by decide +kernel
theorem dN_partToBill_20 : decode cN_partToBill 20 = .ok (.getfield 118, 3) := by decide +kernel
theorem dN_partToBill_23 : decode cN_partToBill 23 = .ok (.if_icmp .lt 5, 3) := by decide +kernel
theorem dN_partToBill_26 : decode cN_partToBill 26 = .ok (.iload_n 2, 1) := by decide +kernel
theorem dN_partToBill_27 : decode cN_partToBill 27 = .ok (.ireturn, 1) := by decide +kernel
theorem dN_partToBill_28 : decode cN_partToBill 28 = .ok (.iload_n 2, 1) := by decide +kernel
theorem dN_partToBill_29 : decode cN_partToBill 29 = .ok (.iconst 0, 1) := by decide +kernel
theorem dN_partToBill_30 : decode cN_partToBill 30 = .ok (.aload_n 0, 1) := by decide +kernel
theorem dN_partToBill_31 : decode cN_partToBill 31 = .ok (.getfield 121, 3) := by decide +kernel
theorem dN_partToBill_34 : decode cN_partToBill 34 = .ok (.iload_n 1, 1) := by decide +kernel
theorem dN_partToBill_35 : decode cN_partToBill 35 = .ok (.isub, 1) := by decide +kernel
theorem dN_partToBill_36 : decode cN_partToBill 36 = .ok (.invokestatic 124, 3) := by decide +kernel
theorem dN_partToBill_39 : decode cN_partToBill 39 = .ok (.invokestatic 130, 3) := by decide +kernel
theorem dN_partToBill_42 : decode cN_partToBill 42 = .ok (.ireturn, 1) := by decide +kernel
theorem dB_add_0 : decode cB_add 0 = .ok (.aload_n 0, 1) := by decide +kernel
theorem dB_add_1 : decode cB_add 1 = .ok (.getfield 13, 3) := by decide +kernel
theorem dB_add_4 : decode cB_add 4 = .ok (.bipush 50, 2) := by decide +kernel
theorem dB_add_6 : decode cB_add 6 = .ok (.if_icmp .lt 4, 3) := by decide +kernel
theorem dB_add_9 : decode cB_add 9 = .ok (.return_, 1) := by decide +kernel
theorem dB_add_10 : decode cB_add 10 = .ok (.aload_n 0, 1) := by decide +kernel
theorem dB_add_11 : decode cB_add 11 = .ok (.getfield 13, 3) := by decide +kernel
theorem dB_add_14 : decode cB_add 14 = .ok (.iconst 5, 1) := by decide +kernel
theorem dB_add_15 : decode cB_add 15 = .ok (.imul, 1) := by decide +kernel
theorem dB_add_16 : decode cB_add 16 = .ok (.istore 6, 2) := by decide +kernel
theorem dB_add_18 : decode cB_add 18 = .ok (.aload_n 0, 1) := by decide +kernel
theorem dB_add_19 : decode cB_add 19 = .ok (.getfield 9, 3) := by decide +kernel
theorem dB_add_22 : decode cB_add 22 = .ok (.iload 6, 2) := by decide +kernel
theorem dB_add_24 : decode cB_add 24 = .ok (.iload_n 1, 1) := by decide +kernel
theorem dB_add_25 : decode cB_add 25 = .ok (.iastore, 1) := by decide +kernel
theorem dB_add_26 : decode cB_add 26 = .ok (.aload_n 0, 1) := by decide +kernel
theorem dB_add_27 : decode cB_add 27 = .ok (.getfield 9, 3) := by decide +kernel
theorem dB_add_30 : decode cB_add 30 = .ok (.iload 6, 2) := by decide +kernel
theorem dB_add_32 : decode cB_add 32 = .ok (.iconst 1, 1) := by decide +kernel
theorem dB_add_33 : decode cB_add 33 = .ok (.iadd, 1) := by decide +kernel
theorem dB_add_34 : decode cB_add 34 = .ok (.iload_n 2, 1) := by decide +kernel
theorem dB_add_35 : decode cB_add 35 = .ok (.iastore, 1) := by decide +kernel
theorem dB_add_36 : decode cB_add 36 = .ok (.aload_n 0, 1) := by decide +kernel
theorem dB_add_37 : decode cB_add 37 = .ok (.getfield 9, 3) := by decide +kernel
theorem dB_add_40 : decode cB_add 40 = .ok (.iload 6, 2) := by decide +kernel
theorem dB_add_42 : decode cB_add 42 = .ok (.iconst 2, 1) := by decide +kernel
theorem dB_add_43 : decode cB_add 43 = .ok (.iadd, 1) := by decide +kernel
theorem dB_add_44 : decode cB_add 44 = .ok (.iload_n 3, 1) := by decide +kernel
theorem dB_add_45 : decode cB_add 45 = .ok (.iastore, 1) := by decide +kernel
theorem dB_add_46 : decode cB_add 46 = .ok (.aload_n 0, 1) := by decide +kernel
theorem dB_add_47 : decode cB_add 47 = .ok (.getfield 9, 3) := by decide +kernel
theorem dB_add_50 : decode cB_add 50 = .ok (.iload 6, 2) := by decide +kernel
theorem dB_add_52 : decode cB_add 52 = .ok (.iconst 3, 1) := by decide +kernel
theorem dB_add_53 : decode cB_add 53 = .ok (.iadd, 1) := by decide +kernel
theorem dB_add_54 : decode cB_add 54 = .ok (.iload 4, 2) := by decide +kernel
theorem dB_add_56 : decode cB_add 56 = .ok (.iastore, 1) := by decide +kernel
theorem dB_add_57 : decode cB_add 57 = .ok (.aload_n 0, 1) := by decide +kernel
theorem dB_add_58 : decode cB_add 58 = .ok (.getfield 9, 3) := by decide +kernel
theorem dB_add_61 : decode cB_add 61 = .ok (.iload 6, 2) := by decide +kernel
theorem dB_add_63 : decode cB_add 63 = .ok (.iconst 4, 1) := by decide +kernel
theorem dB_add_64 : decode cB_add 64 = .ok (.iadd, 1) := by decide +kernel
theorem dB_add_65 : decode cB_add 65 = .ok (.iload 5, 2) := by decide +kernel
theorem dB_add_67 : decode cB_add 67 = .ok (.iastore, 1) := by decide +kernel
theorem dB_add_68 : decode cB_add 68 = .ok (.aload_n 0, 1) := by decide +kernel
theorem dB_add_69 : decode cB_add 69 = .ok (.dup, 1) := by decide +kernel
theorem dB_add_70 : decode cB_add 70 = .ok (.getfield 13, 3) := by decide +kernel
theorem dB_add_73 : decode cB_add 73 = .ok (.iconst 1, 1) := by decide +kernel
theorem dB_add_74 : decode cB_add 74 = .ok (.iadd, 1) := by decide +kernel
theorem dB_add_75 : decode cB_add 75 = .ok (.putfield 13, 3) := by decide +kernel
theorem dB_add_78 : decode cB_add 78 = .ok (.return_, 1) := by decide +kernel
theorem dD_pay_0 : decode cD_pay 0 = .ok (.aload_n 0, 1) := by decide +kernel
theorem dD_pay_1 : decode cD_pay 1 = .ok (.iload_n 1, 1) := by decide +kernel
theorem dD_pay_2 : decode cD_pay 2 = .ok (.invokevirtual 45, 3) := by decide +kernel
theorem dD_pay_5 : decode cD_pay 5 = .ok (.astore_n 3, 1) := by decide +kernel
theorem dD_pay_6 : decode cD_pay 6 = .ok (.iload_n 2, 1) := by decide +kernel
theorem dD_pay_7 : decode cD_pay 7 = .ok (.iconst 1, 1) := by decide +kernel
theorem dD_pay_8 : decode cD_pay 8 = .ok (.ldc 63, 2) := by decide +kernel
theorem dD_pay_10 : decode cD_pay 10 = .ok (.invokestatic 23, 3) := by decide +kernel
theorem dD_pay_13 : decode cD_pay 13 = .ok (.ifCond .ne 11, 3) := by decide +kernel
theorem dD_pay_16 : decode cD_pay 16 = .ok (.new 27, 3) := by decide +kernel
theorem dD_pay_19 : decode cD_pay 19 = .ok (.dup, 1) := by decide +kernel
theorem dD_pay_20 : decode cD_pay 20 = .ok (.invokespecial 29, 3) := by decide +kernel
theorem dD_pay_23 : decode cD_pay 23 = .ok (.athrow, 1) := by decide +kernel
theorem dD_pay_24 : decode cD_pay 24 = .ok (.aload_n 3, 1) := by decide +kernel
theorem dD_pay_25 : decode cD_pay 25 = .ok (.iload_n 2, 1) := by decide +kernel
theorem dD_pay_26 : decode cD_pay 26 = .ok (.aload_n 0, 1) := by decide +kernel
theorem dD_pay_27 : decode cD_pay 27 = .ok (.getfield 19, 3) := by decide +kernel
theorem dD_pay_30 : decode cD_pay 30 = .ok (.invokevirtual 64, 3) := by decide +kernel
theorem dD_pay_33 : decode cD_pay 33 = .ok (.ireturn, 1) := by decide +kernel
theorem dN_takePayment_0 : decode cN_takePayment 0 = .ok (.aload_n 0, 1) := by decide +kernel
theorem dN_takePayment_1 : decode cN_takePayment 1 = .ok (.iload_n 1, 1) := by decide +kernel
theorem dN_takePayment_2 : decode cN_takePayment 2 = .ok (.invokevirtual 133, 3) := by decide +kernel
theorem dN_takePayment_5 : decode cN_takePayment 5 = .ok (.aload_n 0, 1) := by decide +kernel
theorem dN_takePayment_6 : decode cN_takePayment 6 = .ok (.getfield 37, 3) := by decide +kernel
theorem dN_takePayment_9 : decode cN_takePayment 9 = .ok (.iconst 2, 1) := by decide +kernel
theorem dN_takePayment_10 : decode cN_takePayment 10 = .ok (.iaload, 1) := by decide +kernel
theorem dN_takePayment_11 : decode cN_takePayment 11 = .ok (.aload_n 0, 1) := by decide +kernel
theorem dN_takePayment_12 : decode cN_takePayment 12 = .ok (.getfield 37, 3) := by decide +kernel
theorem dN_takePayment_15 : decode cN_takePayment 15 = .ok (.iconst 4, 1) := by decide +kernel
theorem dN_takePayment_16 : decode cN_takePayment 16 = .ok (.iaload, 1) := by decide +kernel
theorem dN_takePayment_17 : decode cN_takePayment 17 = .ok (.iadd, 1) := by decide +kernel
theorem dN_takePayment_18 : decode cN_takePayment 18 = .ok (.istore_n 3, 1) := by decide +kernel
theorem dN_takePayment_19 : decode cN_takePayment 19 = .ok (.iload_n 3, 1) := by decide +kernel
theorem dN_takePayment_20 : decode cN_takePayment 20 = .ok (.ifCond .le 8, 3) := by decide +kernel
theorem dN_takePayment_23 : decode cN_takePayment 23 = .ok (.aload_n 0, 1) := by decide +kernel
theorem dN_takePayment_24 : decode cN_takePayment 24 = .ok (.iload_n 2, 1) := by decide +kernel
theorem dN_takePayment_25 : decode cN_takePayment 25 = .ok (.invokevirtual 95, 3) := by decide +kernel
theorem dN_takePayment_28 : decode cN_takePayment 28 = .ok (.iconst 0, 1) := by decide +kernel
theorem dN_takePayment_29 : decode cN_takePayment 29 = .ok (.istore 4, 2) := by decide +kernel
theorem dN_takePayment_31 : decode cN_takePayment 31 = .ok (.iload 4, 2) := by decide +kernel
theorem dN_takePayment_33 : decode cN_takePayment 33 = .ok (.iconst 4, 1) := by decide +kernel
theorem dN_takePayment_34 : decode cN_takePayment 34 = .ok (.if_icmp .ge 26, 3) := by decide +kernel
theorem dN_takePayment_37 : decode cN_takePayment 37 = .ok (.aload_n 0, 1) := by decide +kernel
theorem dN_takePayment_38 : decode cN_takePayment 38 = .ok (.getfield 33, 3) := by decide +kernel
theorem dN_takePayment_41 : decode cN_takePayment 41 = .ok (.iload 4, 2) := by decide +kernel
theorem dN_takePayment_43 : decode cN_takePayment 43 = .ok (.dup2, 1) := by decide +kernel
theorem dN_takePayment_44 : decode cN_takePayment 44 = .ok (.iaload, 1) := by decide +kernel
theorem dN_takePayment_45 : decode cN_takePayment 45 = .ok (.aload_n 0, 1) := by decide +kernel
theorem dN_takePayment_46 : decode cN_takePayment 46 = .ok (.getfield 37, 3) := by decide +kernel
theorem dN_takePayment_49 : decode cN_takePayment 49 = .ok (.iload 4, 2) := by decide +kernel
theorem dN_takePayment_51 : decode cN_takePayment 51 = .ok (.iaload, 1) := by decide +kernel
theorem dN_takePayment_52 : decode cN_takePayment 52 = .ok (.isub, 1) := by decide +kernel
theorem dN_takePayment_53 : decode cN_takePayment 53 = .ok (.iastore, 1) := by decide +kernel
theorem dN_takePayment_54 : decode cN_takePayment 54 = .ok (.iinc 4 1, 3) := by decide +kernel
theorem dN_takePayment_57 : decode cN_takePayment 57 = .ok (.goto (-26), 3) := by decide +kernel
theorem dN_takePayment_60 : decode cN_takePayment 60 = .ok (.aload_n 0, 1) := by decide +kernel
theorem dN_takePayment_61 : decode cN_takePayment 61 = .ok (.dup, 1) := by decide +kernel
theorem dN_takePayment_62 : decode cN_takePayment 62 = .ok (.getfield 15, 3) := by decide +kernel
theorem dN_takePayment_65 : decode cN_takePayment 65 = .ok (.iload_n 3, 1) := by decide +kernel
theorem dN_takePayment_66 : decode cN_takePayment 66 = .ok (.isub, 1) := by decide +kernel
theorem dN_takePayment_67 : decode cN_takePayment 67 = .ok (.putfield 15, 3) := by decide +kernel
theorem dN_takePayment_70 : decode cN_takePayment 70 = .ok (.aload_n 0, 1) := by decide +kernel
theorem dN_takePayment_71 : decode cN_takePayment 71 = .ok (.getfield 22, 3) := by decide +kernel
theorem dN_takePayment_74 : decode cN_takePayment 74 = .ok (.dup, 1) := by decide +kernel
theorem dN_takePayment_75 : decode cN_takePayment 75 = .ok (.getfield 136, 3) := by decide +kernel
theorem dN_takePayment_78 : decode cN_takePayment 78 = .ok (.aload_n 0, 1) := by decide +kernel
theorem dN_takePayment_79 : decode cN_takePayment 79 = .ok (.getfield 37, 3) := by decide +kernel
theorem dN_takePayment_82 : decode cN_takePayment 82 = .ok (.iconst 3, 1) := by decide +kernel
theorem dN_takePayment_83 : decode cN_takePayment 83 = .ok (.iaload, 1) := by decide +kernel
theorem dN_takePayment_84 : decode cN_takePayment 84 = .ok (.iadd, 1) := by decide +kernel
theorem dN_takePayment_85 : decode cN_takePayment 85 = .ok (.putfield 136, 3) := by decide +kernel
theorem dN_takePayment_88 : decode cN_takePayment 88 = .ok (.aload_n 0, 1) := by decide +kernel
theorem dN_takePayment_89 : decode cN_takePayment 89 = .ok (.iconst 1, 1) := by decide +kernel
theorem dN_takePayment_90 : decode cN_takePayment 90 = .ok (.putfield 139, 3) := by decide +kernel
theorem dN_takePayment_93 : decode cN_takePayment 93 = .ok (.aload_n 0, 1) := by decide +kernel
theorem dN_takePayment_94 : decode cN_takePayment 94 = .ok (.getfield 37, 3) := by decide +kernel
theorem dN_takePayment_97 : decode cN_takePayment 97 = .ok (.iconst 4, 1) := by decide +kernel
theorem dN_takePayment_98 : decode cN_takePayment 98 = .ok (.iaload, 1) := by decide +kernel
theorem dN_takePayment_99 : decode cN_takePayment 99 = .ok (.ifCond .le 18, 3) := by decide +kernel
theorem dN_takePayment_102 : decode cN_takePayment 102 = .ok (.aload_n 0, 1) := by decide +kernel
theorem dN_takePayment_103 : decode cN_takePayment 103 = .ok (.getfield 9, 3) := by decide +kernel
theorem dN_takePayment_106 : decode cN_takePayment 106 = .ok (.getfield 143, 3) := by decide +kernel
theorem dN_takePayment_109 : decode cN_takePayment 109 = .ok (.ifCond .ne 8, 3) := by decide +kernel
theorem dN_takePayment_112 : decode cN_takePayment 112 = .ok (.aload_n 0, 1) := by decide +kernel
theorem dN_takePayment_113 : decode cN_takePayment 113 = .ok (.iload_n 2, 1) := by decide +kernel
theorem dN_takePayment_114 : decode cN_takePayment 114 = .ok (.invokevirtual 146, 3) := by decide +kernel
theorem dN_takePayment_117 : decode cN_takePayment 117 = .ok (.aload_n 0, 1) := by decide +kernel
theorem dN_takePayment_118 : decode cN_takePayment 118 = .ok (.getfield 37, 3) := by decide +kernel
theorem dN_takePayment_121 : decode cN_takePayment 121 = .ok (.iconst 5, 1) := by decide +kernel
theorem dN_takePayment_122 : decode cN_takePayment 122 = .ok (.iaload, 1) := by decide +kernel
theorem dN_takePayment_123 : decode cN_takePayment 123 = .ok (.ireturn, 1) := by decide +kernel
theorem dN_splitPayment_0 : decode cN_splitPayment 0 = .ok (.iload_n 1, 1) := by decide +kernel
theorem dN_splitPayment_1 : decode cN_splitPayment 1 = .ok (.istore_n 2, 1) := by decide +kernel
theorem dN_splitPayment_2 : decode cN_splitPayment 2 = .ok (.iconst 0, 1) := by decide +kernel
theorem dN_splitPayment_3 : decode cN_splitPayment 3 = .ok (.istore_n 3, 1) := by decide +kernel
theorem dN_splitPayment_4 : decode cN_splitPayment 4 = .ok (.iload_n 3, 1) := by decide +kernel
theorem dN_splitPayment_5 : decode cN_splitPayment 5 = .ok (.iconst 4, 1) := by decide +kernel
theorem dN_splitPayment_6 : decode cN_splitPayment 6 = .ok (.if_icmp .ge 34, 3) := by decide +kernel
theorem dN_splitPayment_9 : decode cN_splitPayment 9 = .ok (.aload_n 0, 1) := by decide +kernel
theorem dN_splitPayment_10 : decode cN_splitPayment 10 = .ok (.getfield 37, 3) := by decide +kernel
theorem dN_splitPayment_13 : decode cN_splitPayment 13 = .ok (.iload_n 3, 1) := by decide +kernel
theorem dN_splitPayment_14 : decode cN_splitPayment 14 = .ok (.iload_n 2, 1) := by decide +kernel
theorem dN_splitPayment_15 : decode cN_splitPayment 15 = .ok (.aload_n 0, 1) := by decide +kernel
theorem dN_splitPayment_16 : decode cN_splitPayment 16 = .ok (.getfield 33, 3) := by decide +kernel
theorem dN_splitPayment_19 : decode cN_splitPayment 19 = .ok (.iload_n 3, 1) := by decide +kernel
theorem dN_splitPayment_20 : decode cN_splitPayment 20 = .ok (.iaload, 1) := by decide +kernel
theorem dN_splitPayment_21 : decode cN_splitPayment 21 = .ok (.invokestatic 130, 3) := by decide +kernel
theorem dN_splitPayment_24 : decode cN_splitPayment 24 = .ok (.iastore, 1) := by decide +kernel
theorem dN_splitPayment_25 : decode cN_splitPayment 25 = .ok (.iload_n 2, 1) := by decide +kernel
theorem dN_splitPayment_26 : decode cN_splitPayment 26 = .ok (.aload_n 0, 1) := by decide +kernel
theorem dN_splitPayment_27 : decode cN_splitPayment 27 = .ok (.getfield 37, 3) := by decide +kernel
theorem dN_splitPayment_30 : decode cN_splitPayment 30 = .ok (.iload_n 3, 1) := by decide +kernel
theorem dN_splitPayment_31 : decode cN_splitPayment 31 = .ok (.iaload, 1) := by decide +kernel
theorem dN_splitPayment_32 : decode cN_splitPayment 32 = .ok (.isub, 1) := by decide +kernel
theorem dN_splitPayment_33 : decode cN_splitPayment 33 = .ok (.istore_n 2, 1) := by decide +kernel
theorem dN_splitPayment_34 : decode cN_splitPayment 34 = .ok (.iinc 3 1, 3) := by decide +kernel
theorem dN_splitPayment_37 : decode cN_splitPayment 37 = .ok (.goto (-33), 3) := by decide +kernel
theorem dN_splitPayment_40 : decode cN_splitPayment 40 = .ok (.aload_n 0, 1) := by decide +kernel
theorem dN_splitPayment_41 : decode cN_splitPayment 41 = .ok (.getfield 37, 3) := by decide +kernel
theorem dN_splitPayment_44 : decode cN_splitPayment 44 = .ok (.iconst 4, 1) := by decide +kernel
theorem dN_splitPayment_45 : decode cN_splitPayment 45 = .ok (.iload_n 2, 1) := by decide +kernel
theorem dN_splitPayment_46 : decode cN_splitPayment 46 = .ok (.aload_n 0, 1) := by decide +kernel
theorem dN_splitPayment_47 : decode cN_splitPayment 47 = .ok (.getfield 15, 3) := by decide +kernel
theorem dN_splitPayment_50 : decode cN_splitPayment 50 = .ok (.aload_n 0, 1) := by decide +kernel
theorem dN_splitPayment_51 : decode cN_splitPayment 51 = .ok (.getfield 37, 3) := by decide +kernel
theorem dN_splitPayment_54 : decode cN_splitPayment 54 = .ok (.iconst 2, 1) := by decide +kernel
theorem dN_splitPayment_55 : decode cN_splitPayment 55 = .ok (.iaload, 1) := by decide +kernel
theorem dN_splitPayment_56 : decode cN_splitPayment 56 = .ok (.isub, 1) := by decide +kernel
theorem dN_splitPayment_57 : decode cN_splitPayment 57 = .ok (.invokestatic 130, 3) := by decide +kernel
theorem dN_splitPayment_60 : decode cN_splitPayment 60 = .ok (.iastore, 1) := by decide +kernel
theorem dN_splitPayment_61 : decode cN_splitPayment 61 = .ok (.aload_n 0, 1) := by decide +kernel
theorem dN_splitPayment_62 : decode cN_splitPayment 62 = .ok (.getfield 37, 3) := by decide +kernel
theorem dN_splitPayment_65 : decode cN_splitPayment 65 = .ok (.iconst 5, 1) := by decide +kernel
theorem dN_splitPayment_66 : decode cN_splitPayment 66 = .ok (.iload_n 2, 1) := by decide +kernel
theorem dN_splitPayment_67 : decode cN_splitPayment 67 = .ok (.aload_n 0, 1) := by decide +kernel
theorem dN_splitPayment_68 : decode cN_splitPayment 68 = .ok (.getfield 37, 3) := by decide +kernel
theorem dN_splitPayment_71 : decode cN_splitPayment 71 = .ok (.iconst 4, 1) := by decide +kernel
theorem dN_splitPayment_72 : decode cN_splitPayment 72 = .ok (.iaload, 1) := by decide +kernel
theorem dN_splitPayment_73 : decode cN_splitPayment 73 = .ok (.isub, 1) := by decide +kernel
theorem dN_splitPayment_74 : decode cN_splitPayment 74 = .ok (.iastore, 1) := by decide +kernel
theorem dN_splitPayment_75 : decode cN_splitPayment 75 = .ok (.return_, 1) := by decide +kernel
theorem dD_part_0 : decode cD_part 0 = .ok (.aload_n 0, 1) := by decide +kernel
theorem dD_part_1 : decode cD_part 1 = .ok (.iload_n 1, 1) := by decide +kernel
theorem dD_part_2 : decode cD_part 2 = .ok (.invokevirtual 45, 3) := by decide +kernel
theorem dD_part_5 : decode cD_part 5 = .ok (.astore_n 3, 1) := by decide +kernel
theorem dD_part_6 : decode cD_part 6 = .ok (.iload_n 2, 1) := by decide +kernel
theorem dD_part_7 : decode cD_part 7 = .ok (.iconst 0, 1) := by decide +kernel
theorem dD_part_8 : decode cD_part 8 = .ok (.iconst 5, 1) := by decide +kernel
theorem dD_part_9 : decode cD_part 9 = .ok (.invokestatic 23, 3) := by decide +kernel
theorem dD_part_12 : decode cD_part 12 = .ok (.ifCond .ne 11, 3) := by decide +kernel
theorem dD_part_15 : decode cD_part 15 = .ok (.new 27, 3) := by decide +kernel
theorem dD_part_18 : decode cD_part 18 = .ok (.dup, 1) := by decide +kernel
theorem dD_part_19 : decode cD_part 19 = .ok (.invokespecial 29, 3) := by decide +kernel
theorem dD_part_22 : decode cD_part 22 = .ok (.athrow, 1) := by decide +kernel
theorem dD_part_23 : decode cD_part 23 = .ok (.aload_n 3, 1) := by decide +kernel
theorem dD_part_24 : decode cD_part 24 = .ok (.getfield 68, 3) := by decide +kernel
theorem dD_part_27 : decode cD_part 27 = .ok (.ifCond .ne 11, 3) := by decide +kernel
theorem dD_part_30 : decode cD_part 30 = .ok (.new 30, 3) := by decide +kernel
theorem dD_part_33 : decode cD_part 33 = .ok (.dup, 1) := by decide +kernel
theorem dD_part_34 : decode cD_part 34 = .ok (.invokespecial 32, 3) := by decide +kernel
theorem dD_part_37 : decode cD_part 37 = .ok (.athrow, 1) := by decide +kernel
theorem dD_part_38 : decode cD_part 38 = .ok (.aload_n 3, 1) := by decide +kernel
theorem dD_part_39 : decode cD_part 39 = .ok (.getfield 72, 3) := by decide +kernel
theorem dD_part_42 : decode cD_part 42 = .ok (.iload_n 2, 1) := by decide +kernel
theorem dD_part_43 : decode cD_part 43 = .ok (.iaload, 1) := by decide +kernel
theorem dD_part_44 : decode cD_part 44 = .ok (.ireturn, 1) := by decide +kernel
theorem dD_due_0 : decode cD_due 0 = .ok (.aload_n 0, 1) := by decide +kernel
theorem dD_due_1 : decode cD_due 1 = .ok (.iload_n 1, 1) := by decide +kernel
theorem dD_due_2 : decode cD_due 2 = .ok (.invokevirtual 45, 3) := by decide +kernel
theorem dD_due_5 : decode cD_due 5 = .ok (.astore_n 3, 1) := by decide +kernel
theorem dD_due_6 : decode cD_due 6 = .ok (.iload_n 2, 1) := by decide +kernel
theorem dD_due_7 : decode cD_due 7 = .ok (.iconst 1, 1) := by decide +kernel
theorem dD_due_8 : decode cD_due 8 = .ok (.bipush 100, 2) := by decide +kernel
theorem dD_due_10 : decode cD_due 10 = .ok (.invokestatic 23, 3) := by decide +kernel
theorem dD_due_13 : decode cD_due 13 = .ok (.ifCond .ne 11, 3) := by decide +kernel
theorem dD_due_16 : decode cD_due 16 = .ok (.new 27, 3) := by decide +kernel
theorem dD_due_19 : decode cD_due 19 = .ok (.dup, 1) := by decide +kernel
theorem dD_due_20 : decode cD_due 20 = .ok (.invokespecial 29, 3) := by decide +kernel
theorem dD_due_23 : decode cD_due 23 = .ok (.athrow, 1) := by decide +kernel
theorem dD_due_24 : decode cD_due 24 = .ok (.aload_n 3, 1) := by decide +kernel
theorem dD_due_25 : decode cD_due 25 = .ok (.getfield 85, 3) := by decide +kernel
theorem dD_due_28 : decode cD_due 28 = .ok (.iload_n 2, 1) := by decide +kernel
theorem dD_due_29 : decode cD_due 29 = .ok (.invokevirtual 89, 3) := by decide +kernel
theorem dD_due_32 : decode cD_due 32 = .ok (.ireturn, 1) := by decide +kernel
theorem dD_principal_0 : decode cD_principal 0 = .ok (.aload_n 0, 1) := by decide +kernel
theorem dD_principal_1 : decode cD_principal 1 = .ok (.iload_n 1, 1) := by decide +kernel
theorem dD_principal_2 : decode cD_principal 2 = .ok (.invokevirtual 45, 3) := by decide +kernel
theorem dD_principal_5 : decode cD_principal 5 = .ok (.getfield 92, 3) := by decide +kernel
theorem dD_principal_8 : decode cD_principal 8 = .ok (.ireturn, 1) := by decide +kernel
theorem dD_level_0 : decode cD_level 0 = .ok (.aload_n 0, 1) := by decide +kernel
theorem dD_level_1 : decode cD_level 1 = .ok (.iload_n 1, 1) := by decide +kernel
theorem dD_level_2 : decode cD_level 2 = .ok (.invokevirtual 45, 3) := by decide +kernel
theorem dD_level_5 : decode cD_level 5 = .ok (.getfield 95, 3) := by decide +kernel
theorem dD_level_8 : decode cD_level 8 = .ok (.ireturn, 1) := by decide +kernel
theorem dD_accrued_0 : decode cD_accrued 0 = .ok (.aload_n 0, 1) := by decide +kernel
theorem dD_accrued_1 : decode cD_accrued 1 = .ok (.iload_n 1, 1) := by decide +kernel
theorem dD_accrued_2 : decode cD_accrued 2 = .ok (.invokevirtual 45, 3) := by decide +kernel
theorem dD_accrued_5 : decode cD_accrued 5 = .ok (.aload_n 0, 1) := by decide +kernel
theorem dD_accrued_6 : decode cD_accrued 6 = .ok (.getfield 19, 3) := by decide +kernel
theorem dD_accrued_9 : decode cD_accrued 9 = .ok (.invokevirtual 98, 3) := by decide +kernel
theorem dD_accrued_12 : decode cD_accrued 12 = .ok (.ireturn, 1) := by decide +kernel
theorem dD_owed_0 : decode cD_owed 0 = .ok (.aload_n 0, 1) := by decide +kernel
theorem dD_owed_1 : decode cD_owed 1 = .ok (.iload_n 1, 1) := by decide +kernel
theorem dD_owed_2 : decode cD_owed 2 = .ok (.invokevirtual 45, 3) := by decide +kernel
theorem dD_owed_5 : decode cD_owed 5 = .ok (.astore_n 3, 1) := by decide +kernel
theorem dD_owed_6 : decode cD_owed 6 = .ok (.iload_n 2, 1) := by decide +kernel
theorem dD_owed_7 : decode cD_owed 7 = .ok (.iconst 0, 1) := by decide +kernel
theorem dD_owed_8 : decode cD_owed 8 = .ok (.iconst 3, 1) := by decide +kernel
theorem dD_owed_9 : decode cD_owed 9 = .ok (.invokestatic 23, 3) := by decide +kernel
theorem dD_owed_12 : decode cD_owed 12 = .ok (.ifCond .ne 11, 3) := by decide +kernel
theorem dD_owed_15 : decode cD_owed 15 = .ok (.new 27, 3) := by decide +kernel
theorem dD_owed_18 : decode cD_owed 18 = .ok (.dup, 1) := by decide +kernel
theorem dD_owed_19 : decode cD_owed 19 = .ok (.invokespecial 29, 3) := by decide +kernel
theorem dD_owed_22 : decode cD_owed 22 = .ok (.athrow, 1) := by decide +kernel
theorem dD_owed_23 : decode cD_owed 23 = .ok (.aload_n 3, 1) := by decide +kernel
theorem dD_owed_24 : decode cD_owed 24 = .ok (.getfield 101, 3) := by decide +kernel
theorem dD_owed_27 : decode cD_owed 27 = .ok (.iload_n 2, 1) := by decide +kernel
theorem dD_owed_28 : decode cD_owed 28 = .ok (.iaload, 1) := by decide +kernel
theorem dD_owed_29 : decode cD_owed 29 = .ok (.ireturn, 1) := by decide +kernel
theorem dD_escrow_0 : decode cD_escrow 0 = .ok (.aload_n 0, 1) := by decide +kernel
theorem dD_escrow_1 : decode cD_escrow 1 = .ok (.iload_n 1, 1) := by decide +kernel
theorem dD_escrow_2 : decode cD_escrow 2 = .ok (.invokevirtual 45, 3) := by decide +kernel
theorem dD_escrow_5 : decode cD_escrow 5 = .ok (.getfield 50, 3) := by decide +kernel
theorem dD_escrow_8 : decode cD_escrow 8 = .ok (.getfield 104, 3) := by decide +kernel
theorem dD_escrow_11 : decode cD_escrow 11 = .ok (.ireturn, 1) := by decide +kernel
theorem dD_deposit_0 : decode cD_deposit 0 = .ok (.aload_n 0, 1) := by decide +kernel
theorem dD_deposit_1 : decode cD_deposit 1 = .ok (.iload_n 1, 1) := by decide +kernel
theorem dD_deposit_2 : decode cD_deposit 2 = .ok (.invokevirtual 45, 3) := by decide +kernel
theorem dD_deposit_5 : decode cD_deposit 5 = .ok (.getfield 50, 3) := by decide +kernel
theorem dD_deposit_8 : decode cD_deposit 8 = .ok (.getfield 107, 3) := by decide +kernel
theorem dD_deposit_11 : decode cD_deposit 11 = .ok (.ireturn, 1) := by decide +kernel
theorem dD_bills_0 : decode cD_bills 0 = .ok (.aload_n 0, 1) := by decide +kernel
theorem dD_bills_1 : decode cD_bills 1 = .ok (.iload_n 1, 1) := by decide +kernel
theorem dD_bills_2 : decode cD_bills 2 = .ok (.invokevirtual 45, 3) := by decide +kernel
theorem dD_bills_5 : decode cD_bills 5 = .ok (.getfield 110, 3) := by decide +kernel
theorem dD_bills_8 : decode cD_bills 8 = .ok (.getfield 114, 3) := by decide +kernel
theorem dD_bills_11 : decode cD_bills 11 = .ok (.ireturn, 1) := by decide +kernel
theorem dD_bill_0 : decode cD_bill 0 = .ok (.aload_n 0, 1) := by decide +kernel
theorem dD_bill_1 : decode cD_bill 1 = .ok (.iload_n 1, 1) := by decide +kernel
theorem dD_bill_2 : decode cD_bill 2 = .ok (.invokevirtual 45, 3) := by decide +kernel
theorem dD_bill_5 : decode cD_bill 5 = .ok (.astore 4, 2) := by decide +kernel
theorem dD_bill_7 : decode cD_bill 7 = .ok (.iload_n 3, 1) := by decide +kernel
theorem dD_bill_8 : decode cD_bill 8 = .ok (.iconst 0, 1) := by decide +kernel
theorem dD_bill_9 : decode cD_bill 9 = .ok (.iconst 4, 1) := by decide +kernel
theorem dD_bill_10 : decode cD_bill 10 = .ok (.invokestatic 23, 3) := by decide +kernel
theorem dD_bill_13 : decode cD_bill 13 = .ok (.ifCond .ne 11, 3) := by decide +kernel
theorem dD_bill_16 : decode cD_bill 16 = .ok (.new 27, 3) := by decide +kernel
theorem dD_bill_19 : decode cD_bill 19 = .ok (.dup, 1) := by decide +kernel
theorem dD_bill_20 : decode cD_bill 20 = .ok (.invokespecial 29, 3) := by decide +kernel
theorem dD_bill_23 : decode cD_bill 23 = .ok (.athrow, 1) := by decide +kernel
theorem dD_bill_24 : decode cD_bill 24 = .ok (.iload_n 2, 1) := by decide +kernel
theorem dD_bill_25 : decode cD_bill 25 = .ok (.iconst 0, 1) := by decide +kernel
theorem dD_bill_26 : decode cD_bill 26 = .ok (.aload 4, 2) := by decide +kernel
theorem dD_bill_28 : decode cD_bill 28 = .ok (.getfield 110, 3) := by decide +kernel
theorem dD_bill_31 : decode cD_bill 31 = .ok (.getfield 114, 3) := by decide +kernel
theorem dD_bill_34 : decode cD_bill 34 = .ok (.iconst 1, 1) := by decide +kernel
theorem dD_bill_35 : decode cD_bill 35 = .ok (.isub, 1) := by decide +kernel
theorem dD_bill_36 : decode cD_bill 36 = .ok (.invokestatic 23, 3) := by decide +kernel
theorem dD_bill_39 : decode cD_bill 39 = .ok (.ifCond .ne 11, 3) := by decide +kernel
theorem dD_bill_42 : decode cD_bill 42 = .ok (.new 119, 3) := by decide +kernel
theorem dD_bill_45 : decode cD_bill 45 = .ok (.dup, 1) := by decide +kernel
theorem dD_bill_46 : decode cD_bill 46 = .ok (.invokespecial 121, 3) := by decide +kernel
theorem dD_bill_49 : decode cD_bill 49 = .ok (.athrow, 1) := by decide +kernel
theorem dD_bill_50 : decode cD_bill 50 = .ok (.aload 4, 2) := by decide +kernel
theorem dD_bill_52 : decode cD_bill 52 = .ok (.getfield 110, 3) := by decide +kernel
theorem dD_bill_55 : decode cD_bill 55 = .ok (.getfield 122, 3) := by decide +kernel
theorem dD_bill_58 : decode cD_bill 58 = .ok (.iload_n 2, 1) := by decide +kernel
theorem dD_bill_59 : decode cD_bill 59 = .ok (.iconst 5, 1) := by decide +kernel
theorem dD_bill_60 : decode cD_bill 60 = .ok (.imul, 1) := by decide +kernel
theorem dD_bill_61 : decode cD_bill 61 = .ok (.iload_n 3, 1) := by decide +kernel
theorem dD_bill_62 : decode cD_bill 62 = .ok (.iadd, 1) := by decide +kernel
theorem dD_bill_63 : decode cD_bill 63 = .ok (.iaload, 1) := by decide +kernel
theorem dD_bill_64 : decode cD_bill 64 = .ok (.ireturn, 1) := by decide +kernel
theorem dD_interest_0 : decode cD_interest 0 = .ok (.iload_n 1, 1) := by decide +kernel
theorem dD_interest_1 : decode cD_interest 1 = .ok (.iconst 0, 1) := by decide +kernel
theorem dD_interest_2 : decode cD_interest 2 = .ok (.ldc 22, 2) := by decide +kernel
theorem dD_interest_4 : decode cD_interest 4 = .ok (.invokestatic 23, 3) := by decide +kernel
theorem dD_interest_7 : decode cD_interest 7 = .ok (.ifCond .eq 57, 3) := by decide +kernel
theorem dD_interest_10 : decode cD_interest 10 = .ok (.iload_n 2, 1) := by decide +kernel
theorem dD_interest_11 : decode cD_interest 11 = .ok (.iconst 0, 1) := by decide +kernel
theorem dD_interest_12 : decode cD_interest 12 = .ok (.sipush 30000, 3) := by decide +kernel
theorem dD_interest_15 : decode cD_interest 15 = .ok (.invokestatic 23, 3) := by decide +kernel
theorem dD_interest_18 : decode cD_interest 18 = .ok (.ifCond .eq 46, 3) := by decide +kernel
theorem dD_interest_21 : decode cD_interest 21 = .ok (.iload_n 3, 1) := by decide +kernel
theorem dD_interest_22 : decode cD_interest 22 = .ok (.iconst 0, 1) := by decide +kernel
theorem dD_interest_23 : decode cD_interest 23 = .ok (.sipush 4000, 3) := by decide +kernel
theorem dD_interest_26 : decode cD_interest 26 = .ok (.invokestatic 23, 3) := by decide +kernel
theorem dD_interest_29 : decode cD_interest 29 = .ok (.ifCond .eq 35, 3) := by decide +kernel
theorem dD_interest_32 : decode cD_interest 32 = .ok (.iload 4, 2) := by decide +kernel
theorem dD_interest_34 : decode cD_interest 34 = .ok (.iload_n 3, 1) := by decide +kernel
theorem dD_interest_35 : decode cD_interest 35 = .ok (.sipush 4000, 3) := by decide +kernel
theorem dD_interest_38 : decode cD_interest 38 = .ok (.invokestatic 23, 3) := by decide +kernel
theorem dD_interest_41 : decode cD_interest 41 = .ok (.ifCond .eq 23, 3) := by decide +kernel
theorem dD_interest_44 : decode cD_interest 44 = .ok (.iload 5, 2) := by decide +kernel
theorem dD_interest_46 : decode cD_interest 46 = .ok (.iconst 0, 1) := by decide +kernel
theorem dD_interest_47 : decode cD_interest 47 = .ok (.iconst 3, 1) := by decide +kernel
theorem dD_interest_48 : decode cD_interest 48 = .ok (.invokestatic 23, 3) := by decide +kernel
theorem dD_interest_51 : decode cD_interest 51 = .ok (.ifCond .eq 13, 3) := by decide +kernel
theorem dD_interest_54 : decode cD_interest 54 = .ok (.iload 6, 2) := by decide +kernel
theorem dD_interest_56 : decode cD_interest 56 = .ok (.iconst 0, 1) := by decide +kernel
theorem dD_interest_57 : decode cD_interest 57 = .ok (.iconst 3, 1) := by decide +kernel
theorem dD_interest_58 : decode cD_interest 58 = .ok (.invokestatic 23, 3) := by decide +kernel
theorem dD_interest_61 : decode cD_interest 61 = .ok (.ifCond .ne 11, 3) := by decide +kernel
theorem dD_interest_64 : decode cD_interest 64 = .ok (.new 27, 3) := by decide +kernel
theorem dD_interest_67 : decode cD_interest 67 = .ok (.dup, 1) := by decide +kernel
theorem dD_interest_68 : decode cD_interest 68 = .ok (.invokespecial 29, 3) := by decide +kernel
theorem dD_interest_71 : decode cD_interest 71 = .ok (.athrow, 1) := by decide +kernel
theorem dD_interest_72 : decode cD_interest 72 = .ok (.iload_n 1, 1) := by decide +kernel
theorem dD_interest_73 : decode cD_interest 73 = .ok (.iload_n 2, 1) := by decide +kernel
theorem dD_interest_74 : decode cD_interest 74 = .ok (.iload 5, 2) := by decide +kernel
theorem dD_interest_76 : decode cD_interest 76 = .ok (.iload_n 3, 1) := by decide +kernel
theorem dD_interest_77 : decode cD_interest 77 = .ok (.iload 4, 2) := by decide +kernel
theorem dD_interest_79 : decode cD_interest 79 = .ok (.invokestatic 125, 3) := by decide +kernel
theorem dD_interest_82 : decode cD_interest 82 = .ok (.iload 5, 2) := by decide +kernel
theorem dD_interest_84 : decode cD_interest 84 = .ok (.iload 6, 2) := by decide +kernel
theorem dD_interest_86 : decode cD_interest 86 = .ok (.invokestatic 131, 3) := by decide +kernel
theorem dD_interest_89 : decode cD_interest 89 = .ok (.ireturn, 1) := by decide +kernel
