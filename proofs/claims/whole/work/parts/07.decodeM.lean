theorem dM_init_0 : decode cM_init 0 = .ok (.aload_n 0, 1) := by decide +kernel
theorem dM_init_1 : decode cM_init 1 = .ok (.invokespecial 1, 3) := by decide +kernel
theorem dM_init_4 : decode cM_init 4 = .ok (.aload_n 0, 1) := by decide +kernel
theorem dM_init_5 : decode cM_init 5 = .ok (.iconst 3, 1) := by decide +kernel
theorem dM_init_6 : decode cM_init 6 = .ok (.newarray .int, 2) := by decide +kernel
theorem dM_init_8 : decode cM_init 8 = .ok (.putfield 7, 3) := by decide +kernel
theorem dM_init_11 : decode cM_init 11 = .ok (.aload_n 0, 1) := by decide +kernel
theorem dM_init_12 : decode cM_init 12 = .ok (.iconst 3, 1) := by decide +kernel
theorem dM_init_13 : decode cM_init 13 = .ok (.newarray .int, 2) := by decide +kernel
theorem dM_init_15 : decode cM_init 15 = .ok (.putfield 13, 3) := by decide +kernel
theorem dM_init_18 : decode cM_init 18 = .ok (.aload_n 0, 1) := by decide +kernel
theorem dM_init_19 : decode cM_init 19 = .ok (.iconst 3, 1) := by decide +kernel
theorem dM_init_20 : decode cM_init 20 = .ok (.newarray .int, 2) := by decide +kernel
theorem dM_init_22 : decode cM_init 22 = .ok (.putfield 16, 3) := by decide +kernel
theorem dM_init_25 : decode cM_init 25 = .ok (.aload_n 0, 1) := by decide +kernel
theorem dM_init_26 : decode cM_init 26 = .ok (.iconst 3, 1) := by decide +kernel
theorem dM_init_27 : decode cM_init 27 = .ok (.newarray .int, 2) := by decide +kernel
theorem dM_init_29 : decode cM_init 29 = .ok (.putfield 19, 3) := by decide +kernel
theorem dM_init_32 : decode cM_init 32 = .ok (.aload_n 0, 1) := by decide +kernel
theorem dM_init_33 : decode cM_init 33 = .ok (.iconst 3, 1) := by decide +kernel
theorem dM_init_34 : decode cM_init 34 = .ok (.newarray .int, 2) := by decide +kernel
theorem dM_init_36 : decode cM_init 36 = .ok (.putfield 22, 3) := by decide +kernel
theorem dM_init_39 : decode cM_init 39 = .ok (.aload_n 0, 1) := by decide +kernel
theorem dM_init_40 : decode cM_init 40 = .ok (.iconst 3, 1) := by decide +kernel
theorem dM_init_41 : decode cM_init 41 = .ok (.newarray .boolean, 2) := by decide +kernel
theorem dM_init_43 : decode cM_init 43 = .ok (.putfield 25, 3) := by decide +kernel
theorem dM_init_46 : decode cM_init 46 = .ok (.aload_n 0, 1) := by decide +kernel
theorem dM_init_47 : decode cM_init 47 = .ok (.iconst 3, 1) := by decide +kernel
theorem dM_init_48 : decode cM_init 48 = .ok (.newarray .int, 2) := by decide +kernel
theorem dM_init_50 : decode cM_init 50 = .ok (.putfield 29, 3) := by decide +kernel
theorem dM_init_53 : decode cM_init 53 = .ok (.aload_n 0, 1) := by decide +kernel
theorem dM_init_54 : decode cM_init 54 = .ok (.iconst 3, 1) := by decide +kernel
theorem dM_init_55 : decode cM_init 55 = .ok (.newarray .int, 2) := by decide +kernel
theorem dM_init_57 : decode cM_init 57 = .ok (.putfield 32, 3) := by decide +kernel
theorem dM_init_60 : decode cM_init 60 = .ok (.aload_n 0, 1) := by decide +kernel
theorem dM_init_61 : decode cM_init 61 = .ok (.iconst 3, 1) := by decide +kernel
theorem dM_init_62 : decode cM_init 62 = .ok (.newarray .int, 2) := by decide +kernel
theorem dM_init_64 : decode cM_init 64 = .ok (.putfield 35, 3) := by decide +kernel
theorem dM_init_67 : decode cM_init 67 = .ok (.aload_n 0, 1) := by decide +kernel
theorem dM_init_68 : decode cM_init 68 = .ok (.iconst 3, 1) := by decide +kernel
theorem dM_init_69 : decode cM_init 69 = .ok (.newarray .int, 2) := by decide +kernel
theorem dM_init_71 : decode cM_init 71 = .ok (.putfield 38, 3) := by decide +kernel
theorem dM_init_74 : decode cM_init 74 = .ok (.aload_n 0, 1) := by decide +kernel
theorem dM_init_75 : decode cM_init 75 = .ok (.iconst 3, 1) := by decide +kernel
theorem dM_init_76 : decode cM_init 76 = .ok (.newarray .int, 2) := by decide +kernel
theorem dM_init_78 : decode cM_init 78 = .ok (.putfield 41, 3) := by decide +kernel
theorem dM_init_81 : decode cM_init 81 = .ok (.aload_n 0, 1) := by decide +kernel
theorem dM_init_82 : decode cM_init 82 = .ok (.iconst 3, 1) := by decide +kernel
theorem dM_init_83 : decode cM_init 83 = .ok (.newarray .int, 2) := by decide +kernel
theorem dM_init_85 : decode cM_init 85 = .ok (.putfield 44, 3) := by decide +kernel
theorem dM_init_88 : decode cM_init 88 = .ok (.aload_n 0, 1) := by decide +kernel
theorem dM_init_89 : decode cM_init 89 = .ok (.iconst 3, 1) := by decide +kernel
theorem dM_init_90 : decode cM_init 90 = .ok (.newarray .int, 2) := by decide +kernel
theorem dM_init_92 : decode cM_init 92 = .ok (.putfield 47, 3) := by decide +kernel
theorem dM_init_95 : decode cM_init 95 = .ok (.aload_n 0, 1) := by decide +kernel
theorem dM_init_96 : decode cM_init 96 = .ok (.bipush 12, 2) := by decide +kernel
theorem dM_init_98 : decode cM_init 98 = .ok (.newarray .int, 2) := by decide +kernel
theorem dM_init_100 : decode cM_init 100 = .ok (.putfield 50, 3) := by decide +kernel
theorem dM_init_103 : decode cM_init 103 = .ok (.aload_n 0, 1) := by decide +kernel
theorem dM_init_104 : decode cM_init 104 = .ok (.iconst 3, 1) := by decide +kernel
theorem dM_init_105 : decode cM_init 105 = .ok (.newarray .boolean, 2) := by decide +kernel
theorem dM_init_107 : decode cM_init 107 = .ok (.putfield 53, 3) := by decide +kernel
theorem dM_init_110 : decode cM_init 110 = .ok (.aload_n 0, 1) := by decide +kernel
theorem dM_init_111 : decode cM_init 111 = .ok (.bipush 18, 2) := by decide +kernel
theorem dM_init_113 : decode cM_init 113 = .ok (.newarray .int, 2) := by decide +kernel
theorem dM_init_115 : decode cM_init 115 = .ok (.putfield 56, 3) := by decide +kernel
theorem dM_init_118 : decode cM_init 118 = .ok (.aload_n 0, 1) := by decide +kernel
theorem dM_init_119 : decode cM_init 119 = .ok (.iconst 3, 1) := by decide +kernel
theorem dM_init_120 : decode cM_init 120 = .ok (.newarray .int, 2) := by decide +kernel
theorem dM_init_122 : decode cM_init 122 = .ok (.putfield 59, 3) := by decide +kernel
theorem dM_init_125 : decode cM_init 125 = .ok (.aload_n 0, 1) := by decide +kernel
theorem dM_init_126 : decode cM_init 126 = .ok (.sipush 180, 3) := by decide +kernel
theorem dM_init_129 : decode cM_init 129 = .ok (.newarray .int, 2) := by decide +kernel
theorem dM_init_131 : decode cM_init 131 = .ok (.putfield 62, 3) := by decide +kernel
theorem dM_init_134 : decode cM_init 134 = .ok (.aload_n 0, 1) := by decide +kernel
theorem dM_init_135 : decode cM_init 135 = .ok (.sipush 180, 3) := by decide +kernel
theorem dM_init_138 : decode cM_init 138 = .ok (.newarray .int, 2) := by decide +kernel
theorem dM_init_140 : decode cM_init 140 = .ok (.putfield 65, 3) := by decide +kernel
theorem dM_init_143 : decode cM_init 143 = .ok (.aload_n 0, 1) := by decide +kernel
theorem dM_init_144 : decode cM_init 144 = .ok (.sipush 180, 3) := by decide +kernel
theorem dM_init_147 : decode cM_init 147 = .ok (.newarray .int, 2) := by decide +kernel
theorem dM_init_149 : decode cM_init 149 = .ok (.putfield 68, 3) := by decide +kernel
theorem dM_init_152 : decode cM_init 152 = .ok (.aload_n 0, 1) := by decide +kernel
theorem dM_init_153 : decode cM_init 153 = .ok (.sipush 180, 3) := by decide +kernel
theorem dM_init_156 : decode cM_init 156 = .ok (.newarray .int, 2) := by decide +kernel
theorem dM_init_158 : decode cM_init 158 = .ok (.putfield 71, 3) := by decide +kernel
theorem dM_init_161 : decode cM_init 161 = .ok (.aload_n 0, 1) := by decide +kernel
theorem dM_init_162 : decode cM_init 162 = .ok (.sipush 180, 3) := by decide +kernel
theorem dM_init_165 : decode cM_init 165 = .ok (.newarray .int, 2) := by decide +kernel
theorem dM_init_167 : decode cM_init 167 = .ok (.putfield 74, 3) := by decide +kernel
theorem dM_init_170 : decode cM_init 170 = .ok (.return_, 1) := by decide +kernel
theorem dM_thrown_0 : decode cM_thrown 0 = .ok (.aload_n 0, 1) := by decide +kernel
theorem dM_thrown_1 : decode cM_thrown 1 = .ok (.getfield 77, 3) := by decide +kernel
theorem dM_thrown_4 : decode cM_thrown 4 = .ok (.ireturn, 1) := by decide +kernel
theorem dM_date_0 : decode cM_date 0 = .ok (.aload_n 0, 1) := by decide +kernel
theorem dM_date_1 : decode cM_date 1 = .ok (.iconst 0, 1) := by decide +kernel
theorem dM_date_2 : decode cM_date 2 = .ok (.putfield 77, 3) := by decide +kernel
theorem dM_date_5 : decode cM_date 5 = .ok (.aload_n 0, 1) := by decide +kernel
theorem dM_date_6 : decode cM_date 6 = .ok (.aload_n 0, 1) := by decide +kernel
theorem dM_date_7 : decode cM_date 7 = .ok (.getfield 106, 3) := by decide +kernel
theorem dM_date_10 : decode cM_date 10 = .ok (.invokevirtual 98, 3) := by decide +kernel
theorem dM_date_13 : decode cM_date 13 = .ok (.sipush 10000, 3) := by decide +kernel
theorem dM_date_16 : decode cM_date 16 = .ok (.aload_n 0, 1) := by decide +kernel
theorem dM_date_17 : decode cM_date 17 = .ok (.getfield 85, 3) := by decide +kernel
theorem dM_date_20 : decode cM_date 20 = .ok (.imul, 1) := by decide +kernel
theorem dM_date_21 : decode cM_date 21 = .ok (.bipush 100, 2) := by decide +kernel
theorem dM_date_23 : decode cM_date 23 = .ok (.aload_n 0, 1) := by decide +kernel
theorem dM_date_24 : decode cM_date 24 = .ok (.getfield 88, 3) := by decide +kernel
theorem dM_date_27 : decode cM_date 27 = .ok (.imul, 1) := by decide +kernel
theorem dM_date_28 : decode cM_date 28 = .ok (.iadd, 1) := by decide +kernel
theorem dM_date_29 : decode cM_date 29 = .ok (.aload_n 0, 1) := by decide +kernel
theorem dM_date_30 : decode cM_date 30 = .ok (.getfield 95, 3) := by decide +kernel
theorem dM_date_33 : decode cM_date 33 = .ok (.iadd, 1) := by decide +kernel
theorem dM_date_34 : decode cM_date 34 = .ok (.ireturn, 1) := by decide +kernel
theorem dM_find_0 : decode cM_find 0 = .ok (.iload_n 1, 1) := by decide +kernel
theorem dM_find_1 : decode cM_find 1 = .ok (.istore_n 2, 1) := by decide +kernel
theorem dM_find_2 : decode cM_find 2 = .ok (.aload_n 0, 1) := by decide +kernel
theorem dM_find_3 : decode cM_find 3 = .ok (.sipush 2000, 3) := by decide +kernel
theorem dM_find_6 : decode cM_find 6 = .ok (.putfield 85, 3) := by decide +kernel
theorem dM_find_9 : decode cM_find 9 = .ok (.iload_n 2, 1) := by decide +kernel
theorem dM_find_10 : decode cM_find 10 = .ok (.aload_n 0, 1) := by decide +kernel
theorem dM_find_11 : decode cM_find 11 = .ok (.getfield 85, 3) := by decide +kernel
theorem dM_find_14 : decode cM_find 14 = .ok (.invokestatic 81, 3) := by decide +kernel
theorem dM_find_17 : decode cM_find 17 = .ok (.if_icmp .lt 26, 3) := by decide +kernel
theorem dM_find_20 : decode cM_find 20 = .ok (.iload_n 2, 1) := by decide +kernel
theorem dM_find_21 : decode cM_find 21 = .ok (.aload_n 0, 1) := by decide +kernel
theorem dM_find_22 : decode cM_find 22 = .ok (.getfield 85, 3) := by decide +kernel
theorem dM_find_25 : decode cM_find 25 = .ok (.invokestatic 81, 3) := by decide +kernel
theorem dM_find_28 : decode cM_find 28 = .ok (.isub, 1) := by decide +kernel
theorem dM_find_29 : decode cM_find 29 = .ok (.istore_n 2, 1) := by decide +kernel
theorem dM_find_30 : decode cM_find 30 = .ok (.aload_n 0, 1) := by decide +kernel
theorem dM_find_31 : decode cM_find 31 = .ok (.dup, 1) := by decide +kernel
theorem dM_find_32 : decode cM_find 32 = .ok (.getfield 85, 3) := by decide +kernel
theorem dM_find_35 : decode cM_find 35 = .ok (.iconst 1, 1) := by decide +kernel
theorem dM_find_36 : decode cM_find 36 = .ok (.iadd, 1) := by decide +kernel
theorem dM_find_37 : decode cM_find 37 = .ok (.putfield 85, 3) := by decide +kernel
theorem dM_find_40 : decode cM_find 40 = .ok (.goto (-31), 3) := by decide +kernel
theorem dM_find_43 : decode cM_find 43 = .ok (.aload_n 0, 1) := by decide +kernel
theorem dM_find_44 : decode cM_find 44 = .ok (.iconst 1, 1) := by decide +kernel
theorem dM_find_45 : decode cM_find 45 = .ok (.putfield 88, 3) := by decide +kernel
theorem dM_find_48 : decode cM_find 48 = .ok (.iload_n 2, 1) := by decide +kernel
theorem dM_find_49 : decode cM_find 49 = .ok (.aload_n 0, 1) := by decide +kernel
theorem dM_find_50 : decode cM_find 50 = .ok (.getfield 85, 3) := by decide +kernel
theorem dM_find_53 : decode cM_find 53 = .ok (.aload_n 0, 1) := by decide +kernel
theorem dM_find_54 : decode cM_find 54 = .ok (.getfield 88, 3) := by decide +kernel
theorem dM_find_57 : decode cM_find 57 = .ok (.invokestatic 91, 3) := by decide +kernel
theorem dM_find_60 : decode cM_find 60 = .ok (.if_icmp .lt 30, 3) := by decide +kernel
theorem dM_find_63 : decode cM_find 63 = .ok (.iload_n 2, 1) := by decide +kernel
theorem dM_find_64 : decode cM_find 64 = .ok (.aload_n 0, 1) := by decide +kernel
theorem dM_find_65 : decode cM_find 65 = .ok (.getfield 85, 3) := by decide +kernel
theorem dM_find_68 : decode cM_find 68 = .ok (.aload_n 0, 1) := by decide +kernel
theorem dM_find_69 : decode cM_find 69 = .ok (.getfield 88, 3) := by decide +kernel
theorem dM_find_72 : decode cM_find 72 = .ok (.invokestatic 91, 3) := by decide +kernel
theorem dM_find_75 : decode cM_find 75 = .ok (.isub, 1) := by decide +kernel
theorem dM_find_76 : decode cM_find 76 = .ok (.istore_n 2, 1) := by decide +kernel
theorem dM_find_77 : decode cM_find 77 = .ok (.aload_n 0, 1) := by decide +kernel
theorem dM_find_78 : decode cM_find 78 = .ok (.dup, 1) := by decide +kernel
theorem dM_find_79 : decode cM_find 79 = .ok (.getfield 88, 3) := by decide +kernel
theorem dM_find_82 : decode cM_find 82 = .ok (.iconst 1, 1) := by decide +kernel
theorem dM_find_83 : decode cM_find 83 = .ok (.iadd, 1) := by decide +kernel
theorem dM_find_84 : decode cM_find 84 = .ok (.putfield 88, 3) := by decide +kernel
theorem dM_find_87 : decode cM_find 87 = .ok (.goto (-39), 3) := by decide +kernel
theorem dM_find_90 : decode cM_find 90 = .ok (.aload_n 0, 1) := by decide +kernel
theorem dM_find_91 : decode cM_find 91 = .ok (.iload_n 2, 1) := by decide +kernel
theorem dM_find_92 : decode cM_find 92 = .ok (.iconst 1, 1) := by decide +kernel
theorem dM_find_93 : decode cM_find 93 = .ok (.iadd, 1) := by decide +kernel
theorem dM_find_94 : decode cM_find 94 = .ok (.putfield 95, 3) := by decide +kernel
theorem dM_find_97 : decode cM_find 97 = .ok (.return_, 1) := by decide +kernel
theorem dM_daysOf_0 : decode cM_daysOf 0 = .ok (.iload_n 0, 1) := by decide +kernel
theorem dM_daysOf_1 : decode cM_daysOf 1 = .ok (.iconst 4, 1) := by decide +kernel
theorem dM_daysOf_2 : decode cM_daysOf 2 = .ok (.irem, 1) := by decide +kernel
theorem dM_daysOf_3 : decode cM_daysOf 3 = .ok (.ifCond .ne 9, 3) := by decide +kernel
theorem dM_daysOf_6 : decode cM_daysOf 6 = .ok (.sipush 366, 3) := by decide +kernel
theorem dM_daysOf_9 : decode cM_daysOf 9 = .ok (.goto 6, 3) := by decide +kernel
theorem dM_daysOf_12 : decode cM_daysOf 12 = .ok (.sipush 365, 3) := by decide +kernel
theorem dM_daysOf_15 : decode cM_daysOf 15 = .ok (.ireturn, 1) := by decide +kernel
theorem dM_daysIn_0 : decode cM_daysIn 0 = .ok (.iload_n 1, 1) := by decide +kernel
theorem dM_daysIn_1 : decode cM_daysIn 1 = .ok (.iconst 2, 1) := by decide +kernel
theorem dM_daysIn_2 : decode cM_daysIn 2 = .ok (.if_icmp .ne 14, 3) := by decide +kernel
theorem dM_daysIn_5 : decode cM_daysIn 5 = .ok (.iload_n 0, 1) := by decide +kernel
theorem dM_daysIn_6 : decode cM_daysIn 6 = .ok (.invokestatic 81, 3) := by decide +kernel
theorem dM_daysIn_9 : decode cM_daysIn 9 = .ok (.sipush 337, 3) := by decide +kernel
theorem dM_daysIn_12 : decode cM_daysIn 12 = .ok (.isub, 1) := by decide +kernel
theorem dM_daysIn_13 : decode cM_daysIn 13 = .ok (.goto 33, 3) := by decide +kernel
theorem dM_daysIn_16 : decode cM_daysIn 16 = .ok (.iload_n 1, 1) := by decide +kernel
theorem dM_daysIn_17 : decode cM_daysIn 17 = .ok (.iconst 4, 1) := by decide +kernel
theorem dM_daysIn_18 : decode cM_daysIn 18 = .ok (.if_icmp .eq 21, 3) := by decide +kernel
theorem dM_daysIn_21 : decode cM_daysIn 21 = .ok (.iload_n 1, 1) := by decide +kernel
theorem dM_daysIn_22 : decode cM_daysIn 22 = .ok (.bipush 6, 2) := by decide +kernel
theorem dM_daysIn_24 : decode cM_daysIn 24 = .ok (.if_icmp .eq 15, 3) := by decide +kernel
theorem dM_daysIn_27 : decode cM_daysIn 27 = .ok (.iload_n 1, 1) := by decide +kernel
theorem dM_daysIn_28 : decode cM_daysIn 28 = .ok (.bipush 9, 2) := by decide +kernel
theorem dM_daysIn_30 : decode cM_daysIn 30 = .ok (.if_icmp .eq 9, 3) := by decide +kernel
theorem dM_daysIn_33 : decode cM_daysIn 33 = .ok (.iload_n 1, 1) := by decide +kernel
theorem dM_daysIn_34 : decode cM_daysIn 34 = .ok (.bipush 11, 2) := by decide +kernel
theorem dM_daysIn_36 : decode cM_daysIn 36 = .ok (.if_icmp .ne 8, 3) := by decide +kernel
theorem dM_daysIn_39 : decode cM_daysIn 39 = .ok (.bipush 30, 2) := by decide +kernel
theorem dM_daysIn_41 : decode cM_daysIn 41 = .ok (.goto 5, 3) := by decide +kernel
theorem dM_daysIn_44 : decode cM_daysIn 44 = .ok (.bipush 31, 2) := by decide +kernel
theorem dM_daysIn_46 : decode cM_daysIn 46 = .ok (.ireturn, 1) := by decide +kernel
theorem dM_interest_0 : decode cM_interest 0 = .ok (.iload_n 1, 1) := by decide +kernel
theorem dM_interest_1 : decode cM_interest 1 = .ok (.iconst 0, 1) := by decide +kernel
theorem dM_interest_2 : decode cM_interest 2 = .ok (.ldc 133, 2) := by decide +kernel
theorem dM_interest_4 : decode cM_interest 4 = .ok (.invokestatic 134, 3) := by decide +kernel
theorem dM_interest_7 : decode cM_interest 7 = .ok (.ifCond .eq 61, 3) := by decide +kernel
theorem dM_interest_10 : decode cM_interest 10 = .ok (.iload_n 2, 1) := by decide +kernel
theorem dM_interest_11 : decode cM_interest 11 = .ok (.iconst 0, 1) := by decide +kernel
theorem dM_interest_12 : decode cM_interest 12 = .ok (.sipush 30000, 3) := by decide +kernel
theorem dM_interest_15 : decode cM_interest 15 = .ok (.invokestatic 134, 3) := by decide +kernel
theorem dM_interest_18 : decode cM_interest 18 = .ok (.ifCond .eq 50, 3) := by decide +kernel
theorem dM_interest_21 : decode cM_interest 21 = .ok (.iload_n 3, 1) := by decide +kernel
theorem dM_interest_22 : decode cM_interest 22 = .ok (.iconst 0, 1) := by decide +kernel
theorem dM_interest_23 : decode cM_interest 23 = .ok (.sipush 4000, 3) := by decide +kernel
theorem dM_interest_26 : decode cM_interest 26 = .ok (.invokestatic 134, 3) := by decide +kernel
theorem dM_interest_29 : decode cM_interest 29 = .ok (.ifCond .eq 39, 3) := by decide +kernel
theorem dM_interest_32 : decode cM_interest 32 = .ok (.iload 4, 2) := by decide +kernel
theorem dM_interest_34 : decode cM_interest 34 = .ok (.iload_n 3, 1) := by decide +kernel
theorem dM_interest_35 : decode cM_interest 35 = .ok (.sipush 4000, 3) := by decide +kernel
theorem dM_interest_38 : decode cM_interest 38 = .ok (.invokestatic 134, 3) := by decide +kernel
theorem dM_interest_41 : decode cM_interest 41 = .ok (.ifCond .eq 27, 3) := by decide +kernel
theorem dM_interest_44 : decode cM_interest 44 = .ok (.iload 5, 2) := by decide +kernel
theorem dM_interest_46 : decode cM_interest 46 = .ok (.iconst 0, 1) := by decide +kernel
theorem dM_interest_47 : decode cM_interest 47 = .ok (.iconst 3, 1) := by decide +kernel
theorem dM_interest_48 : decode cM_interest 48 = .ok (.invokestatic 134, 3) := by decide +kernel
theorem dM_interest_51 : decode cM_interest 51 = .ok (.ifCond .eq 17, 3) := by decide +kernel
theorem dM_interest_54 : decode cM_interest 54 = .ok (.iload 6, 2) := by decide +kernel
theorem dM_interest_56 : decode cM_interest 56 = .ok (.iconst 0, 1) := by decide +kernel
theorem dM_interest_57 : decode cM_interest 57 = .ok (.iconst 3, 1) := by decide +kernel
theorem dM_interest_58 : decode cM_interest 58 = .ok (.invokestatic 134, 3) := by decide +kernel
theorem dM_interest_61 : decode cM_interest 61 = .ok (.ifCond .eq 7, 3) := by decide +kernel
theorem dM_interest_64 : decode cM_interest 64 = .ok (.iconst 1, 1) := by decide +kernel
theorem dM_interest_65 : decode cM_interest 65 = .ok (.goto 4, 3) := by decide +kernel
theorem dM_interest_68 : decode cM_interest 68 = .ok (.iconst 0, 1) := by decide +kernel
theorem dM_interest_69 : decode cM_interest 69 = .ok (.istore 7, 2) := by decide +kernel
theorem dM_interest_71 : decode cM_interest 71 = .ok (.aload_n 0, 1) := by decide +kernel
theorem dM_interest_72 : decode cM_interest 72 = .ok (.iload 7, 2) := by decide +kernel
theorem dM_interest_74 : decode cM_interest 74 = .ok (.ifCond .eq 7, 3) := by decide +kernel
theorem dM_interest_77 : decode cM_interest 77 = .ok (.iconst 0, 1) := by decide +kernel
theorem dM_interest_78 : decode cM_interest 78 = .ok (.goto 4, 3) := by decide +kernel
theorem dM_interest_81 : decode cM_interest 81 = .ok (.iconst 1, 1) := by decide +kernel
theorem dM_interest_82 : decode cM_interest 82 = .ok (.putfield 77, 3) := by decide +kernel
theorem dM_interest_85 : decode cM_interest 85 = .ok (.iload 7, 2) := by decide +kernel
theorem dM_interest_87 : decode cM_interest 87 = .ok (.ifCond .eq 19, 3) := by decide +kernel
theorem dM_interest_90 : decode cM_interest 90 = .ok (.aload_n 0, 1) := by decide +kernel
theorem dM_interest_91 : decode cM_interest 91 = .ok (.iload_n 1, 1) := by decide +kernel
theorem dM_interest_92 : decode cM_interest 92 = .ok (.iload_n 2, 1) := by decide +kernel
theorem dM_interest_93 : decode cM_interest 93 = .ok (.iload_n 3, 1) := by decide +kernel
theorem dM_interest_94 : decode cM_interest 94 = .ok (.iload 4, 2) := by decide +kernel
theorem dM_interest_96 : decode cM_interest 96 = .ok (.iload 5, 2) := by decide +kernel
theorem dM_interest_98 : decode cM_interest 98 = .ok (.iload 6, 2) := by decide +kernel
theorem dM_interest_100 : decode cM_interest 100 = .ok (.invokevirtual 138, 3) := by decide +kernel
theorem dM_interest_103 : decode cM_interest 103 = .ok (.goto 4, 3) := by decide +kernel
theorem dM_interest_106 : decode cM_interest 106 = .ok (.iconst 0, 1) := by decide +kernel
theorem dM_interest_107 : decode cM_interest 107 = .ok (.ireturn, 1) := by decide +kernel
theorem dM_within_0 : decode cM_within 0 = .ok (.iload_n 0, 1) := by decide +kernel
theorem dM_within_1 : decode cM_within 1 = .ok (.iload_n 1, 1) := by decide +kernel
theorem dM_within_2 : decode cM_within 2 = .ok (.if_icmp .lt 12, 3) := by decide +kernel
theorem dM_within_5 : decode cM_within 5 = .ok (.iload_n 0, 1) := by decide +kernel
theorem dM_within_6 : decode cM_within 6 = .ok (.iload_n 2, 1) := by decide +kernel
theorem dM_within_7 : decode cM_within 7 = .ok (.if_icmp .gt 7, 3) := by decide +kernel
theorem dM_within_10 : decode cM_within 10 = .ok (.iconst 1, 1) := by decide +kernel
theorem dM_within_11 : decode cM_within 11 = .ok (.goto 4, 3) := by decide +kernel
theorem dM_within_14 : decode cM_within 14 = .ok (.iconst 0, 1) := by decide +kernel
theorem dM_within_15 : decode cM_within 15 = .ok (.ireturn, 1) := by decide +kernel
theorem dM_interestOn_0 : decode cM_interestOn 0 = .ok (.iload_n 1, 1) := by decide +kernel
theorem dM_interestOn_1 : decode cM_interestOn 1 = .ok (.i2l, 1) := by decide +kernel
theorem dM_interestOn_2 : decode cM_interestOn 2 = .ok (.iload_n 2, 1) := by decide +kernel
theorem dM_interestOn_3 : decode cM_interestOn 3 = .ok (.i2l, 1) := by decide +kernel
theorem dM_interestOn_4 : decode cM_interestOn 4 = .ok (.lmul, 1) := by decide +kernel
theorem dM_interestOn_5 : decode cM_interestOn 5 = .ok (.aload_n 0, 1) := by decide +kernel
theorem dM_interestOn_6 : decode cM_interestOn 6 = .ok (.iload 5, 2) := by decide +kernel
theorem dM_interestOn_8 : decode cM_interestOn 8 = .ok (.iload_n 3, 1) := by decide +kernel
theorem dM_interestOn_9 : decode cM_interestOn 9 = .ok (.iload 4, 2) := by decide +kernel
theorem dM_interestOn_11 : decode cM_interestOn 11 = .ok (.invokevirtual 119, 3) := by decide +kernel
theorem dM_interestOn_14 : decode cM_interestOn 14 = .ok (.lmul, 1) := by decide +kernel
theorem dM_interestOn_15 : decode cM_interestOn 15 = .ok (.ldc2_w 123, 3) := by decide +kernel
theorem dM_interestOn_18 : decode cM_interestOn 18 = .ok (.iload 5, 2) := by decide +kernel
theorem dM_interestOn_20 : decode cM_interestOn 20 = .ok (.invokestatic 125, 3) := by decide +kernel
theorem dM_interestOn_23 : decode cM_interestOn 23 = .ok (.lmul, 1) := by decide +kernel
theorem dM_interestOn_24 : decode cM_interestOn 24 = .ok (.iload 6, 2) := by decide +kernel
theorem dM_interestOn_26 : decode cM_interestOn 26 = .ok (.invokestatic 129, 3) := by decide +kernel
theorem dM_interestOn_29 : decode cM_interestOn 29 = .ok (.l2i, 1) := by decide +kernel
theorem dM_interestOn_30 : decode cM_interestOn 30 = .ok (.ireturn, 1) := by decide +kernel
theorem dM_span_0 : decode cM_span 0 = .ok (.iload_n 1, 1) := by decide +kernel
theorem dM_span_1 : decode cM_span 1 = .ok (.iconst 2, 1) := by decide +kernel
theorem dM_span_2 : decode cM_span 2 = .ok (.if_icmp .ge 8, 3) := by decide +kernel
theorem dM_span_5 : decode cM_span 5 = .ok (.iload_n 3, 1) := by decide +kernel
theorem dM_span_6 : decode cM_span 6 = .ok (.iload_n 2, 1) := by decide +kernel
theorem dM_span_7 : decode cM_span 7 = .ok (.isub, 1) := by decide +kernel
theorem dM_span_8 : decode cM_span 8 = .ok (.i2l, 1) := by decide +kernel
theorem dM_span_9 : decode cM_span 9 = .ok (.lreturn, 1) := by decide +kernel
theorem dM_span_10 : decode cM_span 10 = .ok (.iload_n 1, 1) := by decide +kernel
theorem dM_span_11 : decode cM_span 11 = .ok (.iconst 2, 1) := by decide +kernel
theorem dM_span_12 : decode cM_span 12 = .ok (.if_icmp .ne 90, 3) := by decide +kernel
theorem dM_span_15 : decode cM_span 15 = .ok (.aload_n 0, 1) := by decide +kernel
theorem dM_span_16 : decode cM_span 16 = .ok (.iload_n 2, 1) := by decide +kernel
theorem dM_span_17 : decode cM_span 17 = .ok (.invokevirtual 98, 3) := by decide +kernel
theorem dM_span_20 : decode cM_span 20 = .ok (.sipush 360, 3) := by decide +kernel
theorem dM_span_23 : decode cM_span 23 = .ok (.aload_n 0, 1) := by decide +kernel
theorem dM_span_24 : decode cM_span 24 = .ok (.getfield 85, 3) := by decide +kernel
theorem dM_span_27 : decode cM_span 27 = .ok (.imul, 1) := by decide +kernel
theorem dM_span_28 : decode cM_span 28 = .ok (.bipush 30, 2) := by decide +kernel
theorem dM_span_30 : decode cM_span 30 = .ok (.aload_n 0, 1) := by decide +kernel
theorem dM_span_31 : decode cM_span 31 = .ok (.getfield 88, 3) := by decide +kernel
theorem dM_span_34 : decode cM_span 34 = .ok (.imul, 1) := by decide +kernel
theorem dM_span_35 : decode cM_span 35 = .ok (.iadd, 1) := by decide +kernel
theorem dM_span_36 : decode cM_span 36 = .ok (.aload_n 0, 1) := by decide +kernel
theorem dM_span_37 : decode cM_span 37 = .ok (.getfield 95, 3) := by decide +kernel
theorem dM_span_40 : decode cM_span 40 = .ok (.bipush 30, 2) := by decide +kernel
theorem dM_span_42 : decode cM_span 42 = .ok (.if_icmp .le 8, 3) := by decide +kernel
theorem dM_span_45 : decode cM_span 45 = .ok (.bipush 30, 2) := by decide +kernel
theorem dM_span_47 : decode cM_span 47 = .ok (.goto 7, 3) := by decide +kernel
theorem dM_span_50 : decode cM_span 50 = .ok (.aload_n 0, 1) := by decide +kernel
theorem dM_span_51 : decode cM_span 51 = .ok (.getfield 95, 3) := by decide +kernel
theorem dM_span_54 : decode cM_span 54 = .ok (.iadd, 1) := by decide +kernel
theorem dM_span_55 : decode cM_span 55 = .ok (.istore 4, 2) := by decide +kernel
theorem dM_span_57 : decode cM_span 57 = .ok (.aload_n 0, 1) := by decide +kernel
theorem dM_span_58 : decode cM_span 58 = .ok (.iload_n 3, 1) := by decide +kernel
theorem dM_span_59 : decode cM_span 59 = .ok (.invokevirtual 98, 3) := by decide +kernel
theorem dM_span_62 : decode cM_span 62 = .ok (.sipush 360, 3) := by decide +kernel
theorem dM_span_65 : decode cM_span 65 = .ok (.aload_n 0, 1) := by decide +kernel
theorem dM_span_66 : decode cM_span 66 = .ok (.getfield 85, 3) := by decide +kernel
theorem dM_span_69 : decode cM_span 69 = .ok (.imul, 1) := by decide +kernel
theorem dM_span_70 : decode cM_span 70 = .ok (.bipush 30, 2) := by decide +kernel
theorem dM_span_72 : decode cM_span 72 = .ok (.aload_n 0, 1) := by decide +kernel
theorem dM_span_73 : decode cM_span 73 = .ok (.getfield 88, 3) := by decide +kernel
theorem dM_span_76 : decode cM_span 76 = .ok (.imul, 1) := by decide +kernel
theorem dM_span_77 : decode cM_span 77 = .ok (.iadd, 1) := by decide +kernel
theorem dM_span_78 : decode cM_span 78 = .ok (.aload_n 0, 1) := by decide +kernel
theorem dM_span_79 : decode cM_span 79 = .ok (.getfield 95, 3) := by decide +kernel
theorem dM_span_82 : decode cM_span 82 = .ok (.bipush 30, 2) := by decide +kernel
theorem dM_span_84 : decode cM_span 84 = .ok (.if_icmp .le 8, 3) := by decide +kernel
theorem dM_span_87 : decode cM_span 87 = .ok (.bipush 30, 2) := by decide +kernel
theorem dM_span_89 : decode cM_span 89 = .ok (.goto 7, 3) := by decide +kernel
theorem dM_span_92 : decode cM_span 92 = .ok (.aload_n 0, 1) := by decide +kernel
theorem dM_span_93 : decode cM_span 93 = .ok (.getfield 95, 3) := by decide +kernel
theorem dM_span_96 : decode cM_span 96 = .ok (.iadd, 1) := by decide +kernel
theorem dM_span_97 : decode cM_span 97 = .ok (.iload 4, 2) := by decide +kernel
theorem dM_span_99 : decode cM_span 99 = .ok (.isub, 1) := by decide +kernel
theorem dM_span_100 : decode cM_span 100 = .ok (.i2l, 1) := by decide +kernel
theorem dM_span_101 : decode cM_span 101 = .ok (.lreturn, 1) := by decide +kernel
theorem dM_span_102 : decode cM_span 102 = .ok (.lconst 0, 1) := by decide +kernel
theorem dM_span_103 : decode cM_span 103 = .ok (.lstore 4, 2) := by decide +kernel
theorem dM_span_105 : decode cM_span 105 = .ok (.iconst 0, 1) := by decide +kernel
theorem dM_span_106 : decode cM_span 106 = .ok (.istore 6, 2) := by decide +kernel
theorem dM_span_108 : decode cM_span 108 = .ok (.sipush 2000, 3) := by decide +kernel
theorem dM_span_111 : decode cM_span 111 = .ok (.istore 7, 2) := by decide +kernel
theorem dM_span_113 : decode cM_span 113 = .ok (.iload 6, 2) := by decide +kernel
theorem dM_span_115 : decode cM_span 115 = .ok (.iload_n 3, 1) := by decide +kernel
theorem dM_span_116 : decode cM_span 116 = .ok (.if_icmp .ge 95, 3) := by decide +kernel
theorem dM_span_119 : decode cM_span 119 = .ok (.iload 6, 2) := by decide +kernel
theorem dM_span_121 : decode cM_span 121 = .ok (.iload 7, 2) := by decide +kernel
theorem dM_span_123 : decode cM_span 123 = .ok (.invokestatic 81, 3) := by decide +kernel
theorem dM_span_126 : decode cM_span 126 = .ok (.iadd, 1) := by decide +kernel
theorem dM_span_127 : decode cM_span 127 = .ok (.istore 8, 2) := by decide +kernel
theorem dM_span_129 : decode cM_span 129 = .ok (.iload 6, 2) := by decide +kernel
theorem dM_span_131 : decode cM_span 131 = .ok (.iload_n 2, 1) := by decide +kernel
theorem dM_span_132 : decode cM_span 132 = .ok (.if_icmp .le 8, 3) := by decide +kernel
theorem dM_span_135 : decode cM_span 135 = .ok (.iload 6, 2) := by decide +kernel
theorem dM_span_137 : decode cM_span 137 = .ok (.goto 4, 3) := by decide +kernel
theorem dM_span_140 : decode cM_span 140 = .ok (.iload_n 2, 1) := by decide +kernel
theorem dM_span_141 : decode cM_span 141 = .ok (.istore 9, 2) := by decide +kernel
theorem dM_span_143 : decode cM_span 143 = .ok (.iload 8, 2) := by decide +kernel
theorem dM_span_145 : decode cM_span 145 = .ok (.iload_n 3, 1) := by decide +kernel
theorem dM_span_146 : decode cM_span 146 = .ok (.if_icmp .ge 8, 3) := by decide +kernel
theorem dM_span_149 : decode cM_span 149 = .ok (.iload 8, 2) := by decide +kernel
theorem dM_span_151 : decode cM_span 151 = .ok (.goto 4, 3) := by decide +kernel
theorem dM_span_154 : decode cM_span 154 = .ok (.iload_n 3, 1) := by decide +kernel
theorem dM_span_155 : decode cM_span 155 = .ok (.istore 10, 2) := by decide +kernel
theorem dM_span_157 : decode cM_span 157 = .ok (.iload 10, 2) := by decide +kernel
theorem dM_span_159 : decode cM_span 159 = .ok (.iload 9, 2) := by decide +kernel
theorem dM_span_161 : decode cM_span 161 = .ok (.if_icmp .le 36, 3) := by decide +kernel
theorem dM_span_164 : decode cM_span 164 = .ok (.lload 4, 2) := by decide +kernel
theorem dM_span_166 : decode cM_span 166 = .ok (.iload 10, 2) := by decide +kernel
theorem dM_span_168 : decode cM_span 168 = .ok (.iload 9, 2) := by decide +kernel
theorem dM_span_170 : decode cM_span 170 = .ok (.isub, 1) := by decide +kernel
theorem dM_span_171 : decode cM_span 171 = .ok (.i2l, 1) := by decide +kernel
theorem dM_span_172 : decode cM_span 172 = .ok (.iload 7, 2) := by decide +kernel
theorem dM_span_174 : decode cM_span 174 = .ok (.invokestatic 81, 3) := by decide +kernel
theorem dM_span_177 : decode cM_span 177 = .ok (.sipush 366, 3) := by decide +kernel
theorem dM_span_180 : decode cM_span 180 = .ok (.if_icmp .ne 9, 3) := by decide +kernel
theorem dM_span_183 : decode cM_span 183 = .ok (.ldc2_w 109, 3) := by decide +kernel
theorem dM_span_186 : decode cM_span 186 = .ok (.goto 6, 3) := by decide +kernel
theorem dM_span_189 : decode cM_span 189 = .ok (.ldc2_w 115, 3) := by decide +kernel
theorem dM_span_192 : decode cM_span 192 = .ok (.lmul, 1) := by decide +kernel
theorem dM_span_193 : decode cM_span 193 = .ok (.ladd, 1) := by decide +kernel
theorem dM_span_194 : decode cM_span 194 = .ok (.goto 5, 3) := by decide +kernel
theorem dM_span_197 : decode cM_span 197 = .ok (.lload 4, 2) := by decide +kernel
theorem dM_span_199 : decode cM_span 199 = .ok (.lstore 4, 2) := by decide +kernel
theorem dM_span_201 : decode cM_span 201 = .ok (.iload 8, 2) := by decide +kernel
theorem dM_span_203 : decode cM_span 203 = .ok (.istore 6, 2) := by decide +kernel
theorem dM_span_205 : decode cM_span 205 = .ok (.iinc 7 1, 3) := by decide +kernel
theorem dM_span_208 : decode cM_span 208 = .ok (.goto (-95), 3) := by decide +kernel
theorem dM_span_211 : decode cM_span 211 = .ok (.lload 4, 2) := by decide +kernel
theorem dM_span_213 : decode cM_span 213 = .ok (.lreturn, 1) := by decide +kernel
theorem dM_under_0 : decode cM_under 0 = .ok (.iload_n 0, 1) := by decide +kernel
theorem dM_under_1 : decode cM_under 1 = .ok (.ifCond .ne 9, 3) := by decide +kernel
theorem dM_under_4 : decode cM_under 4 = .ok (.ldc2_w 109, 3) := by decide +kernel
theorem dM_under_7 : decode cM_under 7 = .ok (.goto 17, 3) := by decide +kernel
theorem dM_under_10 : decode cM_under 10 = .ok (.iload_n 0, 1) := by decide +kernel
theorem dM_under_11 : decode cM_under 11 = .ok (.iconst 3, 1) := by decide +kernel
theorem dM_under_12 : decode cM_under 12 = .ok (.if_icmp .ne 9, 3) := by decide +kernel
theorem dM_under_15 : decode cM_under 15 = .ok (.ldc2_w 111, 3) := by decide +kernel
theorem dM_under_18 : decode cM_under 18 = .ok (.goto 6, 3) := by decide +kernel
theorem dM_under_21 : decode cM_under 21 = .ok (.ldc2_w 113, 3) := by decide +kernel
theorem dM_under_24 : decode cM_under 24 = .ok (.lreturn, 1) := by decide +kernel
theorem dM_rounded_0 : decode cM_rounded 0 = .ok (.lload_n 0, 1) := by decide +kernel
theorem dM_rounded_1 : decode cM_rounded 1 = .ok (.lload_n 2, 1) := by decide +kernel
theorem dM_rounded_2 : decode cM_rounded 2 = .ok (.ldiv, 1) := by decide +kernel
theorem dM_rounded_3 : decode cM_rounded 3 = .ok (.lstore 5, 2) := by decide +kernel
theorem dM_rounded_5 : decode cM_rounded 5 = .ok (.lload_n 0, 1) := by decide +kernel
theorem dM_rounded_6 : decode cM_rounded 6 = .ok (.lload 5, 2) := by decide +kernel
theorem dM_rounded_8 : decode cM_rounded 8 = .ok (.lload_n 2, 1) := by decide +kernel
theorem dM_rounded_9 : decode cM_rounded 9 = .ok (.lmul, 1) := by decide +kernel
theorem dM_rounded_10 : decode cM_rounded 10 = .ok (.lsub, 1) := by decide +kernel
theorem dM_rounded_11 : decode cM_rounded 11 = .ok (.lstore 7, 2) := by decide +kernel
theorem dM_rounded_13 : decode cM_rounded 13 = .ok (.iload 4, 2) := by decide +kernel
theorem dM_rounded_15 : decode cM_rounded 15 = .ok (.iconst 1, 1) := by decide +kernel
theorem dM_rounded_16 : decode cM_rounded 16 = .ok (.if_icmp .ne 18, 3) := by decide +kernel
theorem dM_rounded_19 : decode cM_rounded 19 = .ok (.lload 7, 2) := by decide +kernel
theorem dM_rounded_21 : decode cM_rounded 21 = .ok (.lconst 0, 1) := by decide +kernel
theorem dM_rounded_22 : decode cM_rounded 22 = .ok (.lcmp, 1) := by decide +kernel
theorem dM_rounded_23 : decode cM_rounded 23 = .ok (.ifCond .le 7, 3) := by decide +kernel
theorem dM_rounded_26 : decode cM_rounded 26 = .ok (.iconst 1, 1) := by decide +kernel
theorem dM_rounded_27 : decode cM_rounded 27 = .ok (.goto 76, 3) := by decide +kernel
theorem dM_rounded_30 : decode cM_rounded 30 = .ok (.iconst 0, 1) := by decide +kernel
theorem dM_rounded_31 : decode cM_rounded 31 = .ok (.goto 72, 3) := by decide +kernel
theorem dM_rounded_34 : decode cM_rounded 34 = .ok (.iload 4, 2) := by decide +kernel
theorem dM_rounded_36 : decode cM_rounded 36 = .ok (.iconst 2, 1) := by decide +kernel
theorem dM_rounded_37 : decode cM_rounded 37 = .ok (.if_icmp .ne 22, 3) := by decide +kernel
theorem dM_rounded_40 : decode cM_rounded 40 = .ok (.ldc2_w 117, 3) := by decide +kernel
theorem dM_rounded_43 : decode cM_rounded 43 = .ok (.lload 7, 2) := by decide +kernel
theorem dM_rounded_45 : decode cM_rounded 45 = .ok (.lmul, 1) := by decide +kernel
theorem dM_rounded_46 : decode cM_rounded 46 = .ok (.lload_n 2, 1) := by decide +kernel
theorem dM_rounded_47 : decode cM_rounded 47 = .ok (.lcmp, 1) := by decide +kernel
theorem dM_rounded_48 : decode cM_rounded 48 = .ok (.ifCond .lt 7, 3) := by decide +kernel
theorem dM_rounded_51 : decode cM_rounded 51 = .ok (.iconst 1, 1) := by decide +kernel
theorem dM_rounded_52 : decode cM_rounded 52 = .ok (.goto 51, 3) := by decide +kernel
theorem dM_rounded_55 : decode cM_rounded 55 = .ok (.iconst 0, 1) := by decide +kernel
theorem dM_rounded_56 : decode cM_rounded 56 = .ok (.goto 47, 3) := by decide +kernel
theorem dM_rounded_59 : decode cM_rounded 59 = .ok (.iload 4, 2) := by decide +kernel
theorem dM_rounded_61 : decode cM_rounded 61 = .ok (.iconst 3, 1) := by decide +kernel
theorem dM_rounded_62 : decode cM_rounded 62 = .ok (.if_icmp .ne 40, 3) := by decide +kernel
theorem dM_rounded_65 : decode cM_rounded 65 = .ok (.ldc2_w 117, 3) := by decide +kernel
theorem dM_rounded_68 : decode cM_rounded 68 = .ok (.lload 7, 2) := by decide +kernel
theorem dM_rounded_70 : decode cM_rounded 70 = .ok (.lmul, 1) := by decide +kernel
theorem dM_rounded_71 : decode cM_rounded 71 = .ok (.lload_n 2, 1) := by decide +kernel
theorem dM_rounded_72 : decode cM_rounded 72 = .ok (.lcmp, 1) := by decide +kernel
theorem dM_rounded_73 : decode cM_rounded 73 = .ok (.ifCond .gt 25, 3) := by decide +kernel
theorem dM_rounded_76 : decode cM_rounded 76 = .ok (.ldc2_w 117, 3) := by decide +kernel
theorem dM_rounded_79 : decode cM_rounded 79 = .ok (.lload 7, 2) := by decide +kernel
theorem dM_rounded_81 : decode cM_rounded 81 = .ok (.lmul, 1) := by decide +kernel
theorem dM_rounded_82 : decode cM_rounded 82 = .ok (.lload_n 2, 1) := by decide +kernel
theorem dM_rounded_83 : decode cM_rounded 83 = .ok (.lcmp, 1) := by decide +kernel
theorem dM_rounded_84 : decode cM_rounded 84 = .ok (.ifCond .ne 18, 3) := by decide +kernel
theorem dM_rounded_87 : decode cM_rounded 87 = .ok (.lload 5, 2) := by decide +kernel
theorem dM_rounded_89 : decode cM_rounded 89 = .ok (.ldc2_w 117, 3) := by decide +kernel
theorem dM_rounded_92 : decode cM_rounded 92 = .ok (.lrem, 1) := by decide +kernel
theorem dM_rounded_93 : decode cM_rounded 93 = .ok (.lconst 1, 1) := by decide +kernel
theorem dM_rounded_94 : decode cM_rounded 94 = .ok (.lcmp, 1) := by decide +kernel
theorem dM_rounded_95 : decode cM_rounded 95 = .ok (.ifCond .ne 7, 3) := by decide +kernel
theorem dM_rounded_98 : decode cM_rounded 98 = .ok (.iconst 1, 1) := by decide +kernel
theorem dM_rounded_99 : decode cM_rounded 99 = .ok (.goto 4, 3) := by decide +kernel
theorem dM_rounded_102 : decode cM_rounded 102 = .ok (.iconst 0, 1) := by decide +kernel
theorem dM_rounded_103 : decode cM_rounded 103 = .ok (.istore 9, 2) := by decide +kernel
theorem dM_rounded_105 : decode cM_rounded 105 = .ok (.iload 9, 2) := by decide +kernel
theorem dM_rounded_107 : decode cM_rounded 107 = .ok (.ifCond .eq 10, 3) := by decide +kernel
theorem dM_rounded_110 : decode cM_rounded 110 = .ok (.lload 5, 2) := by decide +kernel
theorem dM_rounded_112 : decode cM_rounded 112 = .ok (.lconst 1, 1) := by decide +kernel
theorem dM_rounded_113 : decode cM_rounded 113 = .ok (.ladd, 1) := by decide +kernel
theorem dM_rounded_114 : decode cM_rounded 114 = .ok (.goto 5, 3) := by decide +kernel
theorem dM_rounded_117 : decode cM_rounded 117 = .ok (.lload 5, 2) := by decide +kernel
theorem dM_rounded_119 : decode cM_rounded 119 = .ok (.lreturn, 1) := by decide +kernel
theorem dM_open_0 : decode cM_open 0 = .ok (.iload_n 1, 1) := by decide +kernel
theorem dM_open_1 : decode cM_open 1 = .ok (.iconst 1, 1) := by decide +kernel
theorem dM_open_2 : decode cM_open 2 = .ok (.ldc 133, 2) := by decide +kernel
theorem dM_open_4 : decode cM_open 4 = .ok (.invokestatic 134, 3) := by decide +kernel
theorem dM_open_7 : decode cM_open 7 = .ok (.ifCond .eq 48, 3) := by decide +kernel
theorem dM_open_10 : decode cM_open 10 = .ok (.iload_n 2, 1) := by decide +kernel
theorem dM_open_11 : decode cM_open 11 = .ok (.iconst 0, 1) := by decide +kernel
theorem dM_open_12 : decode cM_open 12 = .ok (.sipush 30000, 3) := by decide +kernel
theorem dM_open_15 : decode cM_open 15 = .ok (.invokestatic 134, 3) := by decide +kernel
theorem dM_open_18 : decode cM_open 18 = .ok (.ifCond .eq 37, 3) := by decide +kernel
theorem dM_open_21 : decode cM_open 21 = .ok (.iload_n 3, 1) := by decide +kernel
theorem dM_open_22 : decode cM_open 22 = .ok (.iconst 1, 1) := by decide +kernel
theorem dM_open_23 : decode cM_open 23 = .ok (.bipush 36, 2) := by decide +kernel
theorem dM_open_25 : decode cM_open 25 = .ok (.invokestatic 134, 3) := by decide +kernel
theorem dM_open_28 : decode cM_open 28 = .ok (.ifCond .eq 27, 3) := by decide +kernel
theorem dM_open_31 : decode cM_open 31 = .ok (.iload 4, 2) := by decide +kernel
theorem dM_open_33 : decode cM_open 33 = .ok (.iconst 0, 1) := by decide +kernel
theorem dM_open_34 : decode cM_open 34 = .ok (.iconst 3, 1) := by decide +kernel
theorem dM_open_35 : decode cM_open 35 = .ok (.invokestatic 134, 3) := by decide +kernel
theorem dM_open_38 : decode cM_open 38 = .ok (.ifCond .eq 17, 3) := by decide +kernel
theorem dM_open_41 : decode cM_open 41 = .ok (.iload 5, 2) := by decide +kernel
theorem dM_open_43 : decode cM_open 43 = .ok (.iconst 0, 1) := by decide +kernel
theorem dM_open_44 : decode cM_open 44 = .ok (.iconst 3, 1) := by decide +kernel
theorem dM_open_45 : decode cM_open 45 = .ok (.invokestatic 134, 3) := by decide +kernel
theorem dM_open_48 : decode cM_open 48 = .ok (.ifCond .eq 7, 3) := by decide +kernel
theorem dM_open_51 : decode cM_open 51 = .ok (.iconst 1, 1) := by decide +kernel
theorem dM_open_52 : decode cM_open 52 = .ok (.goto 4, 3) := by decide +kernel
theorem dM_open_55 : decode cM_open 55 = .ok (.iconst 0, 1) := by decide +kernel
theorem dM_open_56 : decode cM_open 56 = .ok (.istore 7, 2) := by decide +kernel
theorem dM_open_58 : decode cM_open 58 = .ok (.aload_n 0, 1) := by decide +kernel
theorem dM_open_59 : decode cM_open 59 = .ok (.iload 7, 2) := by decide +kernel
theorem dM_open_61 : decode cM_open 61 = .ok (.ifCond .ne 7, 3) := by decide +kernel
theorem dM_open_64 : decode cM_open 64 = .ok (.iconst 1, 1) := by decide +kernel
theorem dM_open_65 : decode cM_open 65 = .ok (.goto 16, 3) := by decide +kernel
theorem dM_open_68 : decode cM_open 68 = .ok (.aload_n 0, 1) := by decide +kernel
theorem dM_open_69 : decode cM_open 69 = .ok (.getfield 160, 3) := by decide +kernel
theorem dM_open_72 : decode cM_open 72 = .ok (.iconst 3, 1) := by decide +kernel
theorem dM_open_73 : decode cM_open 73 = .ok (.if_icmp .ne 7, 3) := by decide +kernel
theorem dM_open_76 : decode cM_open 76 = .ok (.iconst 2, 1) := by decide +kernel
theorem dM_open_77 : decode cM_open 77 = .ok (.goto 4, 3) := by decide +kernel
theorem dM_open_80 : decode cM_open 80 = .ok (.iconst 0, 1) := by decide +kernel
theorem dM_open_81 : decode cM_open 81 = .ok (.putfield 77, 3) := by decide +kernel
theorem dM_open_84 : decode cM_open 84 = .ok (.aload_n 0, 1) := by decide +kernel
theorem dM_open_85 : decode cM_open 85 = .ok (.getfield 77, 3) := by decide +kernel
theorem dM_open_88 : decode cM_open 88 = .ok (.ifCond .le 5, 3) := by decide +kernel
theorem dM_open_91 : decode cM_open 91 = .ok (.iconst 0, 1) := by decide +kernel
theorem dM_open_92 : decode cM_open 92 = .ok (.ireturn, 1) := by decide +kernel
theorem dM_open_93 : decode cM_open 93 = .ok (.aload_n 0, 1) := by decide +kernel
theorem dM_open_94 : decode cM_open 94 = .ok (.getfield 160, 3) := by decide +kernel
theorem dM_open_97 : decode cM_open 97 = .ok (.istore 8, 2) := by decide +kernel
theorem dM_open_99 : decode cM_open 99 = .ok (.aload_n 0, 1) := by decide +kernel
theorem dM_open_100 : decode cM_open 100 = .ok (.dup, 1) := by decide +kernel
theorem dM_open_101 : decode cM_open 101 = .ok (.getfield 160, 3) := by decide +kernel
theorem dM_open_104 : decode cM_open 104 = .ok (.iconst 1, 1) := by decide +kernel
theorem dM_open_105 : decode cM_open 105 = .ok (.iadd, 1) := by decide +kernel
theorem dM_open_106 : decode cM_open 106 = .ok (.putfield 160, 3) := by decide +kernel
theorem dM_open_109 : decode cM_open 109 = .ok (.aload_n 0, 1) := by decide +kernel
theorem dM_open_110 : decode cM_open 110 = .ok (.getfield 7, 3) := by decide +kernel
theorem dM_open_113 : decode cM_open 113 = .ok (.iload 8, 2) := by decide +kernel
theorem dM_open_115 : decode cM_open 115 = .ok (.aload_n 0, 1) := by decide +kernel
theorem dM_open_116 : decode cM_open 116 = .ok (.getfield 106, 3) := by decide +kernel
theorem dM_open_119 : decode cM_open 119 = .ok (.iastore, 1) := by decide +kernel
theorem dM_open_120 : decode cM_open 120 = .ok (.aload_n 0, 1) := by decide +kernel
theorem dM_open_121 : decode cM_open 121 = .ok (.getfield 38, 3) := by decide +kernel
theorem dM_open_124 : decode cM_open 124 = .ok (.iload 8, 2) := by decide +kernel
theorem dM_open_126 : decode cM_open 126 = .ok (.aload_n 0, 1) := by decide +kernel
theorem dM_open_127 : decode cM_open 127 = .ok (.getfield 106, 3) := by decide +kernel
theorem dM_open_130 : decode cM_open 130 = .ok (.iastore, 1) := by decide +kernel
theorem dM_open_131 : decode cM_open 131 = .ok (.aload_n 0, 1) := by decide +kernel
theorem dM_open_132 : decode cM_open 132 = .ok (.getfield 13, 3) := by decide +kernel
theorem dM_open_135 : decode cM_open 135 = .ok (.iload 8, 2) := by decide +kernel
theorem dM_open_137 : decode cM_open 137 = .ok (.iload_n 2, 1) := by decide +kernel
theorem dM_open_138 : decode cM_open 138 = .ok (.iastore, 1) := by decide +kernel
theorem dM_open_139 : decode cM_open 139 = .ok (.aload_n 0, 1) := by decide +kernel
theorem dM_open_140 : decode cM_open 140 = .ok (.getfield 16, 3) := by decide +kernel
theorem dM_open_143 : decode cM_open 143 = .ok (.iload 8, 2) := by decide +kernel
theorem dM_open_145 : decode cM_open 145 = .ok (.iload_n 3, 1) := by decide +kernel
theorem dM_open_146 : decode cM_open 146 = .ok (.iastore, 1) := by decide +kernel
theorem dM_open_147 : decode cM_open 147 = .ok (.aload_n 0, 1) := by decide +kernel
theorem dM_open_148 : decode cM_open 148 = .ok (.getfield 19, 3) := by decide +kernel
theorem dM_open_151 : decode cM_open 151 = .ok (.iload 8, 2) := by decide +kernel
theorem dM_open_153 : decode cM_open 153 = .ok (.iload 4, 2) := by decide +kernel
theorem dM_open_155 : decode cM_open 155 = .ok (.iastore, 1) := by decide +kernel
theorem dM_open_156 : decode cM_open 156 = .ok (.aload_n 0, 1) := by decide +kernel
theorem dM_open_157 : decode cM_open 157 = .ok (.getfield 22, 3) := by decide +kernel
theorem dM_open_160 : decode cM_open 160 = .ok (.iload 8, 2) := by decide +kernel
theorem dM_open_162 : decode cM_open 162 = .ok (.iload 5, 2) := by decide +kernel
theorem dM_open_164 : decode cM_open 164 = .ok (.iastore, 1) := by decide +kernel
theorem dM_open_165 : decode cM_open 165 = .ok (.aload_n 0, 1) := by decide +kernel
theorem dM_open_166 : decode cM_open 166 = .ok (.getfield 25, 3) := by decide +kernel
theorem dM_open_169 : decode cM_open 169 = .ok (.iload 8, 2) := by decide +kernel
theorem dM_open_171 : decode cM_open 171 = .ok (.iload 6, 2) := by decide +kernel
theorem dM_open_173 : decode cM_open 173 = .ok (.bastore, 1) := by decide +kernel
theorem dM_open_174 : decode cM_open 174 = .ok (.aload_n 0, 1) := by decide +kernel
theorem dM_open_175 : decode cM_open 175 = .ok (.getfield 29, 3) := by decide +kernel
theorem dM_open_178 : decode cM_open 178 = .ok (.iload 8, 2) := by decide +kernel
theorem dM_open_180 : decode cM_open 180 = .ok (.iload_n 1, 1) := by decide +kernel
theorem dM_open_181 : decode cM_open 181 = .ok (.iastore, 1) := by decide +kernel
theorem dM_open_182 : decode cM_open 182 = .ok (.aload_n 0, 1) := by decide +kernel
theorem dM_open_183 : decode cM_open 183 = .ok (.iload 8, 2) := by decide +kernel
theorem dM_open_185 : decode cM_open 185 = .ok (.iload_n 1, 1) := by decide +kernel
theorem dM_open_186 : decode cM_open 186 = .ok (.invokevirtual 163, 3) := by decide +kernel
theorem dM_open_189 : decode cM_open 189 = .ok (.iload 8, 2) := by decide +kernel
theorem dM_open_191 : decode cM_open 191 = .ok (.ireturn, 1) := by decide +kernel
theorem dM_reckon_0 : decode cM_reckon 0 = .ok (.iload_n 2, 1) := by decide +kernel
theorem dM_reckon_1 : decode cM_reckon 1 = .ok (.ifCond .ne 11, 3) := by decide +kernel
theorem dM_reckon_4 : decode cM_reckon 4 = .ok (.aload_n 0, 1) := by decide +kernel
theorem dM_reckon_5 : decode cM_reckon 5 = .ok (.getfield 32, 3) := by decide +kernel
theorem dM_reckon_8 : decode cM_reckon 8 = .ok (.iload_n 1, 1) := by decide +kernel
theorem dM_reckon_9 : decode cM_reckon 9 = .ok (.iconst 0, 1) := by decide +kernel
theorem dM_reckon_10 : decode cM_reckon 10 = .ok (.iastore, 1) := by decide +kernel
theorem dM_reckon_11 : decode cM_reckon 11 = .ok (.return_, 1) := by decide +kernel
theorem dM_reckon_12 : decode cM_reckon 12 = .ok (.aload_n 0, 1) := by decide +kernel
theorem dM_reckon_13 : decode cM_reckon 13 = .ok (.iload_n 1, 1) := by decide +kernel
theorem dM_reckon_14 : decode cM_reckon 14 = .ok (.invokevirtual 152, 3) := by decide +kernel
theorem dM_reckon_17 : decode cM_reckon 17 = .ok (.istore_n 3, 1) := by decide +kernel
theorem dM_reckon_18 : decode cM_reckon 18 = .ok (.iload_n 3, 1) := by decide +kernel
theorem dM_reckon_19 : decode cM_reckon 19 = .ok (.aload_n 0, 1) := by decide +kernel
theorem dM_reckon_20 : decode cM_reckon 20 = .ok (.getfield 16, 3) := by decide +kernel
theorem dM_reckon_23 : decode cM_reckon 23 = .ok (.iload_n 1, 1) := by decide +kernel
theorem dM_reckon_24 : decode cM_reckon 24 = .ok (.iaload, 1) := by decide +kernel
theorem dM_reckon_25 : decode cM_reckon 25 = .ok (.if_icmp .le 4, 3) := by decide +kernel
theorem dM_reckon_28 : decode cM_reckon 28 = .ok (.return_, 1) := by decide +kernel
theorem dM_reckon_29 : decode cM_reckon 29 = .ok (.iconst 0, 1) := by decide +kernel
theorem dM_reckon_30 : decode cM_reckon 30 = .ok (.istore 4, 2) := by decide +kernel
theorem dM_reckon_32 : decode cM_reckon 32 = .ok (.ldc 155, 2) := by decide +kernel
theorem dM_reckon_34 : decode cM_reckon 34 = .ok (.istore 5, 2) := by decide +kernel
theorem dM_reckon_36 : decode cM_reckon 36 = .ok (.iload 5, 2) := by decide +kernel
theorem dM_reckon_38 : decode cM_reckon 38 = .ok (.ifCond .le 39, 3) := by decide +kernel
theorem dM_reckon_41 : decode cM_reckon 41 = .ok (.aload_n 0, 1) := by decide +kernel
theorem dM_reckon_42 : decode cM_reckon 42 = .ok (.iload_n 1, 1) := by decide +kernel
theorem dM_reckon_43 : decode cM_reckon 43 = .ok (.iload_n 2, 1) := by decide +kernel
theorem dM_reckon_44 : decode cM_reckon 44 = .ok (.iload_n 3, 1) := by decide +kernel
theorem dM_reckon_45 : decode cM_reckon 45 = .ok (.iload 4, 2) := by decide +kernel
theorem dM_reckon_47 : decode cM_reckon 47 = .ok (.iload 5, 2) := by decide +kernel
theorem dM_reckon_49 : decode cM_reckon 49 = .ok (.iadd, 1) := by decide +kernel
theorem dM_reckon_50 : decode cM_reckon 50 = .ok (.invokevirtual 156, 3) := by decide +kernel
theorem dM_reckon_53 : decode cM_reckon 53 = .ok (.ifCond .eq 11, 3) := by decide +kernel
theorem dM_reckon_56 : decode cM_reckon 56 = .ok (.iload 4, 2) := by decide +kernel
theorem dM_reckon_58 : decode cM_reckon 58 = .ok (.iload 5, 2) := by decide +kernel
theorem dM_reckon_60 : decode cM_reckon 60 = .ok (.iadd, 1) := by decide +kernel
theorem dM_reckon_61 : decode cM_reckon 61 = .ok (.goto 5, 3) := by decide +kernel
theorem dM_reckon_64 : decode cM_reckon 64 = .ok (.iload 4, 2) := by decide +kernel
theorem dM_reckon_66 : decode cM_reckon 66 = .ok (.istore 4, 2) := by decide +kernel
theorem dM_reckon_68 : decode cM_reckon 68 = .ok (.iload 5, 2) := by decide +kernel
theorem dM_reckon_70 : decode cM_reckon 70 = .ok (.iconst 2, 1) := by decide +kernel
theorem dM_reckon_71 : decode cM_reckon 71 = .ok (.idiv, 1) := by decide +kernel
theorem dM_reckon_72 : decode cM_reckon 72 = .ok (.istore 5, 2) := by decide +kernel
theorem dM_reckon_74 : decode cM_reckon 74 = .ok (.goto (-38), 3) := by decide +kernel
theorem dM_reckon_77 : decode cM_reckon 77 = .ok (.aload_n 0, 1) := by decide +kernel
theorem dM_reckon_78 : decode cM_reckon 78 = .ok (.getfield 32, 3) := by decide +kernel
theorem dM_reckon_81 : decode cM_reckon 81 = .ok (.iload_n 1, 1) := by decide +kernel
theorem dM_reckon_82 : decode cM_reckon 82 = .ok (.iload 4, 2) := by decide +kernel
theorem dM_reckon_84 : decode cM_reckon 84 = .ok (.iconst 1, 1) := by decide +kernel
theorem dM_reckon_85 : decode cM_reckon 85 = .ok (.iadd, 1) := by decide +kernel
theorem dM_reckon_86 : decode cM_reckon 86 = .ok (.iastore, 1) := by decide +kernel
theorem dM_reckon_87 : decode cM_reckon 87 = .ok (.return_, 1) := by decide +kernel
theorem dM_firstBehind_0 : decode cM_firstBehind 0 = .ok (.aload_n 0, 1) := by decide +kernel
theorem dM_firstBehind_1 : decode cM_firstBehind 1 = .ok (.iload_n 1, 1) := by decide +kernel
theorem dM_firstBehind_2 : decode cM_firstBehind 2 = .ok (.invokevirtual 142, 3) := by decide +kernel
theorem dM_firstBehind_5 : decode cM_firstBehind 5 = .ok (.istore_n 2, 1) := by decide +kernel
theorem dM_firstBehind_6 : decode cM_firstBehind 6 = .ok (.iload_n 2, 1) := by decide +kernel
theorem dM_firstBehind_7 : decode cM_firstBehind 7 = .ok (.iconst 1, 1) := by decide +kernel
theorem dM_firstBehind_8 : decode cM_firstBehind 8 = .ok (.if_icmp .lt 21, 3) := by decide +kernel
theorem dM_firstBehind_11 : decode cM_firstBehind 11 = .ok (.aload_n 0, 1) := by decide +kernel
theorem dM_firstBehind_12 : decode cM_firstBehind 12 = .ok (.aload_n 0, 1) := by decide +kernel
theorem dM_firstBehind_13 : decode cM_firstBehind 13 = .ok (.getfield 7, 3) := by decide +kernel
theorem dM_firstBehind_16 : decode cM_firstBehind 16 = .ok (.iload_n 1, 1) := by decide +kernel
theorem dM_firstBehind_17 : decode cM_firstBehind 17 = .ok (.iaload, 1) := by decide +kernel
theorem dM_firstBehind_18 : decode cM_firstBehind 18 = .ok (.iload_n 2, 1) := by decide +kernel
theorem dM_firstBehind_19 : decode cM_firstBehind 19 = .ok (.invokevirtual 145, 3) := by decide +kernel
theorem dM_firstBehind_22 : decode cM_firstBehind 22 = .ok (.aload_n 0, 1) := by decide +kernel
theorem dM_firstBehind_23 : decode cM_firstBehind 23 = .ok (.getfield 106, 3) := by decide +kernel
theorem dM_firstBehind_26 : decode cM_firstBehind 26 = .ok (.if_icmp .gt 9, 3) := by decide +kernel
theorem dM_firstBehind_29 : decode cM_firstBehind 29 = .ok (.iload_n 2, 1) := by decide +kernel
theorem dM_firstBehind_30 : decode cM_firstBehind 30 = .ok (.iconst 1, 1) := by decide +kernel
theorem dM_firstBehind_31 : decode cM_firstBehind 31 = .ok (.iadd, 1) := by decide +kernel
theorem dM_firstBehind_32 : decode cM_firstBehind 32 = .ok (.goto 4, 3) := by decide +kernel
theorem dM_firstBehind_35 : decode cM_firstBehind 35 = .ok (.iload_n 2, 1) := by decide +kernel
theorem dM_firstBehind_36 : decode cM_firstBehind 36 = .ok (.ireturn, 1) := by decide +kernel
theorem dM_monthsSince_0 : decode cM_monthsSince 0 = .ok (.aload_n 0, 1) := by decide +kernel
theorem dM_monthsSince_1 : decode cM_monthsSince 1 = .ok (.aload_n 0, 1) := by decide +kernel
theorem dM_monthsSince_2 : decode cM_monthsSince 2 = .ok (.getfield 106, 3) := by decide +kernel
theorem dM_monthsSince_5 : decode cM_monthsSince 5 = .ok (.invokevirtual 98, 3) := by decide +kernel
theorem dM_monthsSince_8 : decode cM_monthsSince 8 = .ok (.bipush 12, 2) := by decide +kernel
theorem dM_monthsSince_10 : decode cM_monthsSince 10 = .ok (.aload_n 0, 1) := by decide +kernel
theorem dM_monthsSince_11 : decode cM_monthsSince 11 = .ok (.getfield 85, 3) := by decide +kernel
theorem dM_monthsSince_14 : decode cM_monthsSince 14 = .ok (.imul, 1) := by decide +kernel
theorem dM_monthsSince_15 : decode cM_monthsSince 15 = .ok (.aload_n 0, 1) := by decide +kernel
theorem dM_monthsSince_16 : decode cM_monthsSince 16 = .ok (.getfield 88, 3) := by decide +kernel
theorem dM_monthsSince_19 : decode cM_monthsSince 19 = .ok (.iadd, 1) := by decide +kernel
theorem dM_monthsSince_20 : decode cM_monthsSince 20 = .ok (.istore_n 2, 1) := by decide +kernel
theorem dM_monthsSince_21 : decode cM_monthsSince 21 = .ok (.aload_n 0, 1) := by decide +kernel
theorem dM_monthsSince_22 : decode cM_monthsSince 22 = .ok (.aload_n 0, 1) := by decide +kernel
theorem dM_monthsSince_23 : decode cM_monthsSince 23 = .ok (.getfield 7, 3) := by decide +kernel
theorem dM_monthsSince_26 : decode cM_monthsSince 26 = .ok (.iload_n 1, 1) := by decide +kernel
theorem dM_monthsSince_27 : decode cM_monthsSince 27 = .ok (.iaload, 1) := by decide +kernel
theorem dM_monthsSince_28 : decode cM_monthsSince 28 = .ok (.invokevirtual 98, 3) := by decide +kernel
theorem dM_monthsSince_31 : decode cM_monthsSince 31 = .ok (.iload_n 2, 1) := by decide +kernel
theorem dM_monthsSince_32 : decode cM_monthsSince 32 = .ok (.bipush 12, 2) := by decide +kernel
theorem dM_monthsSince_34 : decode cM_monthsSince 34 = .ok (.aload_n 0, 1) := by decide +kernel
theorem dM_monthsSince_35 : decode cM_monthsSince 35 = .ok (.getfield 85, 3) := by decide +kernel
theorem dM_monthsSince_38 : decode cM_monthsSince 38 = .ok (.imul, 1) := by decide +kernel
theorem dM_monthsSince_39 : decode cM_monthsSince 39 = .ok (.isub, 1) := by decide +kernel
theorem dM_monthsSince_40 : decode cM_monthsSince 40 = .ok (.aload_n 0, 1) := by decide +kernel
theorem dM_monthsSince_41 : decode cM_monthsSince 41 = .ok (.getfield 88, 3) := by decide +kernel
theorem dM_monthsSince_44 : decode cM_monthsSince 44 = .ok (.isub, 1) := by decide +kernel
theorem dM_monthsSince_45 : decode cM_monthsSince 45 = .ok (.ireturn, 1) := by decide +kernel
theorem dM_dueDay_0 : decode cM_dueDay 0 = .ok (.aload_n 0, 1) := by decide +kernel
theorem dM_dueDay_1 : decode cM_dueDay 1 = .ok (.iload_n 1, 1) := by decide +kernel
theorem dM_dueDay_2 : decode cM_dueDay 2 = .ok (.invokevirtual 98, 3) := by decide +kernel
theorem dM_dueDay_5 : decode cM_dueDay 5 = .ok (.aload_n 0, 1) := by decide +kernel
theorem dM_dueDay_6 : decode cM_dueDay 6 = .ok (.getfield 88, 3) := by decide +kernel
theorem dM_dueDay_9 : decode cM_dueDay 9 = .ok (.iconst 1, 1) := by decide +kernel
theorem dM_dueDay_10 : decode cM_dueDay 10 = .ok (.isub, 1) := by decide +kernel
theorem dM_dueDay_11 : decode cM_dueDay 11 = .ok (.iload_n 2, 1) := by decide +kernel
theorem dM_dueDay_12 : decode cM_dueDay 12 = .ok (.iadd, 1) := by decide +kernel
theorem dM_dueDay_13 : decode cM_dueDay 13 = .ok (.istore_n 3, 1) := by decide +kernel
theorem dM_dueDay_14 : decode cM_dueDay 14 = .ok (.aload_n 0, 1) := by decide +kernel
theorem dM_dueDay_15 : decode cM_dueDay 15 = .ok (.getfield 85, 3) := by decide +kernel
theorem dM_dueDay_18 : decode cM_dueDay 18 = .ok (.iload_n 3, 1) := by decide +kernel
theorem dM_dueDay_19 : decode cM_dueDay 19 = .ok (.bipush 12, 2) := by decide +kernel
theorem dM_dueDay_21 : decode cM_dueDay 21 = .ok (.idiv, 1) := by decide +kernel
theorem dM_dueDay_22 : decode cM_dueDay 22 = .ok (.iadd, 1) := by decide +kernel
theorem dM_dueDay_23 : decode cM_dueDay 23 = .ok (.istore 4, 2) := by decide +kernel
theorem dM_dueDay_25 : decode cM_dueDay 25 = .ok (.iload_n 3, 1) := by decide +kernel
theorem dM_dueDay_26 : decode cM_dueDay 26 = .ok (.bipush 12, 2) := by decide +kernel
theorem dM_dueDay_28 : decode cM_dueDay 28 = .ok (.irem, 1) := by decide +kernel
theorem dM_dueDay_29 : decode cM_dueDay 29 = .ok (.iconst 1, 1) := by decide +kernel
theorem dM_dueDay_30 : decode cM_dueDay 30 = .ok (.iadd, 1) := by decide +kernel
theorem dM_dueDay_31 : decode cM_dueDay 31 = .ok (.istore 5, 2) := by decide +kernel
theorem dM_dueDay_33 : decode cM_dueDay 33 = .ok (.iload 4, 2) := by decide +kernel
theorem dM_dueDay_35 : decode cM_dueDay 35 = .ok (.iload 5, 2) := by decide +kernel
theorem dM_dueDay_37 : decode cM_dueDay 37 = .ok (.invokestatic 91, 3) := by decide +kernel
theorem dM_dueDay_40 : decode cM_dueDay 40 = .ok (.istore 6, 2) := by decide +kernel
theorem dM_dueDay_42 : decode cM_dueDay 42 = .ok (.iload 4, 2) := by decide +kernel
theorem dM_dueDay_44 : decode cM_dueDay 44 = .ok (.iload 5, 2) := by decide +kernel
theorem dM_dueDay_46 : decode cM_dueDay 46 = .ok (.aload_n 0, 1) := by decide +kernel
theorem dM_dueDay_47 : decode cM_dueDay 47 = .ok (.getfield 95, 3) := by decide +kernel
theorem dM_dueDay_50 : decode cM_dueDay 50 = .ok (.iload 6, 2) := by decide +kernel
theorem dM_dueDay_52 : decode cM_dueDay 52 = .ok (.if_icmp .ge 10, 3) := by decide +kernel
theorem dM_dueDay_55 : decode cM_dueDay 55 = .ok (.aload_n 0, 1) := by decide +kernel
theorem dM_dueDay_56 : decode cM_dueDay 56 = .ok (.getfield 95, 3) := by decide +kernel
theorem dM_dueDay_59 : decode cM_dueDay 59 = .ok (.goto 5, 3) := by decide +kernel
theorem dM_dueDay_62 : decode cM_dueDay 62 = .ok (.iload 6, 2) := by decide +kernel
theorem dM_dueDay_64 : decode cM_dueDay 64 = .ok (.invokestatic 102, 3) := by decide +kernel
theorem dM_dueDay_67 : decode cM_dueDay 67 = .ok (.ireturn, 1) := by decide +kernel
theorem dM_dayOf_0 : decode cM_dayOf 0 = .ok (.iload_n 2, 1) := by decide +kernel
theorem dM_dayOf_1 : decode cM_dayOf 1 = .ok (.iconst 1, 1) := by decide +kernel
theorem dM_dayOf_2 : decode cM_dayOf 2 = .ok (.isub, 1) := by decide +kernel
theorem dM_dayOf_3 : decode cM_dayOf 3 = .ok (.istore_n 3, 1) := by decide +kernel
theorem dM_dayOf_4 : decode cM_dayOf 4 = .ok (.sipush 2000, 3) := by decide +kernel
theorem dM_dayOf_7 : decode cM_dayOf 7 = .ok (.istore 4, 2) := by decide +kernel
theorem dM_dayOf_9 : decode cM_dayOf 9 = .ok (.iload 4, 2) := by decide +kernel
theorem dM_dayOf_11 : decode cM_dayOf 11 = .ok (.iload_n 0, 1) := by decide +kernel
theorem dM_dayOf_12 : decode cM_dayOf 12 = .ok (.if_icmp .ge 17, 3) := by decide +kernel
theorem dM_dayOf_15 : decode cM_dayOf 15 = .ok (.iload_n 3, 1) := by decide +kernel
theorem dM_dayOf_16 : decode cM_dayOf 16 = .ok (.iload 4, 2) := by decide +kernel
theorem dM_dayOf_18 : decode cM_dayOf 18 = .ok (.invokestatic 81, 3) := by decide +kernel
theorem dM_dayOf_21 : decode cM_dayOf 21 = .ok (.iadd, 1) := by decide +kernel
theorem dM_dayOf_22 : decode cM_dayOf 22 = .ok (.istore_n 3, 1) := by decide +kernel
theorem dM_dayOf_23 : decode cM_dayOf 23 = .ok (.iinc 4 1, 3) := by decide +kernel
theorem dM_dayOf_26 : decode cM_dayOf 26 = .ok (.goto (-17), 3) := by decide +kernel
theorem dM_dayOf_29 : decode cM_dayOf 29 = .ok (.iconst 1, 1) := by decide +kernel
theorem dM_dayOf_30 : decode cM_dayOf 30 = .ok (.istore 4, 2) := by decide +kernel
theorem dM_dayOf_32 : decode cM_dayOf 32 = .ok (.iload 4, 2) := by decide +kernel
theorem dM_dayOf_34 : decode cM_dayOf 34 = .ok (.iload_n 1, 1) := by decide +kernel
theorem dM_dayOf_35 : decode cM_dayOf 35 = .ok (.if_icmp .ge 18, 3) := by decide +kernel
theorem dM_dayOf_38 : decode cM_dayOf 38 = .ok (.iload_n 3, 1) := by decide +kernel
theorem dM_dayOf_39 : decode cM_dayOf 39 = .ok (.iload_n 0, 1) := by decide +kernel
theorem dM_dayOf_40 : decode cM_dayOf 40 = .ok (.iload 4, 2) := by decide +kernel
theorem dM_dayOf_42 : decode cM_dayOf 42 = .ok (.invokestatic 91, 3) := by decide +kernel
theorem dM_dayOf_45 : decode cM_dayOf 45 = .ok (.iadd, 1) := by decide +kernel
theorem dM_dayOf_46 : decode cM_dayOf 46 = .ok (.istore_n 3, 1) := by decide +kernel
theorem dM_dayOf_47 : decode cM_dayOf 47 = .ok (.iinc 4 1, 3) := by decide +kernel
theorem dM_dayOf_50 : decode cM_dayOf 50 = .ok (.goto (-18), 3) := by decide +kernel
theorem dM_dayOf_53 : decode cM_dayOf 53 = .ok (.iload_n 3, 1) := by decide +kernel
theorem dM_dayOf_54 : decode cM_dayOf 54 = .ok (.ireturn, 1) := by decide +kernel
theorem dM_leaves_0 : decode cM_leaves 0 = .ok (.iload_n 2, 1) := by decide +kernel
theorem dM_leaves_1 : decode cM_leaves 1 = .ok (.istore 5, 2) := by decide +kernel
theorem dM_leaves_3 : decode cM_leaves 3 = .ok (.aload_n 0, 1) := by decide +kernel
theorem dM_leaves_4 : decode cM_leaves 4 = .ok (.getfield 106, 3) := by decide +kernel
theorem dM_leaves_7 : decode cM_leaves 7 = .ok (.istore 6, 2) := by decide +kernel
theorem dM_leaves_9 : decode cM_leaves 9 = .ok (.iload_n 3, 1) := by decide +kernel
theorem dM_leaves_10 : decode cM_leaves 10 = .ok (.istore 7, 2) := by decide +kernel
theorem dM_leaves_12 : decode cM_leaves 12 = .ok (.iload 7, 2) := by decide +kernel
theorem dM_leaves_14 : decode cM_leaves 14 = .ok (.aload_n 0, 1) := by decide +kernel
theorem dM_leaves_15 : decode cM_leaves 15 = .ok (.getfield 16, 3) := by decide +kernel
theorem dM_leaves_18 : decode cM_leaves 18 = .ok (.iload_n 1, 1) := by decide +kernel
theorem dM_leaves_19 : decode cM_leaves 19 = .ok (.iaload, 1) := by decide +kernel
theorem dM_leaves_20 : decode cM_leaves 20 = .ok (.if_icmp .gt 76, 3) := by decide +kernel
theorem dM_leaves_23 : decode cM_leaves 23 = .ok (.iload 5, 2) := by decide +kernel
theorem dM_leaves_25 : decode cM_leaves 25 = .ok (.ifCond .le 71, 3) := by decide +kernel
theorem dM_leaves_28 : decode cM_leaves 28 = .ok (.aload_n 0, 1) := by decide +kernel
theorem dM_leaves_29 : decode cM_leaves 29 = .ok (.aload_n 0, 1) := by decide +kernel
theorem dM_leaves_30 : decode cM_leaves 30 = .ok (.getfield 7, 3) := by decide +kernel
theorem dM_leaves_33 : decode cM_leaves 33 = .ok (.iload_n 1, 1) := by decide +kernel
theorem dM_leaves_34 : decode cM_leaves 34 = .ok (.iaload, 1) := by decide +kernel
theorem dM_leaves_35 : decode cM_leaves 35 = .ok (.iload 7, 2) := by decide +kernel
theorem dM_leaves_37 : decode cM_leaves 37 = .ok (.invokevirtual 145, 3) := by decide +kernel
theorem dM_leaves_40 : decode cM_leaves 40 = .ok (.istore 8, 2) := by decide +kernel
theorem dM_leaves_42 : decode cM_leaves 42 = .ok (.iload 4, 2) := by decide +kernel
theorem dM_leaves_44 : decode cM_leaves 44 = .ok (.aload_n 0, 1) := by decide +kernel
theorem dM_leaves_45 : decode cM_leaves 45 = .ok (.iload_n 1, 1) := by decide +kernel
theorem dM_leaves_46 : decode cM_leaves 46 = .ok (.iload 5, 2) := by decide +kernel
theorem dM_leaves_48 : decode cM_leaves 48 = .ok (.iload 6, 2) := by decide +kernel
theorem dM_leaves_50 : decode cM_leaves 50 = .ok (.iload 8, 2) := by decide +kernel
theorem dM_leaves_52 : decode cM_leaves 52 = .ok (.invokevirtual 148, 3) := by decide +kernel
theorem dM_leaves_55 : decode cM_leaves 55 = .ok (.isub, 1) := by decide +kernel
theorem dM_leaves_56 : decode cM_leaves 56 = .ok (.istore 9, 2) := by decide +kernel
theorem dM_leaves_58 : decode cM_leaves 58 = .ok (.iload 9, 2) := by decide +kernel
theorem dM_leaves_60 : decode cM_leaves 60 = .ok (.ifCond .gt 8, 3) := by decide +kernel
theorem dM_leaves_63 : decode cM_leaves 63 = .ok (.iload 5, 2) := by decide +kernel
theorem dM_leaves_65 : decode cM_leaves 65 = .ok (.goto 19, 3) := by decide +kernel
theorem dM_leaves_68 : decode cM_leaves 68 = .ok (.iload 9, 2) := by decide +kernel
theorem dM_leaves_70 : decode cM_leaves 70 = .ok (.iload 5, 2) := by decide +kernel
theorem dM_leaves_72 : decode cM_leaves 72 = .ok (.if_icmp .le 7, 3) := by decide +kernel
theorem dM_leaves_75 : decode cM_leaves 75 = .ok (.iconst 0, 1) := by decide +kernel
theorem dM_leaves_76 : decode cM_leaves 76 = .ok (.goto 8, 3) := by decide +kernel
theorem dM_leaves_79 : decode cM_leaves 79 = .ok (.iload 5, 2) := by decide +kernel
theorem dM_leaves_81 : decode cM_leaves 81 = .ok (.iload 9, 2) := by decide +kernel
theorem dM_leaves_83 : decode cM_leaves 83 = .ok (.isub, 1) := by decide +kernel
theorem dM_leaves_84 : decode cM_leaves 84 = .ok (.istore 5, 2) := by decide +kernel
theorem dM_leaves_86 : decode cM_leaves 86 = .ok (.iload 8, 2) := by decide +kernel
theorem dM_leaves_88 : decode cM_leaves 88 = .ok (.istore 6, 2) := by decide +kernel
theorem dM_leaves_90 : decode cM_leaves 90 = .ok (.iinc 7 1, 3) := by decide +kernel
theorem dM_leaves_93 : decode cM_leaves 93 = .ok (.goto (-81), 3) := by decide +kernel
theorem dM_leaves_96 : decode cM_leaves 96 = .ok (.iload 5, 2) := by decide +kernel
theorem dM_leaves_98 : decode cM_leaves 98 = .ok (.ifCond .le 7, 3) := by decide +kernel
theorem dM_leaves_101 : decode cM_leaves 101 = .ok (.iconst 1, 1) := by decide +kernel
theorem dM_leaves_102 : decode cM_leaves 102 = .ok (.goto 4, 3) := by decide +kernel
theorem dM_leaves_105 : decode cM_leaves 105 = .ok (.iconst 0, 1) := by decide +kernel
theorem dM_leaves_106 : decode cM_leaves 106 = .ok (.ireturn, 1) := by decide +kernel
theorem dM_own_0 : decode cM_own 0 = .ok (.aload_n 0, 1) := by decide +kernel
theorem dM_own_1 : decode cM_own 1 = .ok (.iload_n 2, 1) := by decide +kernel
theorem dM_own_2 : decode cM_own 2 = .ok (.aload_n 0, 1) := by decide +kernel
theorem dM_own_3 : decode cM_own 3 = .ok (.getfield 13, 3) := by decide +kernel
theorem dM_own_6 : decode cM_own 6 = .ok (.iload_n 1, 1) := by decide +kernel
theorem dM_own_7 : decode cM_own 7 = .ok (.iaload, 1) := by decide +kernel
theorem dM_own_8 : decode cM_own 8 = .ok (.iload_n 3, 1) := by decide +kernel
theorem dM_own_9 : decode cM_own 9 = .ok (.iload 4, 2) := by decide +kernel
theorem dM_own_11 : decode cM_own 11 = .ok (.aload_n 0, 1) := by decide +kernel
theorem dM_own_12 : decode cM_own 12 = .ok (.getfield 19, 3) := by decide +kernel
theorem dM_own_15 : decode cM_own 15 = .ok (.iload_n 1, 1) := by decide +kernel
theorem dM_own_16 : decode cM_own 16 = .ok (.iaload, 1) := by decide +kernel
theorem dM_own_17 : decode cM_own 17 = .ok (.aload_n 0, 1) := by decide +kernel
theorem dM_own_18 : decode cM_own 18 = .ok (.getfield 22, 3) := by decide +kernel
theorem dM_own_21 : decode cM_own 21 = .ok (.iload_n 1, 1) := by decide +kernel
theorem dM_own_22 : decode cM_own 22 = .ok (.iaload, 1) := by decide +kernel
theorem dM_own_23 : decode cM_own 23 = .ok (.invokevirtual 138, 3) := by decide +kernel
theorem dM_own_26 : decode cM_own 26 = .ok (.ireturn, 1) := by decide +kernel
theorem dM_charge_0 : decode cM_charge 0 = .ok (.aload_n 0, 1) := by decide +kernel
theorem dM_charge_1 : decode cM_charge 1 = .ok (.aload_n 0, 1) := by decide +kernel
theorem dM_charge_2 : decode cM_charge 2 = .ok (.iload_n 1, 1) := by decide +kernel
theorem dM_charge_3 : decode cM_charge 3 = .ok (.invokevirtual 167, 3) := by decide +kernel
theorem dM_charge_6 : decode cM_charge 6 = .ok (.ifCond .eq 7, 3) := by decide +kernel
theorem dM_charge_9 : decode cM_charge 9 = .ok (.iconst 1, 1) := by decide +kernel
theorem dM_charge_10 : decode cM_charge 10 = .ok (.goto 18, 3) := by decide +kernel
theorem dM_charge_13 : decode cM_charge 13 = .ok (.iload_n 2, 1) := by decide +kernel
theorem dM_charge_14 : decode cM_charge 14 = .ok (.iconst 0, 1) := by decide +kernel
theorem dM_charge_15 : decode cM_charge 15 = .ok (.ldc 171, 2) := by decide +kernel
theorem dM_charge_17 : decode cM_charge 17 = .ok (.invokestatic 134, 3) := by decide +kernel
theorem dM_charge_20 : decode cM_charge 20 = .ok (.ifCond .eq 7, 3) := by decide +kernel
theorem dM_charge_23 : decode cM_charge 23 = .ok (.iconst 0, 1) := by decide +kernel
theorem dM_charge_24 : decode cM_charge 24 = .ok (.goto 4, 3) := by decide +kernel
theorem dM_charge_27 : decode cM_charge 27 = .ok (.iconst 2, 1) := by decide +kernel
theorem dM_charge_28 : decode cM_charge 28 = .ok (.putfield 77, 3) := by decide +kernel
theorem dM_charge_31 : decode cM_charge 31 = .ok (.aload_n 0, 1) := by decide +kernel
theorem dM_charge_32 : decode cM_charge 32 = .ok (.getfield 77, 3) := by decide +kernel
theorem dM_charge_35 : decode cM_charge 35 = .ok (.ifCond .ne 20, 3) := by decide +kernel
theorem dM_charge_38 : decode cM_charge 38 = .ok (.aload_n 0, 1) := by decide +kernel
theorem dM_charge_39 : decode cM_charge 39 = .ok (.getfield 44, 3) := by decide +kernel
theorem dM_charge_42 : decode cM_charge 42 = .ok (.iload_n 1, 1) := by decide +kernel
theorem dM_charge_43 : decode cM_charge 43 = .ok (.iload_n 2, 1) := by decide +kernel
theorem dM_charge_44 : decode cM_charge 44 = .ok (.iastore, 1) := by decide +kernel
theorem dM_charge_45 : decode cM_charge 45 = .ok (.aload_n 0, 1) := by decide +kernel
theorem dM_charge_46 : decode cM_charge 46 = .ok (.getfield 47, 3) := by decide +kernel
theorem dM_charge_49 : decode cM_charge 49 = .ok (.iload_n 1, 1) := by decide +kernel
theorem dM_charge_50 : decode cM_charge 50 = .ok (.iload_n 2, 1) := by decide +kernel
theorem dM_charge_51 : decode cM_charge 51 = .ok (.invokestatic 172, 3) := by decide +kernel
theorem dM_charge_54 : decode cM_charge 54 = .ok (.iastore, 1) := by decide +kernel
theorem dM_charge_55 : decode cM_charge 55 = .ok (.return_, 1) := by decide +kernel
theorem dM_none_0 : decode cM_none 0 = .ok (.iload_n 1, 1) := by decide +kernel
theorem dM_none_1 : decode cM_none 1 = .ok (.iconst 0, 1) := by decide +kernel
theorem dM_none_2 : decode cM_none 2 = .ok (.aload_n 0, 1) := by decide +kernel
theorem dM_none_3 : decode cM_none 3 = .ok (.getfield 160, 3) := by decide +kernel
theorem dM_none_6 : decode cM_none 6 = .ok (.iconst 1, 1) := by decide +kernel
theorem dM_none_7 : decode cM_none 7 = .ok (.isub, 1) := by decide +kernel
theorem dM_none_8 : decode cM_none 8 = .ok (.invokestatic 134, 3) := by decide +kernel
theorem dM_none_11 : decode cM_none 11 = .ok (.ifCond .ne 7, 3) := by decide +kernel
theorem dM_none_14 : decode cM_none 14 = .ok (.iconst 1, 1) := by decide +kernel
theorem dM_none_15 : decode cM_none 15 = .ok (.goto 4, 3) := by decide +kernel
theorem dM_none_18 : decode cM_none 18 = .ok (.iconst 0, 1) := by decide +kernel
theorem dM_none_19 : decode cM_none 19 = .ok (.ireturn, 1) := by decide +kernel
theorem dM_twelfth_0 : decode cM_twelfth 0 = .ok (.iload_n 0, 1) := by decide +kernel
theorem dM_twelfth_1 : decode cM_twelfth 1 = .ok (.bipush 11, 2) := by decide +kernel
theorem dM_twelfth_3 : decode cM_twelfth 3 = .ok (.iadd, 1) := by decide +kernel
theorem dM_twelfth_4 : decode cM_twelfth 4 = .ok (.bipush 12, 2) := by decide +kernel
theorem dM_twelfth_6 : decode cM_twelfth 6 = .ok (.idiv, 1) := by decide +kernel
theorem dM_twelfth_7 : decode cM_twelfth 7 = .ok (.ireturn, 1) := by decide +kernel
theorem dM_advance_0 : decode cM_advance 0 = .ok (.aload_n 0, 1) := by decide +kernel
theorem dM_advance_1 : decode cM_advance 1 = .ok (.iload_n 1, 1) := by decide +kernel
theorem dM_advance_2 : decode cM_advance 2 = .ok (.ifCond .ge 7, 3) := by decide +kernel
theorem dM_advance_5 : decode cM_advance 5 = .ok (.iconst 1, 1) := by decide +kernel
theorem dM_advance_6 : decode cM_advance 6 = .ok (.goto 20, 3) := by decide +kernel
theorem dM_advance_9 : decode cM_advance 9 = .ok (.iload_n 1, 1) := by decide +kernel
theorem dM_advance_10 : decode cM_advance 10 = .ok (.sipush 1500, 3) := by decide +kernel
theorem dM_advance_13 : decode cM_advance 13 = .ok (.aload_n 0, 1) := by decide +kernel
theorem dM_advance_14 : decode cM_advance 14 = .ok (.getfield 106, 3) := by decide +kernel
theorem dM_advance_17 : decode cM_advance 17 = .ok (.isub, 1) := by decide +kernel
theorem dM_advance_18 : decode cM_advance 18 = .ok (.if_icmp .le 7, 3) := by decide +kernel
theorem dM_advance_21 : decode cM_advance 21 = .ok (.iconst 2, 1) := by decide +kernel
theorem dM_advance_22 : decode cM_advance 22 = .ok (.goto 4, 3) := by decide +kernel
theorem dM_advance_25 : decode cM_advance 25 = .ok (.iconst 0, 1) := by decide +kernel
theorem dM_advance_26 : decode cM_advance 26 = .ok (.putfield 77, 3) := by decide +kernel
theorem dM_advance_29 : decode cM_advance 29 = .ok (.iconst 0, 1) := by decide +kernel
theorem dM_advance_30 : decode cM_advance 30 = .ok (.istore_n 2, 1) := by decide +kernel
theorem dM_advance_31 : decode cM_advance 31 = .ok (.iconst 0, 1) := by decide +kernel
theorem dM_advance_32 : decode cM_advance 32 = .ok (.istore_n 3, 1) := by decide +kernel
theorem dM_advance_33 : decode cM_advance 33 = .ok (.iload_n 3, 1) := by decide +kernel
theorem dM_advance_34 : decode cM_advance 34 = .ok (.iload_n 1, 1) := by decide +kernel
theorem dM_advance_35 : decode cM_advance 35 = .ok (.if_icmp .ge 53, 3) := by decide +kernel
theorem dM_advance_38 : decode cM_advance 38 = .ok (.aload_n 0, 1) := by decide +kernel
theorem dM_advance_39 : decode cM_advance 39 = .ok (.getfield 77, 3) := by decide +kernel
theorem dM_advance_42 : decode cM_advance 42 = .ok (.ifCond .ne 46, 3) := by decide +kernel
theorem dM_advance_45 : decode cM_advance 45 = .ok (.aload_n 0, 1) := by decide +kernel
theorem dM_advance_46 : decode cM_advance 46 = .ok (.dup, 1) := by decide +kernel
theorem dM_advance_47 : decode cM_advance 47 = .ok (.getfield 106, 3) := by decide +kernel
theorem dM_advance_50 : decode cM_advance 50 = .ok (.iconst 1, 1) := by decide +kernel
theorem dM_advance_51 : decode cM_advance 51 = .ok (.iadd, 1) := by decide +kernel
theorem dM_advance_52 : decode cM_advance 52 = .ok (.putfield 106, 3) := by decide +kernel
theorem dM_advance_55 : decode cM_advance 55 = .ok (.iconst 0, 1) := by decide +kernel
theorem dM_advance_56 : decode cM_advance 56 = .ok (.istore 4, 2) := by decide +kernel
theorem dM_advance_58 : decode cM_advance 58 = .ok (.iload 4, 2) := by decide +kernel
theorem dM_advance_60 : decode cM_advance 60 = .ok (.aload_n 0, 1) := by decide +kernel
theorem dM_advance_61 : decode cM_advance 61 = .ok (.getfield 160, 3) := by decide +kernel
theorem dM_advance_64 : decode cM_advance 64 = .ok (.if_icmp .ge 18, 3) := by decide +kernel
theorem dM_advance_67 : decode cM_advance 67 = .ok (.iload_n 2, 1) := by decide +kernel
theorem dM_advance_68 : decode cM_advance 68 = .ok (.aload_n 0, 1) := by decide +kernel
theorem dM_advance_69 : decode cM_advance 69 = .ok (.iload 4, 2) := by decide +kernel
theorem dM_advance_71 : decode cM_advance 71 = .ok (.invokevirtual 190, 3) := by decide +kernel
theorem dM_advance_74 : decode cM_advance 74 = .ok (.iadd, 1) := by decide +kernel
theorem dM_advance_75 : decode cM_advance 75 = .ok (.istore_n 2, 1) := by decide +kernel
theorem dM_advance_76 : decode cM_advance 76 = .ok (.iinc 4 1, 3) := by decide +kernel
theorem dM_advance_79 : decode cM_advance 79 = .ok (.goto (-21), 3) := by decide +kernel
theorem dM_advance_82 : decode cM_advance 82 = .ok (.iinc 3 1, 3) := by decide +kernel
theorem dM_advance_85 : decode cM_advance 85 = .ok (.goto (-52), 3) := by decide +kernel
theorem dM_advance_88 : decode cM_advance 88 = .ok (.iload_n 2, 1) := by decide +kernel
theorem dM_advance_89 : decode cM_advance 89 = .ok (.ireturn, 1) := by decide +kernel
theorem dM_dayOfLoan_0 : decode cM_dayOfLoan 0 = .ok (.aload_n 0, 1) := by decide +kernel
theorem dM_dayOfLoan_1 : decode cM_dayOfLoan 1 = .ok (.getfield 50, 3) := by decide +kernel
theorem dM_dayOfLoan_4 : decode cM_dayOfLoan 4 = .ok (.iconst 4, 1) := by decide +kernel
theorem dM_dayOfLoan_5 : decode cM_dayOfLoan 5 = .ok (.iload_n 1, 1) := by decide +kernel
theorem dM_dayOfLoan_6 : decode cM_dayOfLoan 6 = .ok (.imul, 1) := by decide +kernel
theorem dM_dayOfLoan_7 : decode cM_dayOfLoan 7 = .ok (.iconst 1, 1) := by decide +kernel
theorem dM_dayOfLoan_8 : decode cM_dayOfLoan 8 = .ok (.iadd, 1) := by decide +kernel
theorem dM_dayOfLoan_9 : decode cM_dayOfLoan 9 = .ok (.iaload, 1) := by decide +kernel
theorem dM_dayOfLoan_10 : decode cM_dayOfLoan 10 = .ok (.i2l, 1) := by decide +kernel
theorem dM_dayOfLoan_11 : decode cM_dayOfLoan 11 = .ok (.aload_n 0, 1) := by decide +kernel
theorem dM_dayOfLoan_12 : decode cM_dayOfLoan 12 = .ok (.getfield 50, 3) := by decide +kernel
theorem dM_dayOfLoan_15 : decode cM_dayOfLoan 15 = .ok (.iconst 4, 1) := by decide +kernel
theorem dM_dayOfLoan_16 : decode cM_dayOfLoan 16 = .ok (.iload_n 1, 1) := by decide +kernel
theorem dM_dayOfLoan_17 : decode cM_dayOfLoan 17 = .ok (.imul, 1) := by decide +kernel
theorem dM_dayOfLoan_18 : decode cM_dayOfLoan 18 = .ok (.iconst 2, 1) := by decide +kernel
theorem dM_dayOfLoan_19 : decode cM_dayOfLoan 19 = .ok (.iadd, 1) := by decide +kernel
theorem dM_dayOfLoan_20 : decode cM_dayOfLoan 20 = .ok (.iaload, 1) := by decide +kernel
theorem dM_dayOfLoan_21 : decode cM_dayOfLoan 21 = .ok (.i2l, 1) := by decide +kernel
theorem dM_dayOfLoan_22 : decode cM_dayOfLoan 22 = .ok (.ladd, 1) := by decide +kernel
theorem dM_dayOfLoan_23 : decode cM_dayOfLoan 23 = .ok (.aload_n 0, 1) := by decide +kernel
theorem dM_dayOfLoan_24 : decode cM_dayOfLoan 24 = .ok (.getfield 50, 3) := by decide +kernel
theorem dM_dayOfLoan_27 : decode cM_dayOfLoan 27 = .ok (.iconst 4, 1) := by decide +kernel
theorem dM_dayOfLoan_28 : decode cM_dayOfLoan 28 = .ok (.iload_n 1, 1) := by decide +kernel
theorem dM_dayOfLoan_29 : decode cM_dayOfLoan 29 = .ok (.imul, 1) := by decide +kernel
theorem dM_dayOfLoan_30 : decode cM_dayOfLoan 30 = .ok (.iconst 3, 1) := by decide +kernel
theorem dM_dayOfLoan_31 : decode cM_dayOfLoan 31 = .ok (.iadd, 1) := by decide +kernel
theorem dM_dayOfLoan_32 : decode cM_dayOfLoan 32 = .ok (.iaload, 1) := by decide +kernel
theorem dM_dayOfLoan_33 : decode cM_dayOfLoan 33 = .ok (.i2l, 1) := by decide +kernel
theorem dM_dayOfLoan_34 : decode cM_dayOfLoan 34 = .ok (.ladd, 1) := by decide +kernel
theorem dM_dayOfLoan_35 : decode cM_dayOfLoan 35 = .ok (.lstore_n 2, 1) := by decide +kernel
theorem dM_dayOfLoan_36 : decode cM_dayOfLoan 36 = .ok (.aload_n 0, 1) := by decide +kernel
theorem dM_dayOfLoan_37 : decode cM_dayOfLoan 37 = .ok (.iload_n 1, 1) := by decide +kernel
theorem dM_dayOfLoan_38 : decode cM_dayOfLoan 38 = .ok (.aload_n 0, 1) := by decide +kernel
theorem dM_dayOfLoan_39 : decode cM_dayOfLoan 39 = .ok (.getfield 106, 3) := by decide +kernel
theorem dM_dayOfLoan_42 : decode cM_dayOfLoan 42 = .ok (.bipush 10, 2) := by decide +kernel
theorem dM_dayOfLoan_44 : decode cM_dayOfLoan 44 = .ok (.isub, 1) := by decide +kernel
theorem dM_dayOfLoan_45 : decode cM_dayOfLoan 45 = .ok (.invokevirtual 175, 3) := by decide +kernel
theorem dM_dayOfLoan_48 : decode cM_dayOfLoan 48 = .ok (.ifCond .eq 40, 3) := by decide +kernel
theorem dM_dayOfLoan_51 : decode cM_dayOfLoan 51 = .ok (.lload_n 2, 1) := by decide +kernel
theorem dM_dayOfLoan_52 : decode cM_dayOfLoan 52 = .ok (.lconst 0, 1) := by decide +kernel
theorem dM_dayOfLoan_53 : decode cM_dayOfLoan 53 = .ok (.lcmp, 1) := by decide +kernel
theorem dM_dayOfLoan_54 : decode cM_dayOfLoan 54 = .ok (.ifCond .le 34, 3) := by decide +kernel
theorem dM_dayOfLoan_57 : decode cM_dayOfLoan 57 = .ok (.aload_n 0, 1) := by decide +kernel
theorem dM_dayOfLoan_58 : decode cM_dayOfLoan 58 = .ok (.getfield 50, 3) := by decide +kernel
theorem dM_dayOfLoan_61 : decode cM_dayOfLoan 61 = .ok (.iconst 4, 1) := by decide +kernel
theorem dM_dayOfLoan_62 : decode cM_dayOfLoan 62 = .ok (.iload_n 1, 1) := by decide +kernel
theorem dM_dayOfLoan_63 : decode cM_dayOfLoan 63 = .ok (.imul, 1) := by decide +kernel
theorem dM_dayOfLoan_64 : decode cM_dayOfLoan 64 = .ok (.aload_n 0, 1) := by decide +kernel
theorem dM_dayOfLoan_65 : decode cM_dayOfLoan 65 = .ok (.getfield 50, 3) := by decide +kernel
theorem dM_dayOfLoan_68 : decode cM_dayOfLoan 68 = .ok (.iconst 4, 1) := by decide +kernel
theorem dM_dayOfLoan_69 : decode cM_dayOfLoan 69 = .ok (.iload_n 1, 1) := by decide +kernel
theorem dM_dayOfLoan_70 : decode cM_dayOfLoan 70 = .ok (.imul, 1) := by decide +kernel
theorem dM_dayOfLoan_71 : decode cM_dayOfLoan 71 = .ok (.iaload, 1) := by decide +kernel
theorem dM_dayOfLoan_72 : decode cM_dayOfLoan 72 = .ok (.lload_n 2, 1) := by decide +kernel
theorem dM_dayOfLoan_73 : decode cM_dayOfLoan 73 = .ok (.ldc2_w 179, 3) := by decide +kernel
theorem dM_dayOfLoan_76 : decode cM_dayOfLoan 76 = .ok (.aload_n 0, 1) := by decide +kernel
theorem dM_dayOfLoan_77 : decode cM_dayOfLoan 77 = .ok (.getfield 22, 3) := by decide +kernel
theorem dM_dayOfLoan_80 : decode cM_dayOfLoan 80 = .ok (.iload_n 1, 1) := by decide +kernel
theorem dM_dayOfLoan_81 : decode cM_dayOfLoan 81 = .ok (.iaload, 1) := by decide +kernel
theorem dM_dayOfLoan_82 : decode cM_dayOfLoan 82 = .ok (.invokestatic 129, 3) := by decide +kernel
theorem dM_dayOfLoan_85 : decode cM_dayOfLoan 85 = .ok (.l2i, 1) := by decide +kernel
theorem dM_dayOfLoan_86 : decode cM_dayOfLoan 86 = .ok (.iadd, 1) := by decide +kernel
theorem dM_dayOfLoan_87 : decode cM_dayOfLoan 87 = .ok (.iastore, 1) := by decide +kernel
theorem dM_dayOfLoan_88 : decode cM_dayOfLoan 88 = .ok (.aload_n 0, 1) := by decide +kernel
theorem dM_dayOfLoan_89 : decode cM_dayOfLoan 89 = .ok (.iload_n 1, 1) := by decide +kernel
theorem dM_dayOfLoan_90 : decode cM_dayOfLoan 90 = .ok (.invokevirtual 181, 3) := by decide +kernel
theorem dM_dayOfLoan_93 : decode cM_dayOfLoan 93 = .ok (.istore 4, 2) := by decide +kernel
theorem dM_dayOfLoan_95 : decode cM_dayOfLoan 95 = .ok (.iload 4, 2) := by decide +kernel
theorem dM_dayOfLoan_97 : decode cM_dayOfLoan 97 = .ok (.ifCond .ne 5, 3) := by decide +kernel
theorem dM_dayOfLoan_100 : decode cM_dayOfLoan 100 = .ok (.iconst 0, 1) := by decide +kernel
theorem dM_dayOfLoan_101 : decode cM_dayOfLoan 101 = .ok (.ireturn, 1) := by decide +kernel
theorem dM_dayOfLoan_102 : decode cM_dayOfLoan 102 = .ok (.iload 4, 2) := by decide +kernel
theorem dM_dayOfLoan_104 : decode cM_dayOfLoan 104 = .ok (.bipush 12, 2) := by decide +kernel
theorem dM_dayOfLoan_106 : decode cM_dayOfLoan 106 = .ok (.irem, 1) := by decide +kernel
theorem dM_dayOfLoan_107 : decode cM_dayOfLoan 107 = .ok (.ifCond .ne 62, 3) := by decide +kernel
theorem dM_dayOfLoan_110 : decode cM_dayOfLoan 110 = .ok (.aload_n 0, 1) := by decide +kernel
theorem dM_dayOfLoan_111 : decode cM_dayOfLoan 111 = .ok (.getfield 41, 3) := by decide +kernel
theorem dM_dayOfLoan_114 : decode cM_dayOfLoan 114 = .ok (.iload_n 1, 1) := by decide +kernel
theorem dM_dayOfLoan_115 : decode cM_dayOfLoan 115 = .ok (.aload_n 0, 1) := by decide +kernel
theorem dM_dayOfLoan_116 : decode cM_dayOfLoan 116 = .ok (.getfield 41, 3) := by decide +kernel
theorem dM_dayOfLoan_119 : decode cM_dayOfLoan 119 = .ok (.iload_n 1, 1) := by decide +kernel
theorem dM_dayOfLoan_120 : decode cM_dayOfLoan 120 = .ok (.iaload, 1) := by decide +kernel
theorem dM_dayOfLoan_121 : decode cM_dayOfLoan 121 = .ok (.aload_n 0, 1) := by decide +kernel
theorem dM_dayOfLoan_122 : decode cM_dayOfLoan 122 = .ok (.getfield 44, 3) := by decide +kernel
theorem dM_dayOfLoan_125 : decode cM_dayOfLoan 125 = .ok (.iload_n 1, 1) := by decide +kernel
theorem dM_dayOfLoan_126 : decode cM_dayOfLoan 126 = .ok (.iaload, 1) := by decide +kernel
theorem dM_dayOfLoan_127 : decode cM_dayOfLoan 127 = .ok (.isub, 1) := by decide +kernel
theorem dM_dayOfLoan_128 : decode cM_dayOfLoan 128 = .ok (.iastore, 1) := by decide +kernel
theorem dM_dayOfLoan_129 : decode cM_dayOfLoan 129 = .ok (.aload_n 0, 1) := by decide +kernel
theorem dM_dayOfLoan_130 : decode cM_dayOfLoan 130 = .ok (.getfield 47, 3) := by decide +kernel
theorem dM_dayOfLoan_133 : decode cM_dayOfLoan 133 = .ok (.iload_n 1, 1) := by decide +kernel
theorem dM_dayOfLoan_134 : decode cM_dayOfLoan 134 = .ok (.aload_n 0, 1) := by decide +kernel
theorem dM_dayOfLoan_135 : decode cM_dayOfLoan 135 = .ok (.getfield 41, 3) := by decide +kernel
theorem dM_dayOfLoan_138 : decode cM_dayOfLoan 138 = .ok (.iload_n 1, 1) := by decide +kernel
theorem dM_dayOfLoan_139 : decode cM_dayOfLoan 139 = .ok (.iaload, 1) := by decide +kernel
theorem dM_dayOfLoan_140 : decode cM_dayOfLoan 140 = .ok (.ifCond .ge 19, 3) := by decide +kernel
theorem dM_dayOfLoan_143 : decode cM_dayOfLoan 143 = .ok (.aload_n 0, 1) := by decide +kernel
theorem dM_dayOfLoan_144 : decode cM_dayOfLoan 144 = .ok (.getfield 44, 3) := by decide +kernel
theorem dM_dayOfLoan_147 : decode cM_dayOfLoan 147 = .ok (.iload_n 1, 1) := by decide +kernel
theorem dM_dayOfLoan_148 : decode cM_dayOfLoan 148 = .ok (.iaload, 1) := by decide +kernel
theorem dM_dayOfLoan_149 : decode cM_dayOfLoan 149 = .ok (.aload_n 0, 1) := by decide +kernel
theorem dM_dayOfLoan_150 : decode cM_dayOfLoan 150 = .ok (.getfield 41, 3) := by decide +kernel
theorem dM_dayOfLoan_153 : decode cM_dayOfLoan 153 = .ok (.iload_n 1, 1) := by decide +kernel
theorem dM_dayOfLoan_154 : decode cM_dayOfLoan 154 = .ok (.iaload, 1) := by decide +kernel
theorem dM_dayOfLoan_155 : decode cM_dayOfLoan 155 = .ok (.isub, 1) := by decide +kernel
theorem dM_dayOfLoan_156 : decode cM_dayOfLoan 156 = .ok (.goto 9, 3) := by decide +kernel
theorem dM_dayOfLoan_159 : decode cM_dayOfLoan 159 = .ok (.aload_n 0, 1) := by decide +kernel
theorem dM_dayOfLoan_160 : decode cM_dayOfLoan 160 = .ok (.getfield 44, 3) := by decide +kernel
theorem dM_dayOfLoan_163 : decode cM_dayOfLoan 163 = .ok (.iload_n 1, 1) := by decide +kernel
theorem dM_dayOfLoan_164 : decode cM_dayOfLoan 164 = .ok (.iaload, 1) := by decide +kernel
theorem dM_dayOfLoan_165 : decode cM_dayOfLoan 165 = .ok (.invokestatic 172, 3) := by decide +kernel
theorem dM_dayOfLoan_168 : decode cM_dayOfLoan 168 = .ok (.iastore, 1) := by decide +kernel
theorem dM_dayOfLoan_169 : decode cM_dayOfLoan 169 = .ok (.aload_n 0, 1) := by decide +kernel
theorem dM_dayOfLoan_170 : decode cM_dayOfLoan 170 = .ok (.iload_n 1, 1) := by decide +kernel
theorem dM_dayOfLoan_171 : decode cM_dayOfLoan 171 = .ok (.invokevirtual 184, 3) := by decide +kernel
theorem dM_dayOfLoan_174 : decode cM_dayOfLoan 174 = .ok (.aload_n 0, 1) := by decide +kernel
theorem dM_dayOfLoan_175 : decode cM_dayOfLoan 175 = .ok (.getfield 29, 3) := by decide +kernel
theorem dM_dayOfLoan_178 : decode cM_dayOfLoan 178 = .ok (.iload_n 1, 1) := by decide +kernel
theorem dM_dayOfLoan_179 : decode cM_dayOfLoan 179 = .ok (.iaload, 1) := by decide +kernel
theorem dM_dayOfLoan_180 : decode cM_dayOfLoan 180 = .ok (.ifCond .ne 14, 3) := by decide +kernel
theorem dM_dayOfLoan_183 : decode cM_dayOfLoan 183 = .ok (.aload_n 0, 1) := by decide +kernel
theorem dM_dayOfLoan_184 : decode cM_dayOfLoan 184 = .ok (.getfield 35, 3) := by decide +kernel
theorem dM_dayOfLoan_187 : decode cM_dayOfLoan 187 = .ok (.iload_n 1, 1) := by decide +kernel
theorem dM_dayOfLoan_188 : decode cM_dayOfLoan 188 = .ok (.iaload, 1) := by decide +kernel
theorem dM_dayOfLoan_189 : decode cM_dayOfLoan 189 = .ok (.ifCond .ne 5, 3) := by decide +kernel
theorem dM_dayOfLoan_192 : decode cM_dayOfLoan 192 = .ok (.iconst 0, 1) := by decide +kernel
theorem dM_dayOfLoan_193 : decode cM_dayOfLoan 193 = .ok (.ireturn, 1) := by decide +kernel
theorem dM_dayOfLoan_194 : decode cM_dayOfLoan 194 = .ok (.aload_n 0, 1) := by decide +kernel
theorem dM_dayOfLoan_195 : decode cM_dayOfLoan 195 = .ok (.iload_n 1, 1) := by decide +kernel
theorem dM_dayOfLoan_196 : decode cM_dayOfLoan 196 = .ok (.iload 4, 2) := by decide +kernel
theorem dM_dayOfLoan_198 : decode cM_dayOfLoan 198 = .ok (.invokevirtual 187, 3) := by decide +kernel
theorem dM_dayOfLoan_201 : decode cM_dayOfLoan 201 = .ok (.iconst 1, 1) := by decide +kernel
theorem dM_dayOfLoan_202 : decode cM_dayOfLoan 202 = .ok (.ireturn, 1) := by decide +kernel
theorem dM_billedOn_0 : decode cM_billedOn 0 = .ok (.iconst 0, 1) := by decide +kernel
theorem dM_billedOn_1 : decode cM_billedOn 1 = .ok (.istore_n 3, 1) := by decide +kernel
theorem dM_billedOn_2 : decode cM_billedOn 2 = .ok (.iconst 0, 1) := by decide +kernel
theorem dM_billedOn_3 : decode cM_billedOn 3 = .ok (.istore 4, 2) := by decide +kernel
theorem dM_billedOn_5 : decode cM_billedOn 5 = .ok (.iload 4, 2) := by decide +kernel
theorem dM_billedOn_7 : decode cM_billedOn 7 = .ok (.aload_n 0, 1) := by decide +kernel
theorem dM_billedOn_8 : decode cM_billedOn 8 = .ok (.getfield 59, 3) := by decide +kernel
theorem dM_billedOn_11 : decode cM_billedOn 11 = .ok (.iload_n 1, 1) := by decide +kernel
theorem dM_billedOn_12 : decode cM_billedOn 12 = .ok (.iaload, 1) := by decide +kernel
theorem dM_billedOn_13 : decode cM_billedOn 13 = .ok (.if_icmp .ge 35, 3) := by decide +kernel
theorem dM_billedOn_16 : decode cM_billedOn 16 = .ok (.iload_n 3, 1) := by decide +kernel
theorem dM_billedOn_17 : decode cM_billedOn 17 = .ok (.ifCond .ne 19, 3) := by decide +kernel
theorem dM_billedOn_20 : decode cM_billedOn 20 = .ok (.aload_n 0, 1) := by decide +kernel
theorem dM_billedOn_21 : decode cM_billedOn 21 = .ok (.getfield 62, 3) := by decide +kernel
theorem dM_billedOn_24 : decode cM_billedOn 24 = .ok (.bipush 60, 2) := by decide +kernel
theorem dM_billedOn_26 : decode cM_billedOn 26 = .ok (.iload_n 1, 1) := by decide +kernel
theorem dM_billedOn_27 : decode cM_billedOn 27 = .ok (.imul, 1) := by decide +kernel
theorem dM_billedOn_28 : decode cM_billedOn 28 = .ok (.iload 4, 2) := by decide +kernel
theorem dM_billedOn_30 : decode cM_billedOn 30 = .ok (.iadd, 1) := by decide +kernel
theorem dM_billedOn_31 : decode cM_billedOn 31 = .ok (.iaload, 1) := by decide +kernel
theorem dM_billedOn_32 : decode cM_billedOn 32 = .ok (.iload_n 2, 1) := by decide +kernel
theorem dM_billedOn_33 : decode cM_billedOn 33 = .ok (.if_icmp .ne 7, 3) := by decide +kernel
theorem dM_billedOn_36 : decode cM_billedOn 36 = .ok (.iconst 1, 1) := by decide +kernel
theorem dM_billedOn_37 : decode cM_billedOn 37 = .ok (.goto 4, 3) := by decide +kernel
theorem dM_billedOn_40 : decode cM_billedOn 40 = .ok (.iconst 0, 1) := by decide +kernel
theorem dM_billedOn_41 : decode cM_billedOn 41 = .ok (.istore_n 3, 1) := by decide +kernel
theorem dM_billedOn_42 : decode cM_billedOn 42 = .ok (.iinc 4 1, 3) := by decide +kernel
theorem dM_billedOn_45 : decode cM_billedOn 45 = .ok (.goto (-40), 3) := by decide +kernel
theorem dM_billedOn_48 : decode cM_billedOn 48 = .ok (.iload_n 3, 1) := by decide +kernel
theorem dM_billedOn_49 : decode cM_billedOn 49 = .ok (.ireturn, 1) := by decide +kernel
theorem dM_whichDue_0 : decode cM_whichDue 0 = .ok (.aload_n 0, 1) := by decide +kernel
theorem dM_whichDue_1 : decode cM_whichDue 1 = .ok (.iload_n 1, 1) := by decide +kernel
theorem dM_whichDue_2 : decode cM_whichDue 2 = .ok (.invokevirtual 142, 3) := by decide +kernel
theorem dM_whichDue_5 : decode cM_whichDue 5 = .ok (.istore_n 2, 1) := by decide +kernel
theorem dM_whichDue_6 : decode cM_whichDue 6 = .ok (.iload_n 2, 1) := by decide +kernel
theorem dM_whichDue_7 : decode cM_whichDue 7 = .ok (.ifCond .le 25, 3) := by decide +kernel
theorem dM_whichDue_10 : decode cM_whichDue 10 = .ok (.aload_n 0, 1) := by decide +kernel
theorem dM_whichDue_11 : decode cM_whichDue 11 = .ok (.aload_n 0, 1) := by decide +kernel
theorem dM_whichDue_12 : decode cM_whichDue 12 = .ok (.getfield 7, 3) := by decide +kernel
theorem dM_whichDue_15 : decode cM_whichDue 15 = .ok (.iload_n 1, 1) := by decide +kernel
theorem dM_whichDue_16 : decode cM_whichDue 16 = .ok (.iaload, 1) := by decide +kernel
theorem dM_whichDue_17 : decode cM_whichDue 17 = .ok (.iload_n 2, 1) := by decide +kernel
theorem dM_whichDue_18 : decode cM_whichDue 18 = .ok (.invokevirtual 145, 3) := by decide +kernel
theorem dM_whichDue_21 : decode cM_whichDue 21 = .ok (.aload_n 0, 1) := by decide +kernel
theorem dM_whichDue_22 : decode cM_whichDue 22 = .ok (.getfield 106, 3) := by decide +kernel
theorem dM_whichDue_25 : decode cM_whichDue 25 = .ok (.if_icmp .ne 7, 3) := by decide +kernel
theorem dM_whichDue_28 : decode cM_whichDue 28 = .ok (.iload_n 2, 1) := by decide +kernel
theorem dM_whichDue_29 : decode cM_whichDue 29 = .ok (.goto 4, 3) := by decide +kernel
theorem dM_whichDue_32 : decode cM_whichDue 32 = .ok (.iconst 0, 1) := by decide +kernel
theorem dM_whichDue_33 : decode cM_whichDue 33 = .ok (.ireturn, 1) := by decide +kernel
theorem dM_accrue_0 : decode cM_accrue 0 = .ok (.aload_n 0, 1) := by decide +kernel
theorem dM_accrue_1 : decode cM_accrue 1 = .ok (.getfield 35, 3) := by decide +kernel
theorem dM_accrue_4 : decode cM_accrue 4 = .ok (.iload_n 1, 1) := by decide +kernel
theorem dM_accrue_5 : decode cM_accrue 5 = .ok (.aload_n 0, 1) := by decide +kernel
theorem dM_accrue_6 : decode cM_accrue 6 = .ok (.getfield 35, 3) := by decide +kernel
theorem dM_accrue_9 : decode cM_accrue 9 = .ok (.iload_n 1, 1) := by decide +kernel
theorem dM_accrue_10 : decode cM_accrue 10 = .ok (.iaload, 1) := by decide +kernel
theorem dM_accrue_11 : decode cM_accrue 11 = .ok (.aload_n 0, 1) := by decide +kernel
theorem dM_accrue_12 : decode cM_accrue 12 = .ok (.iload_n 1, 1) := by decide +kernel
theorem dM_accrue_13 : decode cM_accrue 13 = .ok (.aload_n 0, 1) := by decide +kernel
theorem dM_accrue_14 : decode cM_accrue 14 = .ok (.getfield 29, 3) := by decide +kernel
theorem dM_accrue_17 : decode cM_accrue 17 = .ok (.iload_n 1, 1) := by decide +kernel
theorem dM_accrue_18 : decode cM_accrue 18 = .ok (.iaload, 1) := by decide +kernel
theorem dM_accrue_19 : decode cM_accrue 19 = .ok (.aload_n 0, 1) := by decide +kernel
theorem dM_accrue_20 : decode cM_accrue 20 = .ok (.getfield 38, 3) := by decide +kernel
theorem dM_accrue_23 : decode cM_accrue 23 = .ok (.iload_n 1, 1) := by decide +kernel
theorem dM_accrue_24 : decode cM_accrue 24 = .ok (.iaload, 1) := by decide +kernel
theorem dM_accrue_25 : decode cM_accrue 25 = .ok (.aload_n 0, 1) := by decide +kernel
theorem dM_accrue_26 : decode cM_accrue 26 = .ok (.getfield 106, 3) := by decide +kernel
theorem dM_accrue_29 : decode cM_accrue 29 = .ok (.invokevirtual 148, 3) := by decide +kernel
theorem dM_accrue_32 : decode cM_accrue 32 = .ok (.iadd, 1) := by decide +kernel
theorem dM_accrue_33 : decode cM_accrue 33 = .ok (.iastore, 1) := by decide +kernel
theorem dM_accrue_34 : decode cM_accrue 34 = .ok (.aload_n 0, 1) := by decide +kernel
theorem dM_accrue_35 : decode cM_accrue 35 = .ok (.getfield 38, 3) := by decide +kernel
theorem dM_accrue_38 : decode cM_accrue 38 = .ok (.iload_n 1, 1) := by decide +kernel
theorem dM_accrue_39 : decode cM_accrue 39 = .ok (.aload_n 0, 1) := by decide +kernel
theorem dM_accrue_40 : decode cM_accrue 40 = .ok (.getfield 106, 3) := by decide +kernel
theorem dM_accrue_43 : decode cM_accrue 43 = .ok (.iastore, 1) := by decide +kernel
theorem dM_accrue_44 : decode cM_accrue 44 = .ok (.return_, 1) := by decide +kernel
theorem dM_makeBill_0 : decode cM_makeBill 0 = .ok (.bipush 60, 2) := by decide +kernel
theorem dM_makeBill_2 : decode cM_makeBill 2 = .ok (.iload_n 1, 1) := by decide +kernel
theorem dM_makeBill_3 : decode cM_makeBill 3 = .ok (.imul, 1) := by decide +kernel
theorem dM_makeBill_4 : decode cM_makeBill 4 = .ok (.aload_n 0, 1) := by decide +kernel
theorem dM_makeBill_5 : decode cM_makeBill 5 = .ok (.getfield 59, 3) := by decide +kernel
theorem dM_makeBill_8 : decode cM_makeBill 8 = .ok (.iload_n 1, 1) := by decide +kernel
theorem dM_makeBill_9 : decode cM_makeBill 9 = .ok (.iaload, 1) := by decide +kernel
theorem dM_makeBill_10 : decode cM_makeBill 10 = .ok (.iadd, 1) := by decide +kernel
theorem dM_makeBill_11 : decode cM_makeBill 11 = .ok (.istore_n 3, 1) := by decide +kernel
theorem dM_makeBill_12 : decode cM_makeBill 12 = .ok (.aload_n 0, 1) := by decide +kernel
theorem dM_makeBill_13 : decode cM_makeBill 13 = .ok (.getfield 35, 3) := by decide +kernel
theorem dM_makeBill_16 : decode cM_makeBill 16 = .ok (.iload_n 1, 1) := by decide +kernel
theorem dM_makeBill_17 : decode cM_makeBill 17 = .ok (.iaload, 1) := by decide +kernel
theorem dM_makeBill_18 : decode cM_makeBill 18 = .ok (.istore 4, 2) := by decide +kernel
theorem dM_makeBill_20 : decode cM_makeBill 20 = .ok (.aload_n 0, 1) := by decide +kernel
theorem dM_makeBill_21 : decode cM_makeBill 21 = .ok (.getfield 29, 3) := by decide +kernel
theorem dM_makeBill_24 : decode cM_makeBill 24 = .ok (.iload_n 1, 1) := by decide +kernel
theorem dM_makeBill_25 : decode cM_makeBill 25 = .ok (.iaload, 1) := by decide +kernel
theorem dM_makeBill_26 : decode cM_makeBill 26 = .ok (.aload_n 0, 1) := by decide +kernel
theorem dM_makeBill_27 : decode cM_makeBill 27 = .ok (.getfield 50, 3) := by decide +kernel
theorem dM_makeBill_30 : decode cM_makeBill 30 = .ok (.iconst 4, 1) := by decide +kernel
theorem dM_makeBill_31 : decode cM_makeBill 31 = .ok (.iload_n 1, 1) := by decide +kernel
theorem dM_makeBill_32 : decode cM_makeBill 32 = .ok (.imul, 1) := by decide +kernel
theorem dM_makeBill_33 : decode cM_makeBill 33 = .ok (.iconst 2, 1) := by decide +kernel
theorem dM_makeBill_34 : decode cM_makeBill 34 = .ok (.iadd, 1) := by decide +kernel
theorem dM_makeBill_35 : decode cM_makeBill 35 = .ok (.iaload, 1) := by decide +kernel
theorem dM_makeBill_36 : decode cM_makeBill 36 = .ok (.isub, 1) := by decide +kernel
theorem dM_makeBill_37 : decode cM_makeBill 37 = .ok (.istore 5, 2) := by decide +kernel
theorem dM_makeBill_39 : decode cM_makeBill 39 = .ok (.aload_n 0, 1) := by decide +kernel
theorem dM_makeBill_40 : decode cM_makeBill 40 = .ok (.getfield 32, 3) := by decide +kernel
theorem dM_makeBill_43 : decode cM_makeBill 43 = .ok (.iload_n 1, 1) := by decide +kernel
theorem dM_makeBill_44 : decode cM_makeBill 44 = .ok (.iaload, 1) := by decide +kernel
theorem dM_makeBill_45 : decode cM_makeBill 45 = .ok (.iload 4, 2) := by decide +kernel
theorem dM_makeBill_47 : decode cM_makeBill 47 = .ok (.if_icmp .le 15, 3) := by decide +kernel
theorem dM_makeBill_50 : decode cM_makeBill 50 = .ok (.aload_n 0, 1) := by decide +kernel
theorem dM_makeBill_51 : decode cM_makeBill 51 = .ok (.getfield 32, 3) := by decide +kernel
theorem dM_makeBill_54 : decode cM_makeBill 54 = .ok (.iload_n 1, 1) := by decide +kernel
theorem dM_makeBill_55 : decode cM_makeBill 55 = .ok (.iaload, 1) := by decide +kernel
theorem dM_makeBill_56 : decode cM_makeBill 56 = .ok (.iload 4, 2) := by decide +kernel
theorem dM_makeBill_58 : decode cM_makeBill 58 = .ok (.isub, 1) := by decide +kernel
theorem dM_makeBill_59 : decode cM_makeBill 59 = .ok (.goto 4, 3) := by decide +kernel
theorem dM_makeBill_62 : decode cM_makeBill 62 = .ok (.iconst 0, 1) := by decide +kernel
theorem dM_makeBill_63 : decode cM_makeBill 63 = .ok (.istore 6, 2) := by decide +kernel
theorem dM_makeBill_65 : decode cM_makeBill 65 = .ok (.iload 6, 2) := by decide +kernel
theorem dM_makeBill_67 : decode cM_makeBill 67 = .ok (.iload 5, 2) := by decide +kernel
theorem dM_makeBill_69 : decode cM_makeBill 69 = .ok (.if_icmp .gt 13, 3) := by decide +kernel
theorem dM_makeBill_72 : decode cM_makeBill 72 = .ok (.iload_n 2, 1) := by decide +kernel
theorem dM_makeBill_73 : decode cM_makeBill 73 = .ok (.aload_n 0, 1) := by decide +kernel
theorem dM_makeBill_74 : decode cM_makeBill 74 = .ok (.getfield 16, 3) := by decide +kernel
theorem dM_makeBill_77 : decode cM_makeBill 77 = .ok (.iload_n 1, 1) := by decide +kernel
theorem dM_makeBill_78 : decode cM_makeBill 78 = .ok (.iaload, 1) := by decide +kernel
theorem dM_makeBill_79 : decode cM_makeBill 79 = .ok (.if_icmp .lt 8, 3) := by decide +kernel
theorem dM_makeBill_82 : decode cM_makeBill 82 = .ok (.iload 5, 2) := by decide +kernel
theorem dM_makeBill_84 : decode cM_makeBill 84 = .ok (.goto 5, 3) := by decide +kernel
theorem dM_makeBill_87 : decode cM_makeBill 87 = .ok (.iload 6, 2) := by decide +kernel
theorem dM_makeBill_89 : decode cM_makeBill 89 = .ok (.istore 6, 2) := by decide +kernel
theorem dM_makeBill_91 : decode cM_makeBill 91 = .ok (.aload_n 0, 1) := by decide +kernel
theorem dM_makeBill_92 : decode cM_makeBill 92 = .ok (.getfield 29, 3) := by decide +kernel
theorem dM_makeBill_95 : decode cM_makeBill 95 = .ok (.iload_n 1, 1) := by decide +kernel
theorem dM_makeBill_96 : decode cM_makeBill 96 = .ok (.iaload, 1) := by decide +kernel
theorem dM_makeBill_97 : decode cM_makeBill 97 = .ok (.ifCond .le 12, 3) := by decide +kernel
theorem dM_makeBill_100 : decode cM_makeBill 100 = .ok (.aload_n 0, 1) := by decide +kernel
theorem dM_makeBill_101 : decode cM_makeBill 101 = .ok (.getfield 47, 3) := by decide +kernel
theorem dM_makeBill_104 : decode cM_makeBill 104 = .ok (.iload_n 1, 1) := by decide +kernel
theorem dM_makeBill_105 : decode cM_makeBill 105 = .ok (.iaload, 1) := by decide +kernel
theorem dM_makeBill_106 : decode cM_makeBill 106 = .ok (.goto 4, 3) := by decide +kernel
theorem dM_makeBill_109 : decode cM_makeBill 109 = .ok (.iconst 0, 1) := by decide +kernel
theorem dM_makeBill_110 : decode cM_makeBill 110 = .ok (.istore 7, 2) := by decide +kernel
theorem dM_makeBill_112 : decode cM_makeBill 112 = .ok (.aload_n 0, 1) := by decide +kernel
theorem dM_makeBill_113 : decode cM_makeBill 113 = .ok (.getfield 62, 3) := by decide +kernel
theorem dM_makeBill_116 : decode cM_makeBill 116 = .ok (.iload_n 3, 1) := by decide +kernel
theorem dM_makeBill_117 : decode cM_makeBill 117 = .ok (.aload_n 0, 1) := by decide +kernel
theorem dM_makeBill_118 : decode cM_makeBill 118 = .ok (.getfield 106, 3) := by decide +kernel
theorem dM_makeBill_121 : decode cM_makeBill 121 = .ok (.iastore, 1) := by decide +kernel
theorem dM_makeBill_122 : decode cM_makeBill 122 = .ok (.aload_n 0, 1) := by decide +kernel
theorem dM_makeBill_123 : decode cM_makeBill 123 = .ok (.getfield 65, 3) := by decide +kernel
theorem dM_makeBill_126 : decode cM_makeBill 126 = .ok (.iload_n 3, 1) := by decide +kernel
theorem dM_makeBill_127 : decode cM_makeBill 127 = .ok (.aload_n 0, 1) := by decide +kernel
theorem dM_makeBill_128 : decode cM_makeBill 128 = .ok (.getfield 29, 3) := by decide +kernel
theorem dM_makeBill_131 : decode cM_makeBill 131 = .ok (.iload_n 1, 1) := by decide +kernel
theorem dM_makeBill_132 : decode cM_makeBill 132 = .ok (.iaload, 1) := by decide +kernel
theorem dM_makeBill_133 : decode cM_makeBill 133 = .ok (.iastore, 1) := by decide +kernel
theorem dM_makeBill_134 : decode cM_makeBill 134 = .ok (.aload_n 0, 1) := by decide +kernel
theorem dM_makeBill_135 : decode cM_makeBill 135 = .ok (.getfield 68, 3) := by decide +kernel
theorem dM_makeBill_138 : decode cM_makeBill 138 = .ok (.iload_n 3, 1) := by decide +kernel
theorem dM_makeBill_139 : decode cM_makeBill 139 = .ok (.iload 4, 2) := by decide +kernel
theorem dM_makeBill_141 : decode cM_makeBill 141 = .ok (.iastore, 1) := by decide +kernel
theorem dM_makeBill_142 : decode cM_makeBill 142 = .ok (.aload_n 0, 1) := by decide +kernel
theorem dM_makeBill_143 : decode cM_makeBill 143 = .ok (.getfield 71, 3) := by decide +kernel
theorem dM_makeBill_146 : decode cM_makeBill 146 = .ok (.iload_n 3, 1) := by decide +kernel
theorem dM_makeBill_147 : decode cM_makeBill 147 = .ok (.iload 6, 2) := by decide +kernel
theorem dM_makeBill_149 : decode cM_makeBill 149 = .ok (.iastore, 1) := by decide +kernel
theorem dM_makeBill_150 : decode cM_makeBill 150 = .ok (.aload_n 0, 1) := by decide +kernel
theorem dM_makeBill_151 : decode cM_makeBill 151 = .ok (.getfield 74, 3) := by decide +kernel
theorem dM_makeBill_154 : decode cM_makeBill 154 = .ok (.iload_n 3, 1) := by decide +kernel
theorem dM_makeBill_155 : decode cM_makeBill 155 = .ok (.iload 7, 2) := by decide +kernel
theorem dM_makeBill_157 : decode cM_makeBill 157 = .ok (.iastore, 1) := by decide +kernel
theorem dM_makeBill_158 : decode cM_makeBill 158 = .ok (.aload_n 0, 1) := by decide +kernel
theorem dM_makeBill_159 : decode cM_makeBill 159 = .ok (.getfield 59, 3) := by decide +kernel
theorem dM_makeBill_162 : decode cM_makeBill 162 = .ok (.iload_n 1, 1) := by decide +kernel
theorem dM_makeBill_163 : decode cM_makeBill 163 = .ok (.aload_n 0, 1) := by decide +kernel
theorem dM_makeBill_164 : decode cM_makeBill 164 = .ok (.getfield 59, 3) := by decide +kernel
theorem dM_makeBill_167 : decode cM_makeBill 167 = .ok (.iload_n 1, 1) := by decide +kernel
theorem dM_makeBill_168 : decode cM_makeBill 168 = .ok (.iaload, 1) := by decide +kernel
theorem dM_makeBill_169 : decode cM_makeBill 169 = .ok (.iconst 1, 1) := by decide +kernel
theorem dM_makeBill_170 : decode cM_makeBill 170 = .ok (.iadd, 1) := by decide +kernel
theorem dM_makeBill_171 : decode cM_makeBill 171 = .ok (.iastore, 1) := by decide +kernel
theorem dM_makeBill_172 : decode cM_makeBill 172 = .ok (.aload_n 0, 1) := by decide +kernel
theorem dM_makeBill_173 : decode cM_makeBill 173 = .ok (.getfield 35, 3) := by decide +kernel
theorem dM_makeBill_176 : decode cM_makeBill 176 = .ok (.iload_n 1, 1) := by decide +kernel
theorem dM_makeBill_177 : decode cM_makeBill 177 = .ok (.iconst 0, 1) := by decide +kernel
theorem dM_makeBill_178 : decode cM_makeBill 178 = .ok (.iastore, 1) := by decide +kernel
theorem dM_makeBill_179 : decode cM_makeBill 179 = .ok (.aload_n 0, 1) := by decide +kernel
theorem dM_makeBill_180 : decode cM_makeBill 180 = .ok (.getfield 50, 3) := by decide +kernel
theorem dM_makeBill_183 : decode cM_makeBill 183 = .ok (.iconst 4, 1) := by decide +kernel
theorem dM_makeBill_184 : decode cM_makeBill 184 = .ok (.iload_n 1, 1) := by decide +kernel
theorem dM_makeBill_185 : decode cM_makeBill 185 = .ok (.imul, 1) := by decide +kernel
theorem dM_makeBill_186 : decode cM_makeBill 186 = .ok (.iconst 1, 1) := by decide +kernel
theorem dM_makeBill_187 : decode cM_makeBill 187 = .ok (.iadd, 1) := by decide +kernel
theorem dM_makeBill_188 : decode cM_makeBill 188 = .ok (.aload_n 0, 1) := by decide +kernel
theorem dM_makeBill_189 : decode cM_makeBill 189 = .ok (.getfield 50, 3) := by decide +kernel
theorem dM_makeBill_192 : decode cM_makeBill 192 = .ok (.iconst 4, 1) := by decide +kernel
theorem dM_makeBill_193 : decode cM_makeBill 193 = .ok (.iload_n 1, 1) := by decide +kernel
theorem dM_makeBill_194 : decode cM_makeBill 194 = .ok (.imul, 1) := by decide +kernel
theorem dM_makeBill_195 : decode cM_makeBill 195 = .ok (.iconst 1, 1) := by decide +kernel
theorem dM_makeBill_196 : decode cM_makeBill 196 = .ok (.iadd, 1) := by decide +kernel
theorem dM_makeBill_197 : decode cM_makeBill 197 = .ok (.iaload, 1) := by decide +kernel
theorem dM_makeBill_198 : decode cM_makeBill 198 = .ok (.iload 4, 2) := by decide +kernel
theorem dM_makeBill_200 : decode cM_makeBill 200 = .ok (.iadd, 1) := by decide +kernel
theorem dM_makeBill_201 : decode cM_makeBill 201 = .ok (.iastore, 1) := by decide +kernel
theorem dM_makeBill_202 : decode cM_makeBill 202 = .ok (.aload_n 0, 1) := by decide +kernel
theorem dM_makeBill_203 : decode cM_makeBill 203 = .ok (.getfield 50, 3) := by decide +kernel
theorem dM_makeBill_206 : decode cM_makeBill 206 = .ok (.iconst 4, 1) := by decide +kernel
theorem dM_makeBill_207 : decode cM_makeBill 207 = .ok (.iload_n 1, 1) := by decide +kernel
theorem dM_makeBill_208 : decode cM_makeBill 208 = .ok (.imul, 1) := by decide +kernel
theorem dM_makeBill_209 : decode cM_makeBill 209 = .ok (.iconst 2, 1) := by decide +kernel
theorem dM_makeBill_210 : decode cM_makeBill 210 = .ok (.iadd, 1) := by decide +kernel
theorem dM_makeBill_211 : decode cM_makeBill 211 = .ok (.aload_n 0, 1) := by decide +kernel
theorem dM_makeBill_212 : decode cM_makeBill 212 = .ok (.getfield 50, 3) := by decide +kernel
theorem dM_makeBill_215 : decode cM_makeBill 215 = .ok (.iconst 4, 1) := by decide +kernel
theorem dM_makeBill_216 : decode cM_makeBill 216 = .ok (.iload_n 1, 1) := by decide +kernel
theorem dM_makeBill_217 : decode cM_makeBill 217 = .ok (.imul, 1) := by decide +kernel
theorem dM_makeBill_218 : decode cM_makeBill 218 = .ok (.iconst 2, 1) := by decide +kernel
theorem dM_makeBill_219 : decode cM_makeBill 219 = .ok (.iadd, 1) := by decide +kernel
theorem dM_makeBill_220 : decode cM_makeBill 220 = .ok (.iaload, 1) := by decide +kernel
theorem dM_makeBill_221 : decode cM_makeBill 221 = .ok (.iload 6, 2) := by decide +kernel
theorem dM_makeBill_223 : decode cM_makeBill 223 = .ok (.iadd, 1) := by decide +kernel
theorem dM_makeBill_224 : decode cM_makeBill 224 = .ok (.iastore, 1) := by decide +kernel
theorem dM_makeBill_225 : decode cM_makeBill 225 = .ok (.aload_n 0, 1) := by decide +kernel
theorem dM_makeBill_226 : decode cM_makeBill 226 = .ok (.getfield 50, 3) := by decide +kernel
theorem dM_makeBill_229 : decode cM_makeBill 229 = .ok (.iconst 4, 1) := by decide +kernel
theorem dM_makeBill_230 : decode cM_makeBill 230 = .ok (.iload_n 1, 1) := by decide +kernel
theorem dM_makeBill_231 : decode cM_makeBill 231 = .ok (.imul, 1) := by decide +kernel
theorem dM_makeBill_232 : decode cM_makeBill 232 = .ok (.iconst 3, 1) := by decide +kernel
theorem dM_makeBill_233 : decode cM_makeBill 233 = .ok (.iadd, 1) := by decide +kernel
theorem dM_makeBill_234 : decode cM_makeBill 234 = .ok (.aload_n 0, 1) := by decide +kernel
theorem dM_makeBill_235 : decode cM_makeBill 235 = .ok (.getfield 50, 3) := by decide +kernel
theorem dM_makeBill_238 : decode cM_makeBill 238 = .ok (.iconst 4, 1) := by decide +kernel
theorem dM_makeBill_239 : decode cM_makeBill 239 = .ok (.iload_n 1, 1) := by decide +kernel
theorem dM_makeBill_240 : decode cM_makeBill 240 = .ok (.imul, 1) := by decide +kernel
theorem dM_makeBill_241 : decode cM_makeBill 241 = .ok (.iconst 3, 1) := by decide +kernel
theorem dM_makeBill_242 : decode cM_makeBill 242 = .ok (.iadd, 1) := by decide +kernel
theorem dM_makeBill_243 : decode cM_makeBill 243 = .ok (.iaload, 1) := by decide +kernel
theorem dM_makeBill_244 : decode cM_makeBill 244 = .ok (.iload 7, 2) := by decide +kernel
theorem dM_makeBill_246 : decode cM_makeBill 246 = .ok (.iadd, 1) := by decide +kernel
theorem dM_makeBill_247 : decode cM_makeBill 247 = .ok (.iastore, 1) := by decide +kernel
theorem dM_makeBill_248 : decode cM_makeBill 248 = .ok (.return_, 1) := by decide +kernel
theorem dM_pay_0 : decode cM_pay 0 = .ok (.aload_n 0, 1) := by decide +kernel
theorem dM_pay_1 : decode cM_pay 1 = .ok (.aload_n 0, 1) := by decide +kernel
theorem dM_pay_2 : decode cM_pay 2 = .ok (.iload_n 1, 1) := by decide +kernel
theorem dM_pay_3 : decode cM_pay 3 = .ok (.invokevirtual 167, 3) := by decide +kernel
theorem dM_pay_6 : decode cM_pay 6 = .ok (.ifCond .eq 7, 3) := by decide +kernel
theorem dM_pay_9 : decode cM_pay 9 = .ok (.iconst 1, 1) := by decide +kernel
theorem dM_pay_10 : decode cM_pay 10 = .ok (.goto 18, 3) := by decide +kernel
theorem dM_pay_13 : decode cM_pay 13 = .ok (.iload_n 2, 1) := by decide +kernel
theorem dM_pay_14 : decode cM_pay 14 = .ok (.iconst 1, 1) := by decide +kernel
theorem dM_pay_15 : decode cM_pay 15 = .ok (.ldc 193, 2) := by decide +kernel
theorem dM_pay_17 : decode cM_pay 17 = .ok (.invokestatic 134, 3) := by decide +kernel
theorem dM_pay_20 : decode cM_pay 20 = .ok (.ifCond .eq 7, 3) := by decide +kernel
theorem dM_pay_23 : decode cM_pay 23 = .ok (.iconst 0, 1) := by decide +kernel
theorem dM_pay_24 : decode cM_pay 24 = .ok (.goto 4, 3) := by decide +kernel
theorem dM_pay_27 : decode cM_pay 27 = .ok (.iconst 2, 1) := by decide +kernel
theorem dM_pay_28 : decode cM_pay 28 = .ok (.putfield 77, 3) := by decide +kernel
theorem dM_pay_31 : decode cM_pay 31 = .ok (.aload_n 0, 1) := by decide +kernel
theorem dM_pay_32 : decode cM_pay 32 = .ok (.getfield 77, 3) := by decide +kernel
theorem dM_pay_35 : decode cM_pay 35 = .ok (.ifCond .le 5, 3) := by decide +kernel
theorem dM_pay_38 : decode cM_pay 38 = .ok (.iconst 0, 1) := by decide +kernel
theorem dM_pay_39 : decode cM_pay 39 = .ok (.ireturn, 1) := by decide +kernel
theorem dM_pay_40 : decode cM_pay 40 = .ok (.iload_n 2, 1) := by decide +kernel
theorem dM_pay_41 : decode cM_pay 41 = .ok (.istore_n 3, 1) := by decide +kernel
theorem dM_pay_42 : decode cM_pay 42 = .ok (.iconst 0, 1) := by decide +kernel
theorem dM_pay_43 : decode cM_pay 43 = .ok (.istore 4, 2) := by decide +kernel
theorem dM_pay_45 : decode cM_pay 45 = .ok (.iload 4, 2) := by decide +kernel
theorem dM_pay_47 : decode cM_pay 47 = .ok (.iconst 4, 1) := by decide +kernel
theorem dM_pay_48 : decode cM_pay 48 = .ok (.if_icmp .ge 71, 3) := by decide +kernel
theorem dM_pay_51 : decode cM_pay 51 = .ok (.aload_n 0, 1) := by decide +kernel
theorem dM_pay_52 : decode cM_pay 52 = .ok (.getfield 50, 3) := by decide +kernel
theorem dM_pay_55 : decode cM_pay 55 = .ok (.iconst 4, 1) := by decide +kernel
theorem dM_pay_56 : decode cM_pay 56 = .ok (.iload_n 1, 1) := by decide +kernel
theorem dM_pay_57 : decode cM_pay 57 = .ok (.imul, 1) := by decide +kernel
theorem dM_pay_58 : decode cM_pay 58 = .ok (.iload 4, 2) := by decide +kernel
theorem dM_pay_60 : decode cM_pay 60 = .ok (.iadd, 1) := by decide +kernel
theorem dM_pay_61 : decode cM_pay 61 = .ok (.iaload, 1) := by decide +kernel
theorem dM_pay_62 : decode cM_pay 62 = .ok (.istore 5, 2) := by decide +kernel
theorem dM_pay_64 : decode cM_pay 64 = .ok (.iload 5, 2) := by decide +kernel
theorem dM_pay_66 : decode cM_pay 66 = .ok (.iload_n 3, 1) := by decide +kernel
theorem dM_pay_67 : decode cM_pay 67 = .ok (.if_icmp .ge 8, 3) := by decide +kernel
theorem dM_pay_70 : decode cM_pay 70 = .ok (.iload 5, 2) := by decide +kernel
theorem dM_pay_72 : decode cM_pay 72 = .ok (.goto 4, 3) := by decide +kernel
theorem dM_pay_75 : decode cM_pay 75 = .ok (.iload_n 3, 1) := by decide +kernel
theorem dM_pay_76 : decode cM_pay 76 = .ok (.istore 6, 2) := by decide +kernel
theorem dM_pay_78 : decode cM_pay 78 = .ok (.aload_n 0, 1) := by decide +kernel
theorem dM_pay_79 : decode cM_pay 79 = .ok (.getfield 56, 3) := by decide +kernel
theorem dM_pay_82 : decode cM_pay 82 = .ok (.bipush 6, 2) := by decide +kernel
theorem dM_pay_84 : decode cM_pay 84 = .ok (.iload_n 1, 1) := by decide +kernel
theorem dM_pay_85 : decode cM_pay 85 = .ok (.imul, 1) := by decide +kernel
theorem dM_pay_86 : decode cM_pay 86 = .ok (.iload 4, 2) := by decide +kernel
theorem dM_pay_88 : decode cM_pay 88 = .ok (.iadd, 1) := by decide +kernel
theorem dM_pay_89 : decode cM_pay 89 = .ok (.iload 6, 2) := by decide +kernel
theorem dM_pay_91 : decode cM_pay 91 = .ok (.iastore, 1) := by decide +kernel
theorem dM_pay_92 : decode cM_pay 92 = .ok (.aload_n 0, 1) := by decide +kernel
theorem dM_pay_93 : decode cM_pay 93 = .ok (.getfield 50, 3) := by decide +kernel
theorem dM_pay_96 : decode cM_pay 96 = .ok (.iconst 4, 1) := by decide +kernel
theorem dM_pay_97 : decode cM_pay 97 = .ok (.iload_n 1, 1) := by decide +kernel
theorem dM_pay_98 : decode cM_pay 98 = .ok (.imul, 1) := by decide +kernel
theorem dM_pay_99 : decode cM_pay 99 = .ok (.iload 4, 2) := by decide +kernel
theorem dM_pay_101 : decode cM_pay 101 = .ok (.iadd, 1) := by decide +kernel
theorem dM_pay_102 : decode cM_pay 102 = .ok (.iload 5, 2) := by decide +kernel
theorem dM_pay_104 : decode cM_pay 104 = .ok (.iload 6, 2) := by decide +kernel
theorem dM_pay_106 : decode cM_pay 106 = .ok (.isub, 1) := by decide +kernel
theorem dM_pay_107 : decode cM_pay 107 = .ok (.iastore, 1) := by decide +kernel
theorem dM_pay_108 : decode cM_pay 108 = .ok (.iload_n 3, 1) := by decide +kernel
theorem dM_pay_109 : decode cM_pay 109 = .ok (.iload 6, 2) := by decide +kernel
theorem dM_pay_111 : decode cM_pay 111 = .ok (.isub, 1) := by decide +kernel
theorem dM_pay_112 : decode cM_pay 112 = .ok (.istore_n 3, 1) := by decide +kernel
theorem dM_pay_113 : decode cM_pay 113 = .ok (.iinc 4 1, 3) := by decide +kernel
theorem dM_pay_116 : decode cM_pay 116 = .ok (.goto (-71), 3) := by decide +kernel
theorem dM_pay_119 : decode cM_pay 119 = .ok (.aload_n 0, 1) := by decide +kernel
theorem dM_pay_120 : decode cM_pay 120 = .ok (.getfield 29, 3) := by decide +kernel
theorem dM_pay_123 : decode cM_pay 123 = .ok (.iload_n 1, 1) := by decide +kernel
theorem dM_pay_124 : decode cM_pay 124 = .ok (.iaload, 1) := by decide +kernel
theorem dM_pay_125 : decode cM_pay 125 = .ok (.aload_n 0, 1) := by decide +kernel
theorem dM_pay_126 : decode cM_pay 126 = .ok (.getfield 56, 3) := by decide +kernel
theorem dM_pay_129 : decode cM_pay 129 = .ok (.bipush 6, 2) := by decide +kernel
theorem dM_pay_131 : decode cM_pay 131 = .ok (.iload_n 1, 1) := by decide +kernel
theorem dM_pay_132 : decode cM_pay 132 = .ok (.imul, 1) := by decide +kernel
theorem dM_pay_133 : decode cM_pay 133 = .ok (.iconst 2, 1) := by decide +kernel
theorem dM_pay_134 : decode cM_pay 134 = .ok (.iadd, 1) := by decide +kernel
theorem dM_pay_135 : decode cM_pay 135 = .ok (.iaload, 1) := by decide +kernel
theorem dM_pay_136 : decode cM_pay 136 = .ok (.isub, 1) := by decide +kernel
theorem dM_pay_137 : decode cM_pay 137 = .ok (.istore 4, 2) := by decide +kernel
theorem dM_pay_139 : decode cM_pay 139 = .ok (.iload_n 3, 1) := by decide +kernel
theorem dM_pay_140 : decode cM_pay 140 = .ok (.iload 4, 2) := by decide +kernel
theorem dM_pay_142 : decode cM_pay 142 = .ok (.if_icmp .ge 7, 3) := by decide +kernel
theorem dM_pay_145 : decode cM_pay 145 = .ok (.iload_n 3, 1) := by decide +kernel
theorem dM_pay_146 : decode cM_pay 146 = .ok (.goto 5, 3) := by decide +kernel
theorem dM_pay_149 : decode cM_pay 149 = .ok (.iload 4, 2) := by decide +kernel
theorem dM_pay_151 : decode cM_pay 151 = .ok (.istore 5, 2) := by decide +kernel
theorem dM_pay_153 : decode cM_pay 153 = .ok (.aload_n 0, 1) := by decide +kernel
theorem dM_pay_154 : decode cM_pay 154 = .ok (.getfield 56, 3) := by decide +kernel
theorem dM_pay_157 : decode cM_pay 157 = .ok (.bipush 6, 2) := by decide +kernel
theorem dM_pay_159 : decode cM_pay 159 = .ok (.iload_n 1, 1) := by decide +kernel
theorem dM_pay_160 : decode cM_pay 160 = .ok (.imul, 1) := by decide +kernel
theorem dM_pay_161 : decode cM_pay 161 = .ok (.iconst 4, 1) := by decide +kernel
theorem dM_pay_162 : decode cM_pay 162 = .ok (.iadd, 1) := by decide +kernel
theorem dM_pay_163 : decode cM_pay 163 = .ok (.iload 5, 2) := by decide +kernel
theorem dM_pay_165 : decode cM_pay 165 = .ok (.iastore, 1) := by decide +kernel
theorem dM_pay_166 : decode cM_pay 166 = .ok (.aload_n 0, 1) := by decide +kernel
theorem dM_pay_167 : decode cM_pay 167 = .ok (.getfield 56, 3) := by decide +kernel
theorem dM_pay_170 : decode cM_pay 170 = .ok (.bipush 6, 2) := by decide +kernel
theorem dM_pay_172 : decode cM_pay 172 = .ok (.iload_n 1, 1) := by decide +kernel
theorem dM_pay_173 : decode cM_pay 173 = .ok (.imul, 1) := by decide +kernel
theorem dM_pay_174 : decode cM_pay 174 = .ok (.iconst 5, 1) := by decide +kernel
theorem dM_pay_175 : decode cM_pay 175 = .ok (.iadd, 1) := by decide +kernel
theorem dM_pay_176 : decode cM_pay 176 = .ok (.iload_n 3, 1) := by decide +kernel
theorem dM_pay_177 : decode cM_pay 177 = .ok (.iload 5, 2) := by decide +kernel
theorem dM_pay_179 : decode cM_pay 179 = .ok (.isub, 1) := by decide +kernel
theorem dM_pay_180 : decode cM_pay 180 = .ok (.iastore, 1) := by decide +kernel
theorem dM_pay_181 : decode cM_pay 181 = .ok (.aload_n 0, 1) := by decide +kernel
theorem dM_pay_182 : decode cM_pay 182 = .ok (.getfield 53, 3) := by decide +kernel
theorem dM_pay_185 : decode cM_pay 185 = .ok (.iload_n 1, 1) := by decide +kernel
theorem dM_pay_186 : decode cM_pay 186 = .ok (.iconst 1, 1) := by decide +kernel
theorem dM_pay_187 : decode cM_pay 187 = .ok (.bastore, 1) := by decide +kernel
theorem dM_pay_188 : decode cM_pay 188 = .ok (.iload 5, 2) := by decide +kernel
theorem dM_pay_190 : decode cM_pay 190 = .ok (.aload_n 0, 1) := by decide +kernel
theorem dM_pay_191 : decode cM_pay 191 = .ok (.getfield 56, 3) := by decide +kernel
theorem dM_pay_194 : decode cM_pay 194 = .ok (.bipush 6, 2) := by decide +kernel
theorem dM_pay_196 : decode cM_pay 196 = .ok (.iload_n 1, 1) := by decide +kernel
theorem dM_pay_197 : decode cM_pay 197 = .ok (.imul, 1) := by decide +kernel
theorem dM_pay_198 : decode cM_pay 198 = .ok (.iconst 2, 1) := by decide +kernel
theorem dM_pay_199 : decode cM_pay 199 = .ok (.iadd, 1) := by decide +kernel
theorem dM_pay_200 : decode cM_pay 200 = .ok (.iaload, 1) := by decide +kernel
theorem dM_pay_201 : decode cM_pay 201 = .ok (.iadd, 1) := by decide +kernel
theorem dM_pay_202 : decode cM_pay 202 = .ok (.ifCond .le 8, 3) := by decide +kernel
theorem dM_pay_205 : decode cM_pay 205 = .ok (.aload_n 0, 1) := by decide +kernel
theorem dM_pay_206 : decode cM_pay 206 = .ok (.iload_n 1, 1) := by decide +kernel
theorem dM_pay_207 : decode cM_pay 207 = .ok (.invokevirtual 184, 3) := by decide +kernel
theorem dM_pay_210 : decode cM_pay 210 = .ok (.aload_n 0, 1) := by decide +kernel
theorem dM_pay_211 : decode cM_pay 211 = .ok (.getfield 29, 3) := by decide +kernel
theorem dM_pay_214 : decode cM_pay 214 = .ok (.iload_n 1, 1) := by decide +kernel
theorem dM_pay_215 : decode cM_pay 215 = .ok (.iload 4, 2) := by decide +kernel
theorem dM_pay_217 : decode cM_pay 217 = .ok (.iload 5, 2) := by decide +kernel
theorem dM_pay_219 : decode cM_pay 219 = .ok (.isub, 1) := by decide +kernel
theorem dM_pay_220 : decode cM_pay 220 = .ok (.iastore, 1) := by decide +kernel
theorem dM_pay_221 : decode cM_pay 221 = .ok (.aload_n 0, 1) := by decide +kernel
theorem dM_pay_222 : decode cM_pay 222 = .ok (.getfield 41, 3) := by decide +kernel
theorem dM_pay_225 : decode cM_pay 225 = .ok (.iload_n 1, 1) := by decide +kernel
theorem dM_pay_226 : decode cM_pay 226 = .ok (.aload_n 0, 1) := by decide +kernel
theorem dM_pay_227 : decode cM_pay 227 = .ok (.getfield 41, 3) := by decide +kernel
theorem dM_pay_230 : decode cM_pay 230 = .ok (.iload_n 1, 1) := by decide +kernel
theorem dM_pay_231 : decode cM_pay 231 = .ok (.iaload, 1) := by decide +kernel
theorem dM_pay_232 : decode cM_pay 232 = .ok (.aload_n 0, 1) := by decide +kernel
theorem dM_pay_233 : decode cM_pay 233 = .ok (.getfield 56, 3) := by decide +kernel
theorem dM_pay_236 : decode cM_pay 236 = .ok (.bipush 6, 2) := by decide +kernel
theorem dM_pay_238 : decode cM_pay 238 = .ok (.iload_n 1, 1) := by decide +kernel
theorem dM_pay_239 : decode cM_pay 239 = .ok (.imul, 1) := by decide +kernel
theorem dM_pay_240 : decode cM_pay 240 = .ok (.iconst 3, 1) := by decide +kernel
theorem dM_pay_241 : decode cM_pay 241 = .ok (.iadd, 1) := by decide +kernel
theorem dM_pay_242 : decode cM_pay 242 = .ok (.iaload, 1) := by decide +kernel
theorem dM_pay_243 : decode cM_pay 243 = .ok (.iadd, 1) := by decide +kernel
theorem dM_pay_244 : decode cM_pay 244 = .ok (.iastore, 1) := by decide +kernel
theorem dM_pay_245 : decode cM_pay 245 = .ok (.iload 5, 2) := by decide +kernel
theorem dM_pay_247 : decode cM_pay 247 = .ok (.ifCond .le 34, 3) := by decide +kernel
theorem dM_pay_250 : decode cM_pay 250 = .ok (.aload_n 0, 1) := by decide +kernel
theorem dM_pay_251 : decode cM_pay 251 = .ok (.getfield 25, 3) := by decide +kernel
theorem dM_pay_254 : decode cM_pay 254 = .ok (.iload_n 1, 1) := by decide +kernel
theorem dM_pay_255 : decode cM_pay 255 = .ok (.baload, 1) := by decide +kernel
theorem dM_pay_256 : decode cM_pay 256 = .ok (.ifCond .ne 25, 3) := by decide +kernel
theorem dM_pay_259 : decode cM_pay 259 = .ok (.aload_n 0, 1) := by decide +kernel
theorem dM_pay_260 : decode cM_pay 260 = .ok (.iload_n 1, 1) := by decide +kernel
theorem dM_pay_261 : decode cM_pay 261 = .ok (.aload_n 0, 1) := by decide +kernel
theorem dM_pay_262 : decode cM_pay 262 = .ok (.getfield 29, 3) := by decide +kernel
theorem dM_pay_265 : decode cM_pay 265 = .ok (.iload_n 1, 1) := by decide +kernel
theorem dM_pay_266 : decode cM_pay 266 = .ok (.iaload, 1) := by decide +kernel
theorem dM_pay_267 : decode cM_pay 267 = .ok (.aload_n 0, 1) := by decide +kernel
theorem dM_pay_268 : decode cM_pay 268 = .ok (.getfield 50, 3) := by decide +kernel
theorem dM_pay_271 : decode cM_pay 271 = .ok (.iconst 4, 1) := by decide +kernel
theorem dM_pay_272 : decode cM_pay 272 = .ok (.iload_n 1, 1) := by decide +kernel
theorem dM_pay_273 : decode cM_pay 273 = .ok (.imul, 1) := by decide +kernel
theorem dM_pay_274 : decode cM_pay 274 = .ok (.iconst 2, 1) := by decide +kernel
theorem dM_pay_275 : decode cM_pay 275 = .ok (.iadd, 1) := by decide +kernel
theorem dM_pay_276 : decode cM_pay 276 = .ok (.iaload, 1) := by decide +kernel
theorem dM_pay_277 : decode cM_pay 277 = .ok (.isub, 1) := by decide +kernel
theorem dM_pay_278 : decode cM_pay 278 = .ok (.invokevirtual 163, 3) := by decide +kernel
theorem dM_pay_281 : decode cM_pay 281 = .ok (.iload_n 3, 1) := by decide +kernel
theorem dM_pay_282 : decode cM_pay 282 = .ok (.iload 5, 2) := by decide +kernel
theorem dM_pay_284 : decode cM_pay 284 = .ok (.isub, 1) := by decide +kernel
theorem dM_pay_285 : decode cM_pay 285 = .ok (.ireturn, 1) := by decide +kernel
theorem dM_part_0 : decode cM_part 0 = .ok (.aload_n 0, 1) := by decide +kernel
theorem dM_part_1 : decode cM_part 1 = .ok (.aload_n 0, 1) := by decide +kernel
theorem dM_part_2 : decode cM_part 2 = .ok (.iload_n 1, 1) := by decide +kernel
theorem dM_part_3 : decode cM_part 3 = .ok (.invokevirtual 167, 3) := by decide +kernel
theorem dM_part_6 : decode cM_part 6 = .ok (.ifCond .eq 7, 3) := by decide +kernel
theorem dM_part_9 : decode cM_part 9 = .ok (.iconst 1, 1) := by decide +kernel
theorem dM_part_10 : decode cM_part 10 = .ok (.goto 30, 3) := by decide +kernel
theorem dM_part_13 : decode cM_part 13 = .ok (.iload_n 2, 1) := by decide +kernel
theorem dM_part_14 : decode cM_part 14 = .ok (.iconst 0, 1) := by decide +kernel
theorem dM_part_15 : decode cM_part 15 = .ok (.iconst 5, 1) := by decide +kernel
theorem dM_part_16 : decode cM_part 16 = .ok (.invokestatic 134, 3) := by decide +kernel
theorem dM_part_19 : decode cM_part 19 = .ok (.ifCond .ne 7, 3) := by decide +kernel
theorem dM_part_22 : decode cM_part 22 = .ok (.iconst 2, 1) := by decide +kernel
theorem dM_part_23 : decode cM_part 23 = .ok (.goto 17, 3) := by decide +kernel
theorem dM_part_26 : decode cM_part 26 = .ok (.aload_n 0, 1) := by decide +kernel
theorem dM_part_27 : decode cM_part 27 = .ok (.getfield 53, 3) := by decide +kernel
theorem dM_part_30 : decode cM_part 30 = .ok (.iload_n 1, 1) := by decide +kernel
theorem dM_part_31 : decode cM_part 31 = .ok (.baload, 1) := by decide +kernel
theorem dM_part_32 : decode cM_part 32 = .ok (.ifCond .eq 7, 3) := by decide +kernel
theorem dM_part_35 : decode cM_part 35 = .ok (.iconst 0, 1) := by decide +kernel
theorem dM_part_36 : decode cM_part 36 = .ok (.goto 4, 3) := by decide +kernel
theorem dM_part_39 : decode cM_part 39 = .ok (.iconst 3, 1) := by decide +kernel
theorem dM_part_40 : decode cM_part 40 = .ok (.putfield 77, 3) := by decide +kernel
theorem dM_part_43 : decode cM_part 43 = .ok (.aload_n 0, 1) := by decide +kernel
theorem dM_part_44 : decode cM_part 44 = .ok (.getfield 77, 3) := by decide +kernel
theorem dM_part_47 : decode cM_part 47 = .ok (.ifCond .le 7, 3) := by decide +kernel
theorem dM_part_50 : decode cM_part 50 = .ok (.iconst 0, 1) := by decide +kernel
theorem dM_part_51 : decode cM_part 51 = .ok (.goto 14, 3) := by decide +kernel
theorem dM_part_54 : decode cM_part 54 = .ok (.aload_n 0, 1) := by decide +kernel
theorem dM_part_55 : decode cM_part 55 = .ok (.getfield 56, 3) := by decide +kernel
theorem dM_part_58 : decode cM_part 58 = .ok (.bipush 6, 2) := by decide +kernel
theorem dM_part_60 : decode cM_part 60 = .ok (.iload_n 1, 1) := by decide +kernel
theorem dM_part_61 : decode cM_part 61 = .ok (.imul, 1) := by decide +kernel
theorem dM_part_62 : decode cM_part 62 = .ok (.iload_n 2, 1) := by decide +kernel
theorem dM_part_63 : decode cM_part 63 = .ok (.iadd, 1) := by decide +kernel
theorem dM_part_64 : decode cM_part 64 = .ok (.iaload, 1) := by decide +kernel
theorem dM_part_65 : decode cM_part 65 = .ok (.ireturn, 1) := by decide +kernel
theorem dM_due_0 : decode cM_due 0 = .ok (.aload_n 0, 1) := by decide +kernel
theorem dM_due_1 : decode cM_due 1 = .ok (.aload_n 0, 1) := by decide +kernel
theorem dM_due_2 : decode cM_due 2 = .ok (.iload_n 1, 1) := by decide +kernel
theorem dM_due_3 : decode cM_due 3 = .ok (.invokevirtual 167, 3) := by decide +kernel
theorem dM_due_6 : decode cM_due 6 = .ok (.ifCond .eq 7, 3) := by decide +kernel
theorem dM_due_9 : decode cM_due 9 = .ok (.iconst 1, 1) := by decide +kernel
theorem dM_due_10 : decode cM_due 10 = .ok (.goto 18, 3) := by decide +kernel
theorem dM_due_13 : decode cM_due 13 = .ok (.iload_n 2, 1) := by decide +kernel
theorem dM_due_14 : decode cM_due 14 = .ok (.iconst 1, 1) := by decide +kernel
theorem dM_due_15 : decode cM_due 15 = .ok (.bipush 100, 2) := by decide +kernel
theorem dM_due_17 : decode cM_due 17 = .ok (.invokestatic 134, 3) := by decide +kernel
theorem dM_due_20 : decode cM_due 20 = .ok (.ifCond .eq 7, 3) := by decide +kernel
theorem dM_due_23 : decode cM_due 23 = .ok (.iconst 0, 1) := by decide +kernel
theorem dM_due_24 : decode cM_due 24 = .ok (.goto 4, 3) := by decide +kernel
theorem dM_due_27 : decode cM_due 27 = .ok (.iconst 2, 1) := by decide +kernel
theorem dM_due_28 : decode cM_due 28 = .ok (.putfield 77, 3) := by decide +kernel
theorem dM_due_31 : decode cM_due 31 = .ok (.aload_n 0, 1) := by decide +kernel
theorem dM_due_32 : decode cM_due 32 = .ok (.getfield 77, 3) := by decide +kernel
theorem dM_due_35 : decode cM_due 35 = .ok (.ifCond .le 7, 3) := by decide +kernel
theorem dM_due_38 : decode cM_due 38 = .ok (.iconst 0, 1) := by decide +kernel
theorem dM_due_39 : decode cM_due 39 = .ok (.goto 14, 3) := by decide +kernel
theorem dM_due_42 : decode cM_due 42 = .ok (.aload_n 0, 1) := by decide +kernel
theorem dM_due_43 : decode cM_due 43 = .ok (.aload_n 0, 1) := by decide +kernel
theorem dM_due_44 : decode cM_due 44 = .ok (.getfield 7, 3) := by decide +kernel
theorem dM_due_47 : decode cM_due 47 = .ok (.iload_n 1, 1) := by decide +kernel
theorem dM_due_48 : decode cM_due 48 = .ok (.iaload, 1) := by decide +kernel
theorem dM_due_49 : decode cM_due 49 = .ok (.iload_n 2, 1) := by decide +kernel
theorem dM_due_50 : decode cM_due 50 = .ok (.invokevirtual 145, 3) := by decide +kernel
theorem dM_due_53 : decode cM_due 53 = .ok (.ireturn, 1) := by decide +kernel
theorem dM_principal_0 : decode cM_principal 0 = .ok (.aload_n 0, 1) := by decide +kernel
theorem dM_principal_1 : decode cM_principal 1 = .ok (.iload_n 1, 1) := by decide +kernel
theorem dM_principal_2 : decode cM_principal 2 = .ok (.invokevirtual 194, 3) := by decide +kernel
theorem dM_principal_5 : decode cM_principal 5 = .ok (.istore_n 2, 1) := by decide +kernel
theorem dM_principal_6 : decode cM_principal 6 = .ok (.aload_n 0, 1) := by decide +kernel
theorem dM_principal_7 : decode cM_principal 7 = .ok (.iload_n 1, 1) := by decide +kernel
theorem dM_principal_8 : decode cM_principal 8 = .ok (.aload_n 0, 1) := by decide +kernel
theorem dM_principal_9 : decode cM_principal 9 = .ok (.getfield 29, 3) := by decide +kernel
theorem dM_principal_12 : decode cM_principal 12 = .ok (.iload_n 2, 1) := by decide +kernel
theorem dM_principal_13 : decode cM_principal 13 = .ok (.iaload, 1) := by decide +kernel
theorem dM_principal_14 : decode cM_principal 14 = .ok (.invokevirtual 197, 3) := by decide +kernel
theorem dM_principal_17 : decode cM_principal 17 = .ok (.ireturn, 1) := by decide +kernel
theorem dM_at_0 : decode cM_at 0 = .ok (.aload_n 0, 1) := by decide +kernel
theorem dM_at_1 : decode cM_at 1 = .ok (.aload_n 0, 1) := by decide +kernel
theorem dM_at_2 : decode cM_at 2 = .ok (.iload_n 1, 1) := by decide +kernel
theorem dM_at_3 : decode cM_at 3 = .ok (.invokevirtual 167, 3) := by decide +kernel
theorem dM_at_6 : decode cM_at 6 = .ok (.ifCond .eq 7, 3) := by decide +kernel
theorem dM_at_9 : decode cM_at 9 = .ok (.iconst 1, 1) := by decide +kernel
theorem dM_at_10 : decode cM_at 10 = .ok (.goto 4, 3) := by decide +kernel
theorem dM_at_13 : decode cM_at 13 = .ok (.iconst 0, 1) := by decide +kernel
theorem dM_at_14 : decode cM_at 14 = .ok (.putfield 77, 3) := by decide +kernel
theorem dM_at_17 : decode cM_at 17 = .ok (.aload_n 0, 1) := by decide +kernel
theorem dM_at_18 : decode cM_at 18 = .ok (.getfield 77, 3) := by decide +kernel
theorem dM_at_21 : decode cM_at 21 = .ok (.ifCond .le 7, 3) := by decide +kernel
theorem dM_at_24 : decode cM_at 24 = .ok (.iconst 0, 1) := by decide +kernel
theorem dM_at_25 : decode cM_at 25 = .ok (.goto 4, 3) := by decide +kernel
theorem dM_at_28 : decode cM_at 28 = .ok (.iload_n 1, 1) := by decide +kernel
theorem dM_at_29 : decode cM_at 29 = .ok (.ireturn, 1) := by decide +kernel
theorem dM_seen_0 : decode cM_seen 0 = .ok (.aload_n 0, 1) := by decide +kernel
theorem dM_seen_1 : decode cM_seen 1 = .ok (.iload_n 1, 1) := by decide +kernel
theorem dM_seen_2 : decode cM_seen 2 = .ok (.invokevirtual 167, 3) := by decide +kernel
theorem dM_seen_5 : decode cM_seen 5 = .ok (.ifCond .eq 7, 3) := by decide +kernel
theorem dM_seen_8 : decode cM_seen 8 = .ok (.iconst 0, 1) := by decide +kernel
theorem dM_seen_9 : decode cM_seen 9 = .ok (.goto 4, 3) := by decide +kernel
theorem dM_seen_12 : decode cM_seen 12 = .ok (.iload_n 2, 1) := by decide +kernel
theorem dM_seen_13 : decode cM_seen 13 = .ok (.ireturn, 1) := by decide +kernel
theorem dM_level_0 : decode cM_level 0 = .ok (.aload_n 0, 1) := by decide +kernel
theorem dM_level_1 : decode cM_level 1 = .ok (.iload_n 1, 1) := by decide +kernel
theorem dM_level_2 : decode cM_level 2 = .ok (.invokevirtual 194, 3) := by decide +kernel
theorem dM_level_5 : decode cM_level 5 = .ok (.istore_n 2, 1) := by decide +kernel
theorem dM_level_6 : decode cM_level 6 = .ok (.aload_n 0, 1) := by decide +kernel
theorem dM_level_7 : decode cM_level 7 = .ok (.iload_n 1, 1) := by decide +kernel
theorem dM_level_8 : decode cM_level 8 = .ok (.aload_n 0, 1) := by decide +kernel
theorem dM_level_9 : decode cM_level 9 = .ok (.getfield 32, 3) := by decide +kernel
theorem dM_level_12 : decode cM_level 12 = .ok (.iload_n 2, 1) := by decide +kernel
theorem dM_level_13 : decode cM_level 13 = .ok (.iaload, 1) := by decide +kernel
theorem dM_level_14 : decode cM_level 14 = .ok (.invokevirtual 197, 3) := by decide +kernel
theorem dM_level_17 : decode cM_level 17 = .ok (.ireturn, 1) := by decide +kernel
theorem dM_accrued_0 : decode cM_accrued 0 = .ok (.aload_n 0, 1) := by decide +kernel
theorem dM_accrued_1 : decode cM_accrued 1 = .ok (.iload_n 1, 1) := by decide +kernel
theorem dM_accrued_2 : decode cM_accrued 2 = .ok (.invokevirtual 194, 3) := by decide +kernel
theorem dM_accrued_5 : decode cM_accrued 5 = .ok (.istore_n 2, 1) := by decide +kernel
theorem dM_accrued_6 : decode cM_accrued 6 = .ok (.aload_n 0, 1) := by decide +kernel
theorem dM_accrued_7 : decode cM_accrued 7 = .ok (.iload_n 1, 1) := by decide +kernel
theorem dM_accrued_8 : decode cM_accrued 8 = .ok (.invokevirtual 167, 3) := by decide +kernel
theorem dM_accrued_11 : decode cM_accrued 11 = .ok (.ifCond .eq 7, 3) := by decide +kernel
theorem dM_accrued_14 : decode cM_accrued 14 = .ok (.iconst 0, 1) := by decide +kernel
theorem dM_accrued_15 : decode cM_accrued 15 = .ok (.goto 31, 3) := by decide +kernel
theorem dM_accrued_18 : decode cM_accrued 18 = .ok (.aload_n 0, 1) := by decide +kernel
theorem dM_accrued_19 : decode cM_accrued 19 = .ok (.getfield 35, 3) := by decide +kernel
theorem dM_accrued_22 : decode cM_accrued 22 = .ok (.iload_n 2, 1) := by decide +kernel
theorem dM_accrued_23 : decode cM_accrued 23 = .ok (.iaload, 1) := by decide +kernel
theorem dM_accrued_24 : decode cM_accrued 24 = .ok (.aload_n 0, 1) := by decide +kernel
theorem dM_accrued_25 : decode cM_accrued 25 = .ok (.iload_n 2, 1) := by decide +kernel
theorem dM_accrued_26 : decode cM_accrued 26 = .ok (.aload_n 0, 1) := by decide +kernel
theorem dM_accrued_27 : decode cM_accrued 27 = .ok (.getfield 29, 3) := by decide +kernel
theorem dM_accrued_30 : decode cM_accrued 30 = .ok (.iload_n 2, 1) := by decide +kernel
theorem dM_accrued_31 : decode cM_accrued 31 = .ok (.iaload, 1) := by decide +kernel
theorem dM_accrued_32 : decode cM_accrued 32 = .ok (.aload_n 0, 1) := by decide +kernel
theorem dM_accrued_33 : decode cM_accrued 33 = .ok (.getfield 38, 3) := by decide +kernel
theorem dM_accrued_36 : decode cM_accrued 36 = .ok (.iload_n 2, 1) := by decide +kernel
theorem dM_accrued_37 : decode cM_accrued 37 = .ok (.iaload, 1) := by decide +kernel
theorem dM_accrued_38 : decode cM_accrued 38 = .ok (.aload_n 0, 1) := by decide +kernel
theorem dM_accrued_39 : decode cM_accrued 39 = .ok (.getfield 106, 3) := by decide +kernel
theorem dM_accrued_42 : decode cM_accrued 42 = .ok (.invokevirtual 148, 3) := by decide +kernel
theorem dM_accrued_45 : decode cM_accrued 45 = .ok (.iadd, 1) := by decide +kernel
theorem dM_accrued_46 : decode cM_accrued 46 = .ok (.ireturn, 1) := by decide +kernel
theorem dM_owed_0 : decode cM_owed 0 = .ok (.aload_n 0, 1) := by decide +kernel
theorem dM_owed_1 : decode cM_owed 1 = .ok (.aload_n 0, 1) := by decide +kernel
theorem dM_owed_2 : decode cM_owed 2 = .ok (.iload_n 1, 1) := by decide +kernel
theorem dM_owed_3 : decode cM_owed 3 = .ok (.invokevirtual 167, 3) := by decide +kernel
theorem dM_owed_6 : decode cM_owed 6 = .ok (.ifCond .eq 7, 3) := by decide +kernel
theorem dM_owed_9 : decode cM_owed 9 = .ok (.iconst 1, 1) := by decide +kernel
theorem dM_owed_10 : decode cM_owed 10 = .ok (.goto 17, 3) := by decide +kernel
theorem dM_owed_13 : decode cM_owed 13 = .ok (.iload_n 2, 1) := by decide +kernel
theorem dM_owed_14 : decode cM_owed 14 = .ok (.iconst 0, 1) := by decide +kernel
theorem dM_owed_15 : decode cM_owed 15 = .ok (.iconst 3, 1) := by decide +kernel
theorem dM_owed_16 : decode cM_owed 16 = .ok (.invokestatic 134, 3) := by decide +kernel
theorem dM_owed_19 : decode cM_owed 19 = .ok (.ifCond .eq 7, 3) := by decide +kernel
theorem dM_owed_22 : decode cM_owed 22 = .ok (.iconst 0, 1) := by decide +kernel
theorem dM_owed_23 : decode cM_owed 23 = .ok (.goto 4, 3) := by decide +kernel
theorem dM_owed_26 : decode cM_owed 26 = .ok (.iconst 2, 1) := by decide +kernel
theorem dM_owed_27 : decode cM_owed 27 = .ok (.putfield 77, 3) := by decide +kernel
theorem dM_owed_30 : decode cM_owed 30 = .ok (.aload_n 0, 1) := by decide +kernel
theorem dM_owed_31 : decode cM_owed 31 = .ok (.getfield 77, 3) := by decide +kernel
theorem dM_owed_34 : decode cM_owed 34 = .ok (.ifCond .le 7, 3) := by decide +kernel
theorem dM_owed_37 : decode cM_owed 37 = .ok (.iconst 0, 1) := by decide +kernel
theorem dM_owed_38 : decode cM_owed 38 = .ok (.goto 13, 3) := by decide +kernel
theorem dM_owed_41 : decode cM_owed 41 = .ok (.aload_n 0, 1) := by decide +kernel
theorem dM_owed_42 : decode cM_owed 42 = .ok (.getfield 50, 3) := by decide +kernel
theorem dM_owed_45 : decode cM_owed 45 = .ok (.iconst 4, 1) := by decide +kernel
theorem dM_owed_46 : decode cM_owed 46 = .ok (.iload_n 1, 1) := by decide +kernel
theorem dM_owed_47 : decode cM_owed 47 = .ok (.imul, 1) := by decide +kernel
theorem dM_owed_48 : decode cM_owed 48 = .ok (.iload_n 2, 1) := by decide +kernel
theorem dM_owed_49 : decode cM_owed 49 = .ok (.iadd, 1) := by decide +kernel
theorem dM_owed_50 : decode cM_owed 50 = .ok (.iaload, 1) := by decide +kernel
theorem dM_owed_51 : decode cM_owed 51 = .ok (.ireturn, 1) := by decide +kernel
theorem dM_escrow_0 : decode cM_escrow 0 = .ok (.aload_n 0, 1) := by decide +kernel
theorem dM_escrow_1 : decode cM_escrow 1 = .ok (.iload_n 1, 1) := by decide +kernel
theorem dM_escrow_2 : decode cM_escrow 2 = .ok (.invokevirtual 194, 3) := by decide +kernel
theorem dM_escrow_5 : decode cM_escrow 5 = .ok (.istore_n 2, 1) := by decide +kernel
theorem dM_escrow_6 : decode cM_escrow 6 = .ok (.aload_n 0, 1) := by decide +kernel
theorem dM_escrow_7 : decode cM_escrow 7 = .ok (.iload_n 1, 1) := by decide +kernel
theorem dM_escrow_8 : decode cM_escrow 8 = .ok (.aload_n 0, 1) := by decide +kernel
theorem dM_escrow_9 : decode cM_escrow 9 = .ok (.getfield 41, 3) := by decide +kernel
theorem dM_escrow_12 : decode cM_escrow 12 = .ok (.iload_n 2, 1) := by decide +kernel
theorem dM_escrow_13 : decode cM_escrow 13 = .ok (.iaload, 1) := by decide +kernel
theorem dM_escrow_14 : decode cM_escrow 14 = .ok (.invokevirtual 197, 3) := by decide +kernel
theorem dM_escrow_17 : decode cM_escrow 17 = .ok (.ireturn, 1) := by decide +kernel
theorem dM_deposit_0 : decode cM_deposit 0 = .ok (.aload_n 0, 1) := by decide +kernel
theorem dM_deposit_1 : decode cM_deposit 1 = .ok (.iload_n 1, 1) := by decide +kernel
theorem dM_deposit_2 : decode cM_deposit 2 = .ok (.invokevirtual 194, 3) := by decide +kernel
theorem dM_deposit_5 : decode cM_deposit 5 = .ok (.istore_n 2, 1) := by decide +kernel
theorem dM_deposit_6 : decode cM_deposit 6 = .ok (.aload_n 0, 1) := by decide +kernel
theorem dM_deposit_7 : decode cM_deposit 7 = .ok (.iload_n 1, 1) := by decide +kernel
theorem dM_deposit_8 : decode cM_deposit 8 = .ok (.aload_n 0, 1) := by decide +kernel
theorem dM_deposit_9 : decode cM_deposit 9 = .ok (.getfield 47, 3) := by decide +kernel
theorem dM_deposit_12 : decode cM_deposit 12 = .ok (.iload_n 2, 1) := by decide +kernel
theorem dM_deposit_13 : decode cM_deposit 13 = .ok (.iaload, 1) := by decide +kernel
theorem dM_deposit_14 : decode cM_deposit 14 = .ok (.invokevirtual 197, 3) := by decide +kernel
theorem dM_deposit_17 : decode cM_deposit 17 = .ok (.ireturn, 1) := by decide +kernel
theorem dM_bills_0 : decode cM_bills 0 = .ok (.aload_n 0, 1) := by decide +kernel
theorem dM_bills_1 : decode cM_bills 1 = .ok (.iload_n 1, 1) := by decide +kernel
theorem dM_bills_2 : decode cM_bills 2 = .ok (.invokevirtual 194, 3) := by decide +kernel
theorem dM_bills_5 : decode cM_bills 5 = .ok (.istore_n 2, 1) := by decide +kernel
theorem dM_bills_6 : decode cM_bills 6 = .ok (.aload_n 0, 1) := by decide +kernel
theorem dM_bills_7 : decode cM_bills 7 = .ok (.iload_n 1, 1) := by decide +kernel
theorem dM_bills_8 : decode cM_bills 8 = .ok (.aload_n 0, 1) := by decide +kernel
theorem dM_bills_9 : decode cM_bills 9 = .ok (.getfield 59, 3) := by decide +kernel
theorem dM_bills_12 : decode cM_bills 12 = .ok (.iload_n 2, 1) := by decide +kernel
theorem dM_bills_13 : decode cM_bills 13 = .ok (.iaload, 1) := by decide +kernel
theorem dM_bills_14 : decode cM_bills 14 = .ok (.invokevirtual 197, 3) := by decide +kernel
theorem dM_bills_17 : decode cM_bills 17 = .ok (.ireturn, 1) := by decide +kernel
theorem dM_bill_0 : decode cM_bill 0 = .ok (.aload_n 0, 1) := by decide +kernel
theorem dM_bill_1 : decode cM_bill 1 = .ok (.aload_n 0, 1) := by decide +kernel
theorem dM_bill_2 : decode cM_bill 2 = .ok (.iload_n 1, 1) := by decide +kernel
theorem dM_bill_3 : decode cM_bill 3 = .ok (.invokevirtual 167, 3) := by decide +kernel
theorem dM_bill_6 : decode cM_bill 6 = .ok (.ifCond .eq 7, 3) := by decide +kernel
theorem dM_bill_9 : decode cM_bill 9 = .ok (.iconst 1, 1) := by decide +kernel
theorem dM_bill_10 : decode cM_bill 10 = .ok (.goto 37, 3) := by decide +kernel
theorem dM_bill_13 : decode cM_bill 13 = .ok (.iload_n 3, 1) := by decide +kernel
theorem dM_bill_14 : decode cM_bill 14 = .ok (.iconst 0, 1) := by decide +kernel
theorem dM_bill_15 : decode cM_bill 15 = .ok (.iconst 4, 1) := by decide +kernel
theorem dM_bill_16 : decode cM_bill 16 = .ok (.invokestatic 134, 3) := by decide +kernel
theorem dM_bill_19 : decode cM_bill 19 = .ok (.ifCond .ne 7, 3) := by decide +kernel
theorem dM_bill_22 : decode cM_bill 22 = .ok (.iconst 2, 1) := by decide +kernel
theorem dM_bill_23 : decode cM_bill 23 = .ok (.goto 24, 3) := by decide +kernel
theorem dM_bill_26 : decode cM_bill 26 = .ok (.iload_n 2, 1) := by decide +kernel
theorem dM_bill_27 : decode cM_bill 27 = .ok (.iconst 0, 1) := by decide +kernel
theorem dM_bill_28 : decode cM_bill 28 = .ok (.aload_n 0, 1) := by decide +kernel
theorem dM_bill_29 : decode cM_bill 29 = .ok (.getfield 59, 3) := by decide +kernel
theorem dM_bill_32 : decode cM_bill 32 = .ok (.iload_n 1, 1) := by decide +kernel
theorem dM_bill_33 : decode cM_bill 33 = .ok (.iaload, 1) := by decide +kernel
theorem dM_bill_34 : decode cM_bill 34 = .ok (.iconst 1, 1) := by decide +kernel
theorem dM_bill_35 : decode cM_bill 35 = .ok (.isub, 1) := by decide +kernel
theorem dM_bill_36 : decode cM_bill 36 = .ok (.invokestatic 134, 3) := by decide +kernel
theorem dM_bill_39 : decode cM_bill 39 = .ok (.ifCond .eq 7, 3) := by decide +kernel
theorem dM_bill_42 : decode cM_bill 42 = .ok (.iconst 0, 1) := by decide +kernel
theorem dM_bill_43 : decode cM_bill 43 = .ok (.goto 4, 3) := by decide +kernel
theorem dM_bill_46 : decode cM_bill 46 = .ok (.iconst 3, 1) := by decide +kernel
theorem dM_bill_47 : decode cM_bill 47 = .ok (.putfield 77, 3) := by decide +kernel
theorem dM_bill_50 : decode cM_bill 50 = .ok (.aload_n 0, 1) := by decide +kernel
theorem dM_bill_51 : decode cM_bill 51 = .ok (.getfield 77, 3) := by decide +kernel
theorem dM_bill_54 : decode cM_bill 54 = .ok (.ifCond .le 5, 3) := by decide +kernel
theorem dM_bill_57 : decode cM_bill 57 = .ok (.iconst 0, 1) := by decide +kernel
theorem dM_bill_58 : decode cM_bill 58 = .ok (.ireturn, 1) := by decide +kernel
theorem dM_bill_59 : decode cM_bill 59 = .ok (.bipush 60, 2) := by decide +kernel
theorem dM_bill_61 : decode cM_bill 61 = .ok (.iload_n 1, 1) := by decide +kernel
theorem dM_bill_62 : decode cM_bill 62 = .ok (.imul, 1) := by decide +kernel
theorem dM_bill_63 : decode cM_bill 63 = .ok (.iload_n 2, 1) := by decide +kernel
theorem dM_bill_64 : decode cM_bill 64 = .ok (.iadd, 1) := by decide +kernel
theorem dM_bill_65 : decode cM_bill 65 = .ok (.istore 4, 2) := by decide +kernel
theorem dM_bill_67 : decode cM_bill 67 = .ok (.iload_n 3, 1) := by decide +kernel
theorem dM_bill_68 : decode cM_bill 68 = .ok (.ifCond .ne 13, 3) := by decide +kernel
theorem dM_bill_71 : decode cM_bill 71 = .ok (.aload_n 0, 1) := by decide +kernel
theorem dM_bill_72 : decode cM_bill 72 = .ok (.getfield 62, 3) := by decide +kernel
theorem dM_bill_75 : decode cM_bill 75 = .ok (.iload 4, 2) := by decide +kernel
theorem dM_bill_77 : decode cM_bill 77 = .ok (.iaload, 1) := by decide +kernel
theorem dM_bill_78 : decode cM_bill 78 = .ok (.goto 55, 3) := by decide +kernel
theorem dM_bill_81 : decode cM_bill 81 = .ok (.iload_n 3, 1) := by decide +kernel
theorem dM_bill_82 : decode cM_bill 82 = .ok (.iconst 1, 1) := by decide +kernel
theorem dM_bill_83 : decode cM_bill 83 = .ok (.if_icmp .ne 13, 3) := by decide +kernel
theorem dM_bill_86 : decode cM_bill 86 = .ok (.aload_n 0, 1) := by decide +kernel
theorem dM_bill_87 : decode cM_bill 87 = .ok (.getfield 65, 3) := by decide +kernel
theorem dM_bill_90 : decode cM_bill 90 = .ok (.iload 4, 2) := by decide +kernel
theorem dM_bill_92 : decode cM_bill 92 = .ok (.iaload, 1) := by decide +kernel
theorem dM_bill_93 : decode cM_bill 93 = .ok (.goto 40, 3) := by decide +kernel
theorem dM_bill_96 : decode cM_bill 96 = .ok (.iload_n 3, 1) := by decide +kernel
theorem dM_bill_97 : decode cM_bill 97 = .ok (.iconst 2, 1) := by decide +kernel
theorem dM_bill_98 : decode cM_bill 98 = .ok (.if_icmp .ne 13, 3) := by decide +kernel
theorem dM_bill_101 : decode cM_bill 101 = .ok (.aload_n 0, 1) := by decide +kernel
theorem dM_bill_102 : decode cM_bill 102 = .ok (.getfield 68, 3) := by decide +kernel
theorem dM_bill_105 : decode cM_bill 105 = .ok (.iload 4, 2) := by decide +kernel
theorem dM_bill_107 : decode cM_bill 107 = .ok (.iaload, 1) := by decide +kernel
theorem dM_bill_108 : decode cM_bill 108 = .ok (.goto 25, 3) := by decide +kernel
theorem dM_bill_111 : decode cM_bill 111 = .ok (.iload_n 3, 1) := by decide +kernel
theorem dM_bill_112 : decode cM_bill 112 = .ok (.iconst 3, 1) := by decide +kernel
theorem dM_bill_113 : decode cM_bill 113 = .ok (.if_icmp .ne 13, 3) := by decide +kernel
theorem dM_bill_116 : decode cM_bill 116 = .ok (.aload_n 0, 1) := by decide +kernel
theorem dM_bill_117 : decode cM_bill 117 = .ok (.getfield 71, 3) := by decide +kernel
theorem dM_bill_120 : decode cM_bill 120 = .ok (.iload 4, 2) := by decide +kernel
theorem dM_bill_122 : decode cM_bill 122 = .ok (.iaload, 1) := by decide +kernel
theorem dM_bill_123 : decode cM_bill 123 = .ok (.goto 10, 3) := by decide +kernel
theorem dM_bill_126 : decode cM_bill 126 = .ok (.aload_n 0, 1) := by decide +kernel
theorem dM_bill_127 : decode cM_bill 127 = .ok (.getfield 74, 3) := by decide +kernel
theorem dM_bill_130 : decode cM_bill 130 = .ok (.iload 4, 2) := by decide +kernel
theorem dM_bill_132 : decode cM_bill 132 = .ok (.iaload, 1) := by decide +kernel
theorem dM_bill_133 : decode cM_bill 133 = .ok (.ireturn, 1) := by decide +kernel
