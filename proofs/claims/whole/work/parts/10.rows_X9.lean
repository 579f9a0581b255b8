theorem dX9_market_101 : decode cX9_market 101 = .ok (.iload_n 1, 1) := by decide +kernel
theorem dX9_market_102 : decode cX9_market 102 = .ok (.iaload, 1) := by decide +kernel
theorem dX9_market_103 : decode cX9_market 103 = .ok (.iastore, 1) := by decide +kernel
theorem dX9_market_104 : decode cX9_market 104 = .ok (.aload_n 0, 1) := by decide +kernel
theorem dX9_market_105 : decode cX9_market 105 = .ok (.getfield 22, 3) := by decide +kernel
theorem dX9_market_108 : decode cX9_market 108 = .ok (.iload_n 1, 1) := by decide +kernel
theorem dX9_market_109 : decode cX9_market 109 = .ok (.aload_n 0, 1) := by decide +kernel
theorem dX9_market_110 : decode cX9_market 110 = .ok (.getfield 48, 3) := by decide +kernel
theorem dX9_market_113 : decode cX9_market 113 = .ok (.iload_n 1, 1) := by decide +kernel
theorem dX9_market_114 : decode cX9_market 114 = .ok (.iaload, 1) := by decide +kernel
theorem dX9_market_115 : decode cX9_market 115 = .ok (.iastore, 1) := by decide +kernel
theorem dX9_market_116 : decode cX9_market 116 = .ok (.iinc 1 1, 3) := by decide +kernel
theorem dX9_market_119 : decode cX9_market 119 = .ok (.goto (-32), 3) := by decide +kernel
theorem dX9_market_122 : decode cX9_market 122 = .ok (.iconst 0, 1) := by decide +kernel
theorem dX9_market_123 : decode cX9_market 123 = .ok (.istore_n 1, 1) := by decide +kernel
theorem dX9_market_124 : decode cX9_market 124 = .ok (.iload_n 1, 1) := by decide +kernel
theorem dX9_market_125 : decode cX9_market 125 = .ok (.bipush 24, 2) := by decide +kernel
theorem dX9_market_127 : decode cX9_market 127 = .ok (.if_icmp .ge 21, 3) := by decide +kernel
theorem dX9_market_130 : decode cX9_market 130 = .ok (.aload_n 0, 1) := by decide +kernel
theorem dX9_market_131 : decode cX9_market 131 = .ok (.getfield 25, 3) := by decide +kernel
theorem dX9_market_134 : decode cX9_market 134 = .ok (.iload_n 1, 1) := by decide +kernel
theorem dX9_market_135 : decode cX9_market 135 = .ok (.aload_n 0, 1) := by decide +kernel
theorem dX9_market_136 : decode cX9_market 136 = .ok (.getfield 51, 3) := by decide +kernel
theorem dX9_market_139 : decode cX9_market 139 = .ok (.iload_n 1, 1) := by decide +kernel
theorem dX9_market_140 : decode cX9_market 140 = .ok (.baload, 1) := by decide +kernel
theorem dX9_market_141 : decode cX9_market 141 = .ok (.bastore, 1) := by decide +kernel
theorem dX9_market_142 : decode cX9_market 142 = .ok (.iinc 1 1, 3) := by decide +kernel
theorem dX9_market_145 : decode cX9_market 145 = .ok (.goto (-21), 3) := by decide +kernel
theorem dX9_market_148 : decode cX9_market 148 = .ok (.aload_n 0, 1) := by decide +kernel
theorem dX9_market_149 : decode cX9_market 149 = .ok (.iconst 0, 1) := by decide +kernel
theorem dX9_market_150 : decode cX9_market 150 = .ok (.putfield 177, 3) := by decide +kernel
theorem dX9_market_153 : decode cX9_market 153 = .ok (.aload_n 0, 1) := by decide +kernel
theorem dX9_market_154 : decode cX9_market 154 = .ok (.getfield 99, 3) := by decide +kernel
theorem dX9_market_157 : decode cX9_market 157 = .ok (.iconst 0, 1) := by decide +kernel
theorem dX9_market_158 : decode cX9_market 158 = .ok (.iconst 0, 1) := by decide +kernel
theorem dX9_market_159 : decode cX9_market 159 = .ok (.bastore, 1) := by decide +kernel
theorem dX9_market_160 : decode cX9_market 160 = .ok (.aload_n 0, 1) := by decide +kernel
theorem dX9_market_161 : decode cX9_market 161 = .ok (.getfield 99, 3) := by decide +kernel
theorem dX9_market_164 : decode cX9_market 164 = .ok (.iconst 1, 1) := by decide +kernel
theorem dX9_market_165 : decode cX9_market 165 = .ok (.iconst 0, 1) := by decide +kernel
theorem dX9_market_166 : decode cX9_market 166 = .ok (.bastore, 1) := by decide +kernel
theorem dX9_market_167 : decode cX9_market 167 = .ok (.aload_n 0, 1) := by decide +kernel
theorem dX9_market_168 : decode cX9_market 168 = .ok (.getfield 120, 3) := by decide +kernel
theorem dX9_market_171 : decode cX9_market 171 = .ok (.ireturn, 1) := by decide +kernel
theorem dX9_sumOf_0 : decode cX9_sumOf 0 = .ok (.iconst 0, 1) := by decide +kernel
theorem dX9_sumOf_1 : decode cX9_sumOf 1 = .ok (.istore 4, 2) := by decide +kernel
theorem dX9_sumOf_3 : decode cX9_sumOf 3 = .ok (.iconst 0, 1) := by decide +kernel
theorem dX9_sumOf_4 : decode cX9_sumOf 4 = .ok (.istore 5, 2) := by decide +kernel
theorem dX9_sumOf_6 : decode cX9_sumOf 6 = .ok (.iload 5, 2) := by decide +kernel
theorem dX9_sumOf_8 : decode cX9_sumOf 8 = .ok (.aload_n 0, 1) := by decide +kernel
theorem dX9_sumOf_9 : decode cX9_sumOf 9 = .ok (.getfield 177, 3) := by decide +kernel
theorem dX9_sumOf_12 : decode cX9_sumOf 12 = .ok (.if_icmp .ge 97, 3) := by decide +kernel
theorem dX9_sumOf_15 : decode cX9_sumOf 15 = .ok (.iload_n 1, 1) := by decide +kernel
theorem dX9_sumOf_16 : decode cX9_sumOf 16 = .ok (.bipush (-9), 2) := by decide +kernel
theorem dX9_sumOf_18 : decode cX9_sumOf 18 = .ok (.if_icmp .eq 14, 3) := by decide +kernel
theorem dX9_sumOf_21 : decode cX9_sumOf 21 = .ok (.aload_n 0, 1) := by decide +kernel
theorem dX9_sumOf_22 : decode cX9_sumOf 22 = .ok (.getfield 54, 3) := by decide +kernel
theorem dX9_sumOf_25 : decode cX9_sumOf 25 = .ok (.iload 5, 2) := by decide +kernel
theorem dX9_sumOf_27 : decode cX9_sumOf 27 = .ok (.iaload, 1) := by decide +kernel
theorem dX9_sumOf_28 : decode cX9_sumOf 28 = .ok (.iload_n 1, 1) := by decide +kernel
theorem dX9_sumOf_29 : decode cX9_sumOf 29 = .ok (.if_icmp .ne 74, 3) := by decide +kernel
theorem dX9_sumOf_32 : decode cX9_sumOf 32 = .ok (.iload_n 2, 1) := by decide +kernel
theorem dX9_sumOf_33 : decode cX9_sumOf 33 = .ok (.bipush (-9), 2) := by decide +kernel
theorem dX9_sumOf_35 : decode cX9_sumOf 35 = .ok (.if_icmp .eq 14, 3) := by decide +kernel
theorem dX9_sumOf_38 : decode cX9_sumOf 38 = .ok (.aload_n 0, 1) := by decide +kernel
theorem dX9_sumOf_39 : decode cX9_sumOf 39 = .ok (.getfield 57, 3) := by decide +kernel
theorem dX9_sumOf_42 : decode cX9_sumOf 42 = .ok (.iload 5, 2) := by decide +kernel
theorem dX9_sumOf_44 : decode cX9_sumOf 44 = .ok (.iaload, 1) := by decide +kernel
theorem dX9_sumOf_45 : decode cX9_sumOf 45 = .ok (.iload_n 2, 1) := by decide +kernel
theorem dX9_sumOf_46 : decode cX9_sumOf 46 = .ok (.if_icmp .ne 57, 3) := by decide +kernel
theorem dX9_sumOf_49 : decode cX9_sumOf 49 = .ok (.iload 4, 2) := by decide +kernel
theorem dX9_sumOf_51 : decode cX9_sumOf 51 = .ok (.iload_n 3, 1) := by decide +kernel
theorem dX9_sumOf_52 : decode cX9_sumOf 52 = .ok (.ifCond .ne 26, 3) := by decide +kernel
theorem dX9_sumOf_55 : decode cX9_sumOf 55 = .ok (.aload_n 0, 1) := by decide +kernel
theorem dX9_sumOf_56 : decode cX9_sumOf 56 = .ok (.getfield 60, 3) := by decide +kernel
theorem dX9_sumOf_59 : decode cX9_sumOf 59 = .ok (.iload 5, 2) := by decide +kernel
theorem dX9_sumOf_61 : decode cX9_sumOf 61 = .ok (.iaload, 1) := by decide +kernel
theorem dX9_sumOf_62 : decode cX9_sumOf 62 = .ok (.aload_n 0, 1) := by decide +kernel
theorem dX9_sumOf_63 : decode cX9_sumOf 63 = .ok (.getfield 19, 3) := by decide +kernel
theorem dX9_sumOf_66 : decode cX9_sumOf 66 = .ok (.aload_n 0, 1) := by decide +kernel
theorem dX9_sumOf_67 : decode cX9_sumOf 67 = .ok (.getfield 57, 3) := by decide +kernel
theorem dX9_sumOf_70 : decode cX9_sumOf 70 = .ok (.iload 5, 2) := by decide +kernel
theorem dX9_sumOf_72 : decode cX9_sumOf 72 = .ok (.iaload, 1) := by decide +kernel
theorem dX9_sumOf_73 : decode cX9_sumOf 73 = .ok (.iaload, 1) := by decide +kernel
theorem dX9_sumOf_74 : decode cX9_sumOf 74 = .ok (.imul, 1) := by decide +kernel
theorem dX9_sumOf_75 : decode cX9_sumOf 75 = .ok (.goto 25, 3) := by decide +kernel
theorem dX9_sumOf_78 : decode cX9_sumOf 78 = .ok (.iload_n 3, 1) := by decide +kernel
theorem dX9_sumOf_79 : decode cX9_sumOf 79 = .ok (.iconst 1, 1) := by decide +kernel
theorem dX9_sumOf_80 : decode cX9_sumOf 80 = .ok (.if_icmp .ne 13, 3) := by decide +kernel
theorem dX9_sumOf_83 : decode cX9_sumOf 83 = .ok (.aload_n 0, 1) := by decide +kernel
theorem dX9_sumOf_84 : decode cX9_sumOf 84 = .ok (.getfield 63, 3) := by decide +kernel
theorem dX9_sumOf_87 : decode cX9_sumOf 87 = .ok (.iload 5, 2) := by decide +kernel
theorem dX9_sumOf_89 : decode cX9_sumOf 89 = .ok (.iaload, 1) := by decide +kernel
theorem dX9_sumOf_90 : decode cX9_sumOf 90 = .ok (.goto 10, 3) := by decide +kernel
theorem dX9_sumOf_93 : decode cX9_sumOf 93 = .ok (.aload_n 0, 1) := by decide +kernel
theorem dX9_sumOf_94 : decode cX9_sumOf 94 = .ok (.getfield 60, 3) := by decide +kernel
theorem dX9_sumOf_97 : decode cX9_sumOf 97 = .ok (.iload 5, 2) := by decide +kernel
theorem dX9_sumOf_99 : decode cX9_sumOf 99 = .ok (.iaload, 1) := by decide +kernel
theorem dX9_sumOf_100 : decode cX9_sumOf 100 = .ok (.iadd, 1) := by decide +kernel
theorem dX9_sumOf_101 : decode cX9_sumOf 101 = .ok (.istore 4, 2) := by decide +kernel
theorem dX9_sumOf_103 : decode cX9_sumOf 103 = .ok (.iinc 5 1, 3) := by decide +kernel
theorem dX9_sumOf_106 : decode cX9_sumOf 106 = .ok (.goto (-100), 3) := by decide +kernel
theorem dX9_sumOf_109 : decode cX9_sumOf 109 = .ok (.iload 4, 2) := by decide +kernel
theorem dX9_sumOf_111 : decode cX9_sumOf 111 = .ok (.ireturn, 1) := by decide +kernel
theorem dX9_person_0 : decode cX9_person 0 = .ok (.aload_n 0, 1) := by decide +kernel
theorem dX9_person_1 : decode cX9_person 1 = .ok (.iconst 0, 1) := by decide +kernel
theorem dX9_person_2 : decode cX9_person 2 = .ok (.putfield 117, 3) := by decide +kernel
theorem dX9_person_5 : decode cX9_person 5 = .ok (.aload_n 0, 1) := by decide +kernel
theorem dX9_person_6 : decode cX9_person 6 = .ok (.iload_n 1, 1) := by decide +kernel
theorem dX9_person_7 : decode cX9_person 7 = .ok (.invokevirtual 180, 3) := by decide +kernel
theorem dX9_person_10 : decode cX9_person 10 = .ok (.ifCond .eq 5, 3) := by decide +kernel
theorem dX9_person_13 : decode cX9_person 13 = .ok (.iconst (-1), 1) := by decide +kernel
theorem dX9_person_14 : decode cX9_person 14 = .ok (.ireturn, 1) := by decide +kernel
theorem dX9_person_15 : decode cX9_person 15 = .ok (.iload_n 2, 1) := by decide +kernel
theorem dX9_person_16 : decode cX9_person 16 = .ok (.tableswitch 94 0 5 #[40, 47, 54, 63, 72, 79], 40) := by decide +kernel
theorem dX9_person_56 : decode cX9_person 56 = .ok (.aload_n 0, 1) := by decide +kernel
theorem dX9_person_57 : decode cX9_person 57 = .ok (.getfield 13, 3) := by decide +kernel
theorem dX9_person_60 : decode cX9_person 60 = .ok (.iload_n 1, 1) := by decide +kernel
theorem dX9_person_61 : decode cX9_person 61 = .ok (.iaload, 1) := by decide +kernel
theorem dX9_person_62 : decode cX9_person 62 = .ok (.ireturn, 1) := by decide +kernel
theorem dX9_person_63 : decode cX9_person 63 = .ok (.aload_n 0, 1) := by decide +kernel
theorem dX9_person_64 : decode cX9_person 64 = .ok (.getfield 16, 3) := by decide +kernel
theorem dX9_person_67 : decode cX9_person 67 = .ok (.iload_n 1, 1) := by decide +kernel
theorem dX9_person_68 : decode cX9_person 68 = .ok (.iaload, 1) := by decide +kernel
theorem dX9_person_69 : decode cX9_person 69 = .ok (.ireturn, 1) := by decide +kernel
theorem dX9_person_70 : decode cX9_person 70 = .ok (.aload_n 0, 1) := by decide +kernel
theorem dX9_person_71 : decode cX9_person 71 = .ok (.iload_n 1, 1) := by decide +kernel
theorem dX9_person_72 : decode cX9_person 72 = .ok (.bipush (-9), 2) := by decide +kernel
theorem dX9_person_74 : decode cX9_person 74 = .ok (.iconst 0, 1) := by decide +kernel
theorem dX9_person_75 : decode cX9_person 75 = .ok (.invokevirtual 183, 3) := by decide +kernel
theorem dX9_person_78 : decode cX9_person 78 = .ok (.ireturn, 1) := by decide +kernel
theorem dX9_person_79 : decode cX9_person 79 = .ok (.aload_n 0, 1) := by decide +kernel
theorem dX9_person_80 : decode cX9_person 80 = .ok (.iload_n 1, 1) := by decide +kernel
theorem dX9_person_81 : decode cX9_person 81 = .ok (.bipush (-9), 2) := by decide +kernel
theorem dX9_person_83 : decode cX9_person 83 = .ok (.iconst 1, 1) := by decide +kernel
theorem dX9_person_84 : decode cX9_person 84 = .ok (.invokevirtual 183, 3) := by decide +kernel
theorem dX9_person_87 : decode cX9_person 87 = .ok (.ireturn, 1) := by decide +kernel
theorem dX9_person_88 : decode cX9_person 88 = .ok (.aload_n 0, 1) := by decide +kernel
theorem dX9_person_89 : decode cX9_person 89 = .ok (.getfield 29, 3) := by decide +kernel
theorem dX9_person_92 : decode cX9_person 92 = .ok (.iload_n 1, 1) := by decide +kernel
theorem dX9_person_93 : decode cX9_person 93 = .ok (.iaload, 1) := by decide +kernel
theorem dX9_person_94 : decode cX9_person 94 = .ok (.ireturn, 1) := by decide +kernel
theorem dX9_person_95 : decode cX9_person 95 = .ok (.aload_n 0, 1) := by decide +kernel
theorem dX9_person_96 : decode cX9_person 96 = .ok (.getfield 32, 3) := by decide +kernel
theorem dX9_person_99 : decode cX9_person 99 = .ok (.iload_n 1, 1) := by decide +kernel
theorem dX9_person_100 : decode cX9_person 100 = .ok (.baload, 1) := by decide +kernel
theorem dX9_person_101 : decode cX9_person 101 = .ok (.ifCond .eq 7, 3) := by decide +kernel
theorem dX9_person_104 : decode cX9_person 104 = .ok (.iconst 1, 1) := by decide +kernel
theorem dX9_person_105 : decode cX9_person 105 = .ok (.goto 4, 3) := by decide +kernel
theorem dX9_person_108 : decode cX9_person 108 = .ok (.iconst 0, 1) := by decide +kernel
theorem dX9_person_109 : decode cX9_person 109 = .ok (.ireturn, 1) := by decide +kernel
theorem dX9_person_110 : decode cX9_person 110 = .ok (.bipush (-2), 2) := by decide +kernel
theorem dX9_person_112 : decode cX9_person 112 = .ok (.ireturn, 1) := by decide +kernel
theorem dX9_counter_0 : decode cX9_counter 0 = .ok (.aload_n 0, 1) := by decide +kernel
theorem dX9_counter_1 : decode cX9_counter 1 = .ok (.iconst 0, 1) := by decide +kernel
theorem dX9_counter_2 : decode cX9_counter 2 = .ok (.putfield 117, 3) := by decide +kernel
theorem dX9_counter_5 : decode cX9_counter 5 = .ok (.aload_n 0, 1) := by decide +kernel
theorem dX9_counter_6 : decode cX9_counter 6 = .ok (.iload_n 1, 1) := by decide +kernel
theorem dX9_counter_7 : decode cX9_counter 7 = .ok (.invokevirtual 187, 3) := by decide +kernel
theorem dX9_counter_10 : decode cX9_counter 10 = .ok (.ifCond .eq 5, 3) := by decide +kernel
theorem dX9_counter_13 : decode cX9_counter 13 = .ok (.iconst (-1), 1) := by decide +kernel
theorem dX9_counter_14 : decode cX9_counter 14 = .ok (.ireturn, 1) := by decide +kernel
theorem dX9_counter_15 : decode cX9_counter 15 = .ok (.iload_n 2, 1) := by decide +kernel
theorem dX9_counter_16 : decode cX9_counter 16 = .ok (.tableswitch 94 0 4 #[36, 43, 50, 59, 68], 36) := by decide +kernel
theorem dX9_counter_52 : decode cX9_counter 52 = .ok (.aload_n 0, 1) := by decide +kernel
theorem dX9_counter_53 : decode cX9_counter 53 = .ok (.getfield 19, 3) := by decide +kernel
theorem dX9_counter_56 : decode cX9_counter 56 = .ok (.iload_n 1, 1) := by decide +kernel
theorem dX9_counter_57 : decode cX9_counter 57 = .ok (.iaload, 1) := by decide +kernel
theorem dX9_counter_58 : decode cX9_counter 58 = .ok (.ireturn, 1) := by decide +kernel
theorem dX9_counter_59 : decode cX9_counter 59 = .ok (.aload_n 0, 1) := by decide +kernel
theorem dX9_counter_60 : decode cX9_counter 60 = .ok (.getfield 22, 3) := by decide +kernel
theorem dX9_counter_63 : decode cX9_counter 63 = .ok (.iload_n 1, 1) := by decide +kernel
theorem dX9_counter_64 : decode cX9_counter 64 = .ok (.iaload, 1) := by decide +kernel
theorem dX9_counter_65 : decode cX9_counter 65 = .ok (.ireturn, 1) := by decide +kernel
theorem dX9_counter_66 : decode cX9_counter 66 = .ok (.aload_n 0, 1) := by decide +kernel
theorem dX9_counter_67 : decode cX9_counter 67 = .ok (.bipush (-9), 2) := by decide +kernel
theorem dX9_counter_69 : decode cX9_counter 69 = .ok (.iload_n 1, 1) := by decide +kernel
theorem dX9_counter_70 : decode cX9_counter 70 = .ok (.iconst 0, 1) := by decide +kernel
theorem dX9_counter_71 : decode cX9_counter 71 = .ok (.invokevirtual 183, 3) := by decide +kernel
theorem dX9_counter_74 : decode cX9_counter 74 = .ok (.ireturn, 1) := by decide +kernel
theorem dX9_counter_75 : decode cX9_counter 75 = .ok (.aload_n 0, 1) := by decide +kernel
theorem dX9_counter_76 : decode cX9_counter 76 = .ok (.bipush (-9), 2) := by decide +kernel
theorem dX9_counter_78 : decode cX9_counter 78 = .ok (.iload_n 1, 1) := by decide +kernel
theorem dX9_counter_79 : decode cX9_counter 79 = .ok (.iconst 2, 1) := by decide +kernel
theorem dX9_counter_80 : decode cX9_counter 80 = .ok (.invokevirtual 183, 3) := by decide +kernel
theorem dX9_counter_83 : decode cX9_counter 83 = .ok (.ireturn, 1) := by decide +kernel
theorem dX9_counter_84 : decode cX9_counter 84 = .ok (.ldc 190, 2) := by decide +kernel
theorem dX9_counter_86 : decode cX9_counter 86 = .ok (.aload_n 0, 1) := by decide +kernel
theorem dX9_counter_87 : decode cX9_counter 87 = .ok (.bipush (-9), 2) := by decide +kernel
theorem dX9_counter_89 : decode cX9_counter 89 = .ok (.iload_n 1, 1) := by decide +kernel
theorem dX9_counter_90 : decode cX9_counter 90 = .ok (.iconst 1, 1) := by decide +kernel
theorem dX9_counter_91 : decode cX9_counter 91 = .ok (.invokevirtual 183, 3) := by decide +kernel
theorem dX9_counter_94 : decode cX9_counter 94 = .ok (.iadd, 1) := by decide +kernel
theorem dX9_counter_95 : decode cX9_counter 95 = .ok (.aload_n 0, 1) := by decide +kernel
theorem dX9_counter_96 : decode cX9_counter 96 = .ok (.bipush (-9), 2) := by decide +kernel
theorem dX9_counter_98 : decode cX9_counter 98 = .ok (.iload_n 1, 1) := by decide +kernel
theorem dX9_counter_99 : decode cX9_counter 99 = .ok (.iconst 2, 1) := by decide +kernel
theorem dX9_counter_100 : decode cX9_counter 100 = .ok (.invokevirtual 183, 3) := by decide +kernel
theorem dX9_counter_103 : decode cX9_counter 103 = .ok (.aload_n 0, 1) := by decide +kernel
theorem dX9_counter_104 : decode cX9_counter 104 = .ok (.getfield 35, 3) := by decide +kernel
theorem dX9_counter_107 : decode cX9_counter 107 = .ok (.imul, 1) := by decide +kernel
theorem dX9_counter_108 : decode cX9_counter 108 = .ok (.isub, 1) := by decide +kernel
theorem dX9_counter_109 : decode cX9_counter 109 = .ok (.ireturn, 1) := by decide +kernel
theorem dX9_counter_110 : decode cX9_counter 110 = .ok (.bipush (-2), 2) := by decide +kernel
theorem dX9_counter_112 : decode cX9_counter 112 = .ok (.ireturn, 1) := by decide +kernel
theorem dX9_barred_0 : decode cX9_barred 0 = .ok (.aload_n 0, 1) := by decide +kernel
theorem dX9_barred_1 : decode cX9_barred 1 = .ok (.iconst 0, 1) := by decide +kernel
theorem dX9_barred_2 : decode cX9_barred 2 = .ok (.putfield 117, 3) := by decide +kernel
theorem dX9_barred_5 : decode cX9_barred 5 = .ok (.aload_n 0, 1) := by decide +kernel
theorem dX9_barred_6 : decode cX9_barred 6 = .ok (.iload_n 1, 1) := by decide +kernel
theorem dX9_barred_7 : decode cX9_barred 7 = .ok (.invokevirtual 180, 3) := by decide +kernel
theorem dX9_barred_10 : decode cX9_barred 10 = .ok (.ifCond .ne 11, 3) := by decide +kernel
theorem dX9_barred_13 : decode cX9_barred 13 = .ok (.aload_n 0, 1) := by decide +kernel
theorem dX9_barred_14 : decode cX9_barred 14 = .ok (.iload_n 2, 1) := by decide +kernel
theorem dX9_barred_15 : decode cX9_barred 15 = .ok (.invokevirtual 187, 3) := by decide +kernel
theorem dX9_barred_18 : decode cX9_barred 18 = .ok (.ifCond .eq 5, 3) := by decide +kernel
theorem dX9_barred_21 : decode cX9_barred 21 = .ok (.iconst (-1), 1) := by decide +kernel
theorem dX9_barred_22 : decode cX9_barred 22 = .ok (.ireturn, 1) := by decide +kernel
theorem dX9_barred_23 : decode cX9_barred 23 = .ok (.aload_n 0, 1) := by decide +kernel
theorem dX9_barred_24 : decode cX9_barred 24 = .ok (.getfield 25, 3) := by decide +kernel
theorem dX9_barred_27 : decode cX9_barred 27 = .ok (.iconst 4, 1) := by decide +kernel
theorem dX9_barred_28 : decode cX9_barred 28 = .ok (.iload_n 1, 1) := by decide +kernel
theorem dX9_barred_29 : decode cX9_barred 29 = .ok (.imul, 1) := by decide +kernel
theorem dX9_barred_30 : decode cX9_barred 30 = .ok (.iload_n 2, 1) := by decide +kernel
theorem dX9_barred_31 : decode cX9_barred 31 = .ok (.iadd, 1) := by decide +kernel
theorem dX9_barred_32 : decode cX9_barred 32 = .ok (.baload, 1) := by decide +kernel
theorem dX9_barred_33 : decode cX9_barred 33 = .ok (.ifCond .eq 7, 3) := by decide +kernel
theorem dX9_barred_36 : decode cX9_barred 36 = .ok (.iconst 1, 1) := by decide +kernel
theorem dX9_barred_37 : decode cX9_barred 37 = .ok (.goto 4, 3) := by decide +kernel
theorem dX9_barred_40 : decode cX9_barred 40 = .ok (.iconst 0, 1) := by decide +kernel
theorem dX9_barred_41 : decode cX9_barred 41 = .ok (.ireturn, 1) := by decide +kernel
theorem dX9_plaster_0 : decode cX9_plaster 0 = .ok (.aload_n 0, 1) := by decide +kernel
theorem dX9_plaster_1 : decode cX9_plaster 1 = .ok (.iconst 0, 1) := by decide +kernel
theorem dX9_plaster_2 : decode cX9_plaster 2 = .ok (.putfield 117, 3) := by decide +kernel
theorem dX9_plaster_5 : decode cX9_plaster 5 = .ok (.aload_n 0, 1) := by decide +kernel
theorem dX9_plaster_6 : decode cX9_plaster 6 = .ok (.iload_n 1, 1) := by decide +kernel
theorem dX9_plaster_7 : decode cX9_plaster 7 = .ok (.invokevirtual 180, 3) := by decide +kernel
theorem dX9_plaster_10 : decode cX9_plaster 10 = .ok (.ifCond .eq 5, 3) := by decide +kernel
theorem dX9_plaster_13 : decode cX9_plaster 13 = .ok (.iconst (-1), 1) := by decide +kernel
theorem dX9_plaster_14 : decode cX9_plaster 14 = .ok (.ireturn, 1) := by decide +kernel
theorem dX9_plaster_15 : decode cX9_plaster 15 = .ok (.iload_n 2, 1) := by decide +kernel
theorem dX9_plaster_16 : decode cX9_plaster 16 = .ok (.i2l, 1) := by decide +kernel
theorem dX9_plaster_17 : decode cX9_plaster 17 = .ok (.lconst 1, 1) := by decide +kernel
theorem dX9_plaster_18 : decode cX9_plaster 18 = .ok (.ldc2_w 191, 3) := by decide +kernel
theorem dX9_plaster_21 : decode cX9_plaster 21 = .ok (.invokestatic 123, 3) := by decide +kernel
theorem dX9_plaster_24 : decode cX9_plaster 24 = .ok (.ifCond .ne 6, 3) := by decide +kernel
theorem dX9_plaster_27 : decode cX9_plaster 27 = .ok (.bipush (-2), 2) := by decide +kernel
theorem dX9_plaster_29 : decode cX9_plaster 29 = .ok (.ireturn, 1) := by decide +kernel
theorem dX9_plaster_30 : decode cX9_plaster 30 = .ok (.aload_n 0, 1) := by decide +kernel
theorem dX9_plaster_31 : decode cX9_plaster 31 = .ok (.getfield 13, 3) := by decide +kernel
theorem dX9_plaster_34 : decode cX9_plaster 34 = .ok (.iload_n 1, 1) := by decide +kernel
theorem dX9_plaster_35 : decode cX9_plaster 35 = .ok (.iaload, 1) := by decide +kernel
theorem dX9_plaster_36 : decode cX9_plaster 36 = .ok (.istore_n 3, 1) := by decide +kernel
theorem dX9_plaster_37 : decode cX9_plaster 37 = .ok (.aload_n 0, 1) := by decide +kernel
theorem dX9_plaster_38 : decode cX9_plaster 38 = .ok (.getfield 13, 3) := by decide +kernel
theorem dX9_plaster_41 : decode cX9_plaster 41 = .ok (.iload_n 1, 1) := by decide +kernel
theorem dX9_plaster_42 : decode cX9_plaster 42 = .ok (.iload_n 2, 1) := by decide +kernel
theorem dX9_plaster_43 : decode cX9_plaster 43 = .ok (.iastore, 1) := by decide +kernel
theorem dX9_plaster_44 : decode cX9_plaster 44 = .ok (.iload_n 3, 1) := by decide +kernel
theorem dX9_plaster_45 : decode cX9_plaster 45 = .ok (.ireturn, 1) := by decide +kernel
theorem dX9_common_0 : decode cX9_common 0 = .ok (.aload_n 0, 1) := by decide +kernel
theorem dX9_common_1 : decode cX9_common 1 = .ok (.iconst 0, 1) := by decide +kernel
theorem dX9_common_2 : decode cX9_common 2 = .ok (.putfield 117, 3) := by decide +kernel
theorem dX9_common_5 : decode cX9_common 5 = .ok (.iload_n 1, 1) := by decide +kernel
theorem dX9_common_6 : decode cX9_common 6 = .ok (.i2l, 1) := by decide +kernel
theorem dX9_common_7 : decode cX9_common 7 = .ok (.lconst 1, 1) := by decide +kernel
theorem dX9_common_8 : decode cX9_common 8 = .ok (.ldc2_w 191, 3) := by decide +kernel
theorem dX9_common_11 : decode cX9_common 11 = .ok (.invokestatic 123, 3) := by decide +kernel
theorem dX9_common_14 : decode cX9_common 14 = .ok (.ifCond .ne 6, 3) := by decide +kernel
theorem dX9_common_17 : decode cX9_common 17 = .ok (.bipush (-2), 2) := by decide +kernel
theorem dX9_common_19 : decode cX9_common 19 = .ok (.ireturn, 1) := by decide +kernel
theorem dX9_common_20 : decode cX9_common 20 = .ok (.aload_n 0, 1) := by decide +kernel
theorem dX9_common_21 : decode cX9_common 21 = .ok (.getfield 35, 3) := by decide +kernel
theorem dX9_common_24 : decode cX9_common 24 = .ok (.istore_n 2, 1) := by decide +kernel
theorem dX9_common_25 : decode cX9_common 25 = .ok (.aload_n 0, 1) := by decide +kernel
theorem dX9_common_26 : decode cX9_common 26 = .ok (.iload_n 1, 1) := by decide +kernel
theorem dX9_common_27 : decode cX9_common 27 = .ok (.putfield 35, 3) := by decide +kernel
theorem dX9_common_30 : decode cX9_common 30 = .ok (.iload_n 2, 1) := by decide +kernel
theorem dX9_common_31 : decode cX9_common 31 = .ok (.ireturn, 1) := by decide +kernel
theorem dX9_buy_0 : decode cX9_buy 0 = .ok (.aload_n 0, 1) := by decide +kernel
theorem dX9_buy_1 : decode cX9_buy 1 = .ok (.iconst 0, 1) := by decide +kernel
theorem dX9_buy_2 : decode cX9_buy 2 = .ok (.putfield 117, 3) := by decide +kernel
theorem dX9_buy_5 : decode cX9_buy 5 = .ok (.aload_n 0, 1) := by decide +kernel
theorem dX9_buy_6 : decode cX9_buy 6 = .ok (.iload_n 1, 1) := by decide +kernel
theorem dX9_buy_7 : decode cX9_buy 7 = .ok (.invokevirtual 180, 3) := by decide +kernel
theorem dX9_buy_10 : decode cX9_buy 10 = .ok (.ifCond .ne 11, 3) := by decide +kernel
theorem dX9_buy_13 : decode cX9_buy 13 = .ok (.aload_n 0, 1) := by decide +kernel
theorem dX9_buy_14 : decode cX9_buy 14 = .ok (.iload_n 2, 1) := by decide +kernel
theorem dX9_buy_15 : decode cX9_buy 15 = .ok (.invokevirtual 187, 3) := by decide +kernel
theorem dX9_buy_18 : decode cX9_buy 18 = .ok (.ifCond .eq 5, 3) := by decide +kernel
theorem dX9_buy_21 : decode cX9_buy 21 = .ok (.iconst (-1), 1) := by decide +kernel
theorem dX9_buy_22 : decode cX9_buy 22 = .ok (.ireturn, 1) := by decide +kernel
theorem dX9_buy_23 : decode cX9_buy 23 = .ok (.iload_n 3, 1) := by decide +kernel
theorem dX9_buy_24 : decode cX9_buy 24 = .ok (.i2l, 1) := by decide +kernel
theorem dX9_buy_25 : decode cX9_buy 25 = .ok (.lconst 1, 1) := by decide +kernel
theorem dX9_buy_26 : decode cX9_buy 26 = .ok (.ldc2_w 191, 3) := by decide +kernel
theorem dX9_buy_29 : decode cX9_buy 29 = .ok (.invokestatic 123, 3) := by decide +kernel
theorem dX9_buy_32 : decode cX9_buy 32 = .ok (.ifCond .ne 6, 3) := by decide +kernel
theorem dX9_buy_35 : decode cX9_buy 35 = .ok (.bipush (-2), 2) := by decide +kernel
theorem dX9_buy_37 : decode cX9_buy 37 = .ok (.ireturn, 1) := by decide +kernel
theorem dX9_buy_38 : decode cX9_buy 38 = .ok (.aload_n 0, 1) := by decide +kernel
theorem dX9_buy_39 : decode cX9_buy 39 = .ok (.getfield 25, 3) := by decide +kernel
theorem dX9_buy_42 : decode cX9_buy 42 = .ok (.iconst 4, 1) := by decide +kernel
theorem dX9_buy_43 : decode cX9_buy 43 = .ok (.iload_n 1, 1) := by decide +kernel
theorem dX9_buy_44 : decode cX9_buy 44 = .ok (.imul, 1) := by decide +kernel
theorem dX9_buy_45 : decode cX9_buy 45 = .ok (.iload_n 2, 1) := by decide +kernel
theorem dX9_buy_46 : decode cX9_buy 46 = .ok (.iadd, 1) := by decide +kernel
theorem dX9_buy_47 : decode cX9_buy 47 = .ok (.baload, 1) := by decide +kernel
theorem dX9_buy_48 : decode cX9_buy 48 = .ok (.ifCond .ne 20, 3) := by decide +kernel
theorem dX9_buy_51 : decode cX9_buy 51 = .ok (.iload_n 3, 1) := by decide +kernel
theorem dX9_buy_52 : decode cX9_buy 52 = .ok (.aload_n 0, 1) := by decide +kernel
theorem dX9_buy_53 : decode cX9_buy 53 = .ok (.getfield 13, 3) := by decide +kernel
theorem dX9_buy_56 : decode cX9_buy 56 = .ok (.iload_n 1, 1) := by decide +kernel
theorem dX9_buy_57 : decode cX9_buy 57 = .ok (.iaload, 1) := by decide +kernel
theorem dX9_buy_58 : decode cX9_buy 58 = .ok (.imul, 1) := by decide +kernel
theorem dX9_buy_59 : decode cX9_buy 59 = .ok (.aload_n 0, 1) := by decide +kernel
theorem dX9_buy_60 : decode cX9_buy 60 = .ok (.getfield 22, 3) := by decide +kernel
theorem dX9_buy_63 : decode cX9_buy 63 = .ok (.iload_n 2, 1) := by decide +kernel
theorem dX9_buy_64 : decode cX9_buy 64 = .ok (.iaload, 1) := by decide +kernel
theorem dX9_buy_65 : decode cX9_buy 65 = .ok (.if_icmp .le 6, 3) := by decide +kernel
theorem dX9_buy_68 : decode cX9_buy 68 = .ok (.bipush (-3), 2) := by decide +kernel
theorem dX9_buy_70 : decode cX9_buy 70 = .ok (.ireturn, 1) := by decide +kernel
theorem dX9_buy_71 : decode cX9_buy 71 = .ok (.aload_n 0, 1) := by decide +kernel
theorem dX9_buy_72 : decode cX9_buy 72 = .ok (.getfield 177, 3) := by decide +kernel
theorem dX9_buy_75 : decode cX9_buy 75 = .ok (.bipush 12, 2) := by decide +kernel
theorem dX9_buy_77 : decode cX9_buy 77 = .ok (.if_icmp .ne 6, 3) := by decide +kernel
theorem dX9_buy_80 : decode cX9_buy 80 = .ok (.bipush (-4), 2) := by decide +kernel
theorem dX9_buy_82 : decode cX9_buy 82 = .ok (.ireturn, 1) := by decide +kernel
theorem dX9_buy_83 : decode cX9_buy 83 = .ok (.aload_n 0, 1) := by decide +kernel
theorem dX9_buy_84 : decode cX9_buy 84 = .ok (.getfield 54, 3) := by decide +kernel
theorem dX9_buy_87 : decode cX9_buy 87 = .ok (.aload_n 0, 1) := by decide +kernel
theorem dX9_buy_88 : decode cX9_buy 88 = .ok (.getfield 177, 3) := by decide +kernel
theorem dX9_buy_91 : decode cX9_buy 91 = .ok (.iload_n 1, 1) := by decide +kernel
theorem dX9_buy_92 : decode cX9_buy 92 = .ok (.iastore, 1) := by decide +kernel
theorem dX9_buy_93 : decode cX9_buy 93 = .ok (.aload_n 0, 1) := by decide +kernel
theorem dX9_buy_94 : decode cX9_buy 94 = .ok (.getfield 57, 3) := by decide +kernel
theorem dX9_buy_97 : decode cX9_buy 97 = .ok (.aload_n 0, 1) := by decide +kernel
theorem dX9_buy_98 : decode cX9_buy 98 = .ok (.getfield 177, 3) := by decide +kernel
theorem dX9_buy_101 : decode cX9_buy 101 = .ok (.iload_n 2, 1) := by decide +kernel
theorem dX9_buy_102 : decode cX9_buy 102 = .ok (.iastore, 1) := by decide +kernel
theorem dX9_buy_103 : decode cX9_buy 103 = .ok (.aload_n 0, 1) := by decide +kernel
theorem dX9_buy_104 : decode cX9_buy 104 = .ok (.getfield 60, 3) := by decide +kernel
theorem dX9_buy_107 : decode cX9_buy 107 = .ok (.aload_n 0, 1) := by decide +kernel
theorem dX9_buy_108 : decode cX9_buy 108 = .ok (.getfield 177, 3) := by decide +kernel
theorem dX9_buy_111 : decode cX9_buy 111 = .ok (.iload_n 3, 1) := by decide +kernel
theorem dX9_buy_112 : decode cX9_buy 112 = .ok (.iastore, 1) := by decide +kernel
theorem dX9_buy_113 : decode cX9_buy 113 = .ok (.aload_n 0, 1) := by decide +kernel
theorem dX9_buy_114 : decode cX9_buy 114 = .ok (.getfield 63, 3) := by decide +kernel
theorem dX9_buy_117 : decode cX9_buy 117 = .ok (.aload_n 0, 1) := by decide +kernel
theorem dX9_buy_118 : decode cX9_buy 118 = .ok (.getfield 177, 3) := by decide +kernel
theorem dX9_buy_121 : decode cX9_buy 121 = .ok (.iload_n 3, 1) := by decide +kernel
theorem dX9_buy_122 : decode cX9_buy 122 = .ok (.aload_n 0, 1) := by decide +kernel
theorem dX9_buy_123 : decode cX9_buy 123 = .ok (.getfield 13, 3) := by decide +kernel
theorem dX9_buy_126 : decode cX9_buy 126 = .ok (.iload_n 1, 1) := by decide +kernel
theorem dX9_buy_127 : decode cX9_buy 127 = .ok (.iaload, 1) := by decide +kernel
theorem dX9_buy_128 : decode cX9_buy 128 = .ok (.imul, 1) := by decide +kernel
theorem dX9_buy_129 : decode cX9_buy 129 = .ok (.iastore, 1) := by decide +kernel
theorem dX9_buy_130 : decode cX9_buy 130 = .ok (.aload_n 0, 1) := by decide +kernel
theorem dX9_buy_131 : decode cX9_buy 131 = .ok (.getfield 22, 3) := by decide +kernel
theorem dX9_buy_134 : decode cX9_buy 134 = .ok (.iload_n 2, 1) := by decide +kernel
theorem dX9_buy_135 : decode cX9_buy 135 = .ok (.dup2, 1) := by decide +kernel
theorem dX9_buy_136 : decode cX9_buy 136 = .ok (.iaload, 1) := by decide +kernel
theorem dX9_buy_137 : decode cX9_buy 137 = .ok (.iload_n 3, 1) := by decide +kernel
theorem dX9_buy_138 : decode cX9_buy 138 = .ok (.aload_n 0, 1) := by decide +kernel
theorem dX9_buy_139 : decode cX9_buy 139 = .ok (.getfield 13, 3) := by decide +kernel
theorem dX9_buy_142 : decode cX9_buy 142 = .ok (.iload_n 1, 1) := by decide +kernel
theorem dX9_buy_143 : decode cX9_buy 143 = .ok (.iaload, 1) := by decide +kernel
theorem dX9_buy_144 : decode cX9_buy 144 = .ok (.imul, 1) := by decide +kernel
theorem dX9_buy_145 : decode cX9_buy 145 = .ok (.isub, 1) := by decide +kernel
theorem dX9_buy_146 : decode cX9_buy 146 = .ok (.iastore, 1) := by decide +kernel
theorem dX9_buy_147 : decode cX9_buy 147 = .ok (.aload_n 0, 1) := by decide +kernel
theorem dX9_buy_148 : decode cX9_buy 148 = .ok (.dup, 1) := by decide +kernel
theorem dX9_buy_149 : decode cX9_buy 149 = .ok (.getfield 177, 3) := by decide +kernel
theorem dX9_buy_152 : decode cX9_buy 152 = .ok (.iconst 1, 1) := by decide +kernel
theorem dX9_buy_153 : decode cX9_buy 153 = .ok (.iadd, 1) := by decide +kernel
theorem dX9_buy_154 : decode cX9_buy 154 = .ok (.putfield 177, 3) := by decide +kernel
theorem dX9_buy_157 : decode cX9_buy 157 = .ok (.iload_n 3, 1) := by decide +kernel
theorem dX9_buy_158 : decode cX9_buy 158 = .ok (.aload_n 0, 1) := by decide +kernel
theorem dX9_buy_159 : decode cX9_buy 159 = .ok (.getfield 13, 3) := by decide +kernel
theorem dX9_buy_162 : decode cX9_buy 162 = .ok (.iload_n 1, 1) := by decide +kernel
theorem dX9_buy_163 : decode cX9_buy 163 = .ok (.iaload, 1) := by decide +kernel
theorem dX9_buy_164 : decode cX9_buy 164 = .ok (.imul, 1) := by decide +kernel
theorem dX9_buy_165 : decode cX9_buy 165 = .ok (.ireturn, 1) := by decide +kernel
theorem dX9_undo_0 : decode cX9_undo 0 = .ok (.aload_n 0, 1) := by decide +kernel
theorem dX9_undo_1 : decode cX9_undo 1 = .ok (.iconst 0, 1) := by decide +kernel
theorem dX9_undo_2 : decode cX9_undo 2 = .ok (.putfield 117, 3) := by decide +kernel
theorem dX9_undo_5 : decode cX9_undo 5 = .ok (.aload_n 0, 1) := by decide +kernel
theorem dX9_undo_6 : decode cX9_undo 6 = .ok (.getfield 177, 3) := by decide +kernel
theorem dX9_undo_9 : decode cX9_undo 9 = .ok (.ifCond .ne 6, 3) := by decide +kernel
theorem dX9_undo_12 : decode cX9_undo 12 = .ok (.bipush (-3), 2) := by decide +kernel
theorem dX9_undo_14 : decode cX9_undo 14 = .ok (.ireturn, 1) := by decide +kernel
theorem dX9_undo_15 : decode cX9_undo 15 = .ok (.aload_n 0, 1) := by decide +kernel
theorem dX9_undo_16 : decode cX9_undo 16 = .ok (.dup, 1) := by decide +kernel
theorem dX9_undo_17 : decode cX9_undo 17 = .ok (.getfield 177, 3) := by decide +kernel
theorem dX9_undo_20 : decode cX9_undo 20 = .ok (.iconst 1, 1) := by decide +kernel
theorem dX9_undo_21 : decode cX9_undo 21 = .ok (.isub, 1) := by decide +kernel
theorem dX9_undo_22 : decode cX9_undo 22 = .ok (.putfield 177, 3) := by decide +kernel
theorem dX9_undo_25 : decode cX9_undo 25 = .ok (.aload_n 0, 1) := by decide +kernel
theorem dX9_undo_26 : decode cX9_undo 26 = .ok (.getfield 22, 3) := by decide +kernel
theorem dX9_undo_29 : decode cX9_undo 29 = .ok (.aload_n 0, 1) := by decide +kernel
theorem dX9_undo_30 : decode cX9_undo 30 = .ok (.getfield 57, 3) := by decide +kernel
theorem dX9_undo_33 : decode cX9_undo 33 = .ok (.aload_n 0, 1) := by decide +kernel
theorem dX9_undo_34 : decode cX9_undo 34 = .ok (.getfield 177, 3) := by decide +kernel
theorem dX9_undo_37 : decode cX9_undo 37 = .ok (.iaload, 1) := by decide +kernel
theorem dX9_undo_38 : decode cX9_undo 38 = .ok (.dup2, 1) := by decide +kernel
theorem dX9_undo_39 : decode cX9_undo 39 = .ok (.iaload, 1) := by decide +kernel
theorem dX9_undo_40 : decode cX9_undo 40 = .ok (.aload_n 0, 1) := by decide +kernel
theorem dX9_undo_41 : decode cX9_undo 41 = .ok (.getfield 63, 3) := by decide +kernel
theorem dX9_undo_44 : decode cX9_undo 44 = .ok (.aload_n 0, 1) := by decide +kernel
theorem dX9_undo_45 : decode cX9_undo 45 = .ok (.getfield 177, 3) := by decide +kernel
theorem dX9_undo_48 : decode cX9_undo 48 = .ok (.iaload, 1) := by decide +kernel
theorem dX9_undo_49 : decode cX9_undo 49 = .ok (.iadd, 1) := by decide +kernel
theorem dX9_undo_50 : decode cX9_undo 50 = .ok (.iastore, 1) := by decide +kernel
theorem dX9_undo_51 : decode cX9_undo 51 = .ok (.aload_n 0, 1) := by decide +kernel
theorem dX9_undo_52 : decode cX9_undo 52 = .ok (.getfield 177, 3) := by decide +kernel
theorem dX9_undo_55 : decode cX9_undo 55 = .ok (.ireturn, 1) := by decide +kernel
theorem dX9_sale_0 : decode cX9_sale 0 = .ok (.aload_n 0, 1) := by decide +kernel
theorem dX9_sale_1 : decode cX9_sale 1 = .ok (.iconst 0, 1) := by decide +kernel
theorem dX9_sale_2 : decode cX9_sale 2 = .ok (.putfield 117, 3) := by decide +kernel
theorem dX9_sale_5 : decode cX9_sale 5 = .ok (.iload_n 2, 1) := by decide +kernel
theorem dX9_sale_6 : decode cX9_sale 6 = .ok (.i2l, 1) := by decide +kernel
theorem dX9_sale_7 : decode cX9_sale 7 = .ok (.lconst 0, 1) := by decide +kernel
theorem dX9_sale_8 : decode cX9_sale 8 = .ok (.ldc2_w 193, 3) := by decide +kernel
theorem dX9_sale_11 : decode cX9_sale 11 = .ok (.invokestatic 123, 3) := by decide +kernel
theorem dX9_sale_14 : decode cX9_sale 14 = .ok (.ifCond .ne 6, 3) := by decide +kernel
theorem dX9_sale_17 : decode cX9_sale 17 = .ok (.bipush (-2), 2) := by decide +kernel
theorem dX9_sale_19 : decode cX9_sale 19 = .ok (.ireturn, 1) := by decide +kernel
theorem dX9_sale_20 : decode cX9_sale 20 = .ok (.iload_n 1, 1) := by decide +kernel
theorem dX9_sale_21 : decode cX9_sale 21 = .ok (.i2l, 1) := by decide +kernel
theorem dX9_sale_22 : decode cX9_sale 22 = .ok (.lconst 0, 1) := by decide +kernel
theorem dX9_sale_23 : decode cX9_sale 23 = .ok (.aload_n 0, 1) := by decide +kernel
theorem dX9_sale_24 : decode cX9_sale 24 = .ok (.getfield 177, 3) := by decide +kernel
theorem dX9_sale_27 : decode cX9_sale 27 = .ok (.iconst 1, 1) := by decide +kernel
theorem dX9_sale_28 : decode cX9_sale 28 = .ok (.isub, 1) := by decide +kernel
theorem dX9_sale_29 : decode cX9_sale 29 = .ok (.i2l, 1) := by decide +kernel
theorem dX9_sale_30 : decode cX9_sale 30 = .ok (.invokestatic 123, 3) := by decide +kernel
theorem dX9_sale_33 : decode cX9_sale 33 = .ok (.ifCond .ne 6, 3) := by decide +kernel
theorem dX9_sale_36 : decode cX9_sale 36 = .ok (.bipush (-9), 2) := by decide +kernel
theorem dX9_sale_38 : decode cX9_sale 38 = .ok (.ireturn, 1) := by decide +kernel
theorem dX9_sale_39 : decode cX9_sale 39 = .ok (.iload_n 2, 1) := by decide +kernel
theorem dX9_sale_40 : decode cX9_sale 40 = .ok (.ifCond .ne 12, 3) := by decide +kernel
theorem dX9_sale_43 : decode cX9_sale 43 = .ok (.aload_n 0, 1) := by decide +kernel
theorem dX9_sale_44 : decode cX9_sale 44 = .ok (.getfield 54, 3) := by decide +kernel
theorem dX9_sale_47 : decode cX9_sale 47 = .ok (.iload_n 1, 1) := by decide +kernel
theorem dX9_sale_48 : decode cX9_sale 48 = .ok (.iaload, 1) := by decide +kernel
theorem dX9_sale_49 : decode cX9_sale 49 = .ok (.goto 37, 3) := by decide +kernel
theorem dX9_sale_52 : decode cX9_sale 52 = .ok (.iload_n 2, 1) := by decide +kernel
theorem dX9_sale_53 : decode cX9_sale 53 = .ok (.iconst 1, 1) := by decide +kernel
theorem dX9_sale_54 : decode cX9_sale 54 = .ok (.if_icmp .ne 12, 3) := by decide +kernel
theorem dX9_sale_57 : decode cX9_sale 57 = .ok (.aload_n 0, 1) := by decide +kernel
theorem dX9_sale_58 : decode cX9_sale 58 = .ok (.getfield 57, 3) := by decide +kernel
theorem dX9_sale_61 : decode cX9_sale 61 = .ok (.iload_n 1, 1) := by decide +kernel
theorem dX9_sale_62 : decode cX9_sale 62 = .ok (.iaload, 1) := by decide +kernel
theorem dX9_sale_63 : decode cX9_sale 63 = .ok (.goto 23, 3) := by decide +kernel
theorem dX9_sale_66 : decode cX9_sale 66 = .ok (.iload_n 2, 1) := by decide +kernel
theorem dX9_sale_67 : decode cX9_sale 67 = .ok (.iconst 2, 1) := by decide +kernel
theorem dX9_sale_68 : decode cX9_sale 68 = .ok (.if_icmp .ne 12, 3) := by decide +kernel
theorem dX9_sale_71 : decode cX9_sale 71 = .ok (.aload_n 0, 1) := by decide +kernel
theorem dX9_sale_72 : decode cX9_sale 72 = .ok (.getfield 60, 3) := by decide +kernel
theorem dX9_sale_75 : decode cX9_sale 75 = .ok (.iload_n 1, 1) := by decide +kernel
theorem dX9_sale_76 : decode cX9_sale 76 = .ok (.iaload, 1) := by decide +kernel
theorem dX9_sale_77 : decode cX9_sale 77 = .ok (.goto 9, 3) := by decide +kernel
theorem dX9_sale_80 : decode cX9_sale 80 = .ok (.aload_n 0, 1) := by decide +kernel
theorem dX9_sale_81 : decode cX9_sale 81 = .ok (.getfield 63, 3) := by decide +kernel
theorem dX9_sale_84 : decode cX9_sale 84 = .ok (.iload_n 1, 1) := by decide +kernel
theorem dX9_sale_85 : decode cX9_sale 85 = .ok (.iaload, 1) := by decide +kernel
theorem dX9_sale_86 : decode cX9_sale 86 = .ok (.ireturn, 1) := by decide +kernel
theorem dX9_divisor_0 : decode cX9_divisor 0 = .ok (.lload_n 0, 1) := by decide +kernel
theorem dX9_divisor_1 : decode cX9_divisor 1 = .ok (.lstore 4, 2) := by decide +kernel
theorem dX9_divisor_3 : decode cX9_divisor 3 = .ok (.lload_n 2, 1) := by decide +kernel
theorem dX9_divisor_4 : decode cX9_divisor 4 = .ok (.lstore 6, 2) := by decide +kernel
theorem dX9_divisor_6 : decode cX9_divisor 6 = .ok (.lload 6, 2) := by decide +kernel
theorem dX9_divisor_8 : decode cX9_divisor 8 = .ok (.lconst 0, 1) := by decide +kernel
theorem dX9_divisor_9 : decode cX9_divisor 9 = .ok (.lcmp, 1) := by decide +kernel
theorem dX9_divisor_10 : decode cX9_divisor 10 = .ok (.ifCond .eq 21, 3) := by decide +kernel
theorem dX9_divisor_13 : decode cX9_divisor 13 = .ok (.lload 4, 2) := by decide +kernel
theorem dX9_divisor_15 : decode cX9_divisor 15 = .ok (.lload 6, 2) := by decide +kernel
theorem dX9_divisor_17 : decode cX9_divisor 17 = .ok (.lrem, 1) := by decide +kernel
theorem dX9_divisor_18 : decode cX9_divisor 18 = .ok (.lstore 8, 2) := by decide +kernel
theorem dX9_divisor_20 : decode cX9_divisor 20 = .ok (.lload 6, 2) := by decide +kernel
theorem dX9_divisor_22 : decode cX9_divisor 22 = .ok (.lstore 4, 2) := by decide +kernel
theorem dX9_divisor_24 : decode cX9_divisor 24 = .ok (.lload 8, 2) := by decide +kernel
theorem dX9_divisor_26 : decode cX9_divisor 26 = .ok (.lstore 6, 2) := by decide +kernel
theorem dX9_divisor_28 : decode cX9_divisor 28 = .ok (.goto (-22), 3) := by decide +kernel
theorem dX9_divisor_31 : decode cX9_divisor 31 = .ok (.lload 4, 2) := by decide +kernel
theorem dX9_divisor_33 : decode cX9_divisor 33 = .ok (.lreturn, 1) := by decide +kernel
theorem dX9_truly_0 : decode cX9_truly 0 = .ok (.aload_n 0, 1) := by decide +kernel
theorem dX9_truly_1 : decode cX9_truly 1 = .ok (.iconst 0, 1) := by decide +kernel
theorem dX9_truly_2 : decode cX9_truly 2 = .ok (.putfield 117, 3) := by decide +kernel
theorem dX9_truly_5 : decode cX9_truly 5 = .ok (.aload_n 0, 1) := by decide +kernel
theorem dX9_truly_6 : decode cX9_truly 6 = .ok (.iload_n 1, 1) := by decide +kernel
theorem dX9_truly_7 : decode cX9_truly 7 = .ok (.invokevirtual 180, 3) := by decide +kernel
theorem dX9_truly_10 : decode cX9_truly 10 = .ok (.ifCond .ne 11, 3) := by decide +kernel
theorem dX9_truly_13 : decode cX9_truly 13 = .ok (.aload_n 0, 1) := by decide +kernel
theorem dX9_truly_14 : decode cX9_truly 14 = .ok (.iload_n 2, 1) := by decide +kernel
theorem dX9_truly_15 : decode cX9_truly 15 = .ok (.invokevirtual 187, 3) := by decide +kernel
theorem dX9_truly_18 : decode cX9_truly 18 = .ok (.ifCond .eq 5, 3) := by decide +kernel
theorem dX9_truly_21 : decode cX9_truly 21 = .ok (.iconst (-1), 1) := by decide +kernel
theorem dX9_truly_22 : decode cX9_truly 22 = .ok (.ireturn, 1) := by decide +kernel
theorem dX9_truly_23 : decode cX9_truly 23 = .ok (.aload_n 0, 1) := by decide +kernel
theorem dX9_truly_24 : decode cX9_truly 24 = .ok (.getfield 19, 3) := by decide +kernel
theorem dX9_truly_27 : decode cX9_truly 27 = .ok (.iload_n 2, 1) := by decide +kernel
theorem dX9_truly_28 : decode cX9_truly 28 = .ok (.iaload, 1) := by decide +kernel
theorem dX9_truly_29 : decode cX9_truly 29 = .ok (.i2l, 1) := by decide +kernel
theorem dX9_truly_30 : decode cX9_truly 30 = .ok (.aload_n 0, 1) := by decide +kernel
theorem dX9_truly_31 : decode cX9_truly 31 = .ok (.getfield 13, 3) := by decide +kernel
theorem dX9_truly_34 : decode cX9_truly 34 = .ok (.iload_n 1, 1) := by decide +kernel
theorem dX9_truly_35 : decode cX9_truly 35 = .ok (.iaload, 1) := by decide +kernel
theorem dX9_truly_36 : decode cX9_truly 36 = .ok (.i2l, 1) := by decide +kernel
theorem dX9_truly_37 : decode cX9_truly 37 = .ok (.invokestatic 195, 3) := by decide +kernel
theorem dX9_truly_40 : decode cX9_truly 40 = .ok (.l2i, 1) := by decide +kernel
theorem dX9_truly_41 : decode cX9_truly 41 = .ok (.istore 4, 2) := by decide +kernel
theorem dX9_truly_43 : decode cX9_truly 43 = .ok (.iload_n 3, 1) := by decide +kernel
theorem dX9_truly_44 : decode cX9_truly 44 = .ok (.ifCond .eq 15, 3) := by decide +kernel
theorem dX9_truly_47 : decode cX9_truly 47 = .ok (.aload_n 0, 1) := by decide +kernel
theorem dX9_truly_48 : decode cX9_truly 48 = .ok (.getfield 19, 3) := by decide +kernel
theorem dX9_truly_51 : decode cX9_truly 51 = .ok (.iload_n 2, 1) := by decide +kernel
theorem dX9_truly_52 : decode cX9_truly 52 = .ok (.iaload, 1) := by decide +kernel
theorem dX9_truly_53 : decode cX9_truly 53 = .ok (.iload 4, 2) := by decide +kernel
theorem dX9_truly_55 : decode cX9_truly 55 = .ok (.idiv, 1) := by decide +kernel
theorem dX9_truly_56 : decode cX9_truly 56 = .ok (.goto 12, 3) := by decide +kernel
theorem dX9_truly_59 : decode cX9_truly 59 = .ok (.aload_n 0, 1) := by decide +kernel
theorem dX9_truly_60 : decode cX9_truly 60 = .ok (.getfield 13, 3) := by decide +kernel
theorem dX9_truly_63 : decode cX9_truly 63 = .ok (.iload_n 1, 1) := by decide +kernel
theorem dX9_truly_64 : decode cX9_truly 64 = .ok (.iaload, 1) := by decide +kernel
theorem dX9_truly_65 : decode cX9_truly 65 = .ok (.iload 4, 2) := by decide +kernel
theorem dX9_truly_67 : decode cX9_truly 67 = .ok (.idiv, 1) := by decide +kernel
theorem dX9_truly_68 : decode cX9_truly 68 = .ok (.ireturn, 1) := by decide +kernel
theorem dX9_layFew_0 : decode cX9_layFew 0 = .ok (.iconst 0, 1) := by decide +kernel
theorem dX9_layFew_1 : decode cX9_layFew 1 = .ok (.istore_n 3, 1) := by decide +kernel
theorem dX9_layFew_2 : decode cX9_layFew 2 = .ok (.iload_n 3, 1) := by decide +kernel
theorem dX9_layFew_3 : decode cX9_layFew 3 = .ok (.iload_n 2, 1) := by decide +kernel
theorem dX9_layFew_4 : decode cX9_layFew 4 = .ok (.if_icmp .gt 29, 3) := by decide +kernel
theorem dX9_layFew_7 : decode cX9_layFew 7 = .ok (.aload_n 0, 1) := by decide +kernel
theorem dX9_layFew_8 : decode cX9_layFew 8 = .ok (.getfield 102, 3) := by decide +kernel
theorem dX9_layFew_11 : decode cX9_layFew 11 = .ok (.sipush 6606, 3) := by decide +kernel
theorem dX9_layFew_14 : decode cX9_layFew 14 = .ok (.iload_n 3, 1) := by decide +kernel
theorem dX9_layFew_15 : decode cX9_layFew 15 = .ok (.iadd, 1) := by decide +kernel
theorem dX9_layFew_16 : decode cX9_layFew 16 = .ok (.iload_n 3, 1) := by decide +kernel
theorem dX9_layFew_17 : decode cX9_layFew 17 = .ok (.ifCond .ne 7, 3) := by decide +kernel
theorem dX9_layFew_20 : decode cX9_layFew 20 = .ok (.iconst 0, 1) := by decide +kernel
theorem dX9_layFew_21 : decode cX9_layFew 21 = .ok (.goto 5, 3) := by decide +kernel
theorem dX9_layFew_24 : decode cX9_layFew 24 = .ok (.ldc 199, 2) := by decide +kernel
theorem dX9_layFew_26 : decode cX9_layFew 26 = .ok (.iastore, 1) := by decide +kernel
theorem dX9_layFew_27 : decode cX9_layFew 27 = .ok (.iinc 3 1, 3) := by decide +kernel
theorem dX9_layFew_30 : decode cX9_layFew 30 = .ok (.goto (-28), 3) := by decide +kernel
theorem dX9_layFew_33 : decode cX9_layFew 33 = .ok (.iconst 5, 1) := by decide +kernel
theorem dX9_layFew_34 : decode cX9_layFew 34 = .ok (.istore_n 3, 1) := by decide +kernel
theorem dX9_layFew_35 : decode cX9_layFew 35 = .ok (.iload_n 3, 1) := by decide +kernel
theorem dX9_layFew_36 : decode cX9_layFew 36 = .ok (.ifCond .lt 160, 3) := by decide +kernel
theorem dX9_layFew_39 : decode cX9_layFew 39 = .ok (.sipush 1101, 3) := by decide +kernel
theorem dX9_layFew_42 : decode cX9_layFew 42 = .ok (.iload_n 3, 1) := by decide +kernel
theorem dX9_layFew_43 : decode cX9_layFew 43 = .ok (.imul, 1) := by decide +kernel
theorem dX9_layFew_44 : decode cX9_layFew 44 = .ok (.istore 4, 2) := by decide +kernel
theorem dX9_layFew_46 : decode cX9_layFew 46 = .ok (.iconst 0, 1) := by decide +kernel
theorem dX9_layFew_47 : decode cX9_layFew 47 = .ok (.istore 5, 2) := by decide +kernel
theorem dX9_layFew_49 : decode cX9_layFew 49 = .ok (.iload 5, 2) := by decide +kernel
theorem dX9_layFew_51 : decode cX9_layFew 51 = .ok (.iload_n 2, 1) := by decide +kernel
theorem dX9_layFew_52 : decode cX9_layFew 52 = .ok (.if_icmp .gt 138, 3) := by decide +kernel
theorem dX9_layFew_55 : decode cX9_layFew 55 = .ok (.iload_n 1, 1) := by decide +kernel
theorem dX9_layFew_56 : decode cX9_layFew 56 = .ok (.iload_n 3, 1) := by decide +kernel
theorem dX9_layFew_57 : decode cX9_layFew 57 = .ok (.invokestatic 200, 3) := by decide +kernel
theorem dX9_layFew_60 : decode cX9_layFew 60 = .ok (.ifCond .ne 30, 3) := by decide +kernel
theorem dX9_layFew_63 : decode cX9_layFew 63 = .ok (.aload_n 0, 1) := by decide +kernel
theorem dX9_layFew_64 : decode cX9_layFew 64 = .ok (.getfield 102, 3) := by decide +kernel
theorem dX9_layFew_67 : decode cX9_layFew 67 = .ok (.iload 4, 2) := by decide +kernel
theorem dX9_layFew_69 : decode cX9_layFew 69 = .ok (.iload 5, 2) := by decide +kernel
theorem dX9_layFew_71 : decode cX9_layFew 71 = .ok (.iadd, 1) := by decide +kernel
theorem dX9_layFew_72 : decode cX9_layFew 72 = .ok (.aload_n 0, 1) := by decide +kernel
theorem dX9_layFew_73 : decode cX9_layFew 73 = .ok (.getfield 102, 3) := by decide +kernel
theorem dX9_layFew_76 : decode cX9_layFew 76 = .ok (.iload 4, 2) := by decide +kernel
theorem dX9_layFew_78 : decode cX9_layFew 78 = .ok (.sipush 1101, 3) := by decide +kernel
theorem dX9_layFew_81 : decode cX9_layFew 81 = .ok (.iadd, 1) := by decide +kernel
theorem dX9_layFew_82 : decode cX9_layFew 82 = .ok (.iload 5, 2) := by decide +kernel
theorem dX9_layFew_84 : decode cX9_layFew 84 = .ok (.iadd, 1) := by decide +kernel
theorem dX9_layFew_85 : decode cX9_layFew 85 = .ok (.iaload, 1) := by decide +kernel
theorem dX9_layFew_86 : decode cX9_layFew 86 = .ok (.iastore, 1) := by decide +kernel
theorem dX9_layFew_87 : decode cX9_layFew 87 = .ok (.goto 97, 3) := by decide +kernel
theorem dX9_layFew_90 : decode cX9_layFew 90 = .ok (.iload 5, 2) := by decide +kernel
theorem dX9_layFew_92 : decode cX9_layFew 92 = .ok (.aload_n 0, 1) := by decide +kernel
theorem dX9_layFew_93 : decode cX9_layFew 93 = .ok (.getfield 13, 3) := by decide +kernel
theorem dX9_layFew_96 : decode cX9_layFew 96 = .ok (.iload_n 3, 1) := by decide +kernel
theorem dX9_layFew_97 : decode cX9_layFew 97 = .ok (.iaload, 1) := by decide +kernel
theorem dX9_layFew_98 : decode cX9_layFew 98 = .ok (.if_icmp .ge 18, 3) := by decide +kernel
theorem dX9_layFew_101 : decode cX9_layFew 101 = .ok (.aload_n 0, 1) := by decide +kernel
theorem dX9_layFew_102 : decode cX9_layFew 102 = .ok (.getfield 102, 3) := by decide +kernel
theorem dX9_layFew_105 : decode cX9_layFew 105 = .ok (.iload 4, 2) := by decide +kernel
theorem dX9_layFew_107 : decode cX9_layFew 107 = .ok (.iload 5, 2) := by decide +kernel
theorem dX9_layFew_109 : decode cX9_layFew 109 = .ok (.iadd, 1) := by decide +kernel
theorem dX9_layFew_110 : decode cX9_layFew 110 = .ok (.ldc 199, 2) := by decide +kernel
theorem dX9_layFew_112 : decode cX9_layFew 112 = .ok (.iastore, 1) := by decide +kernel
theorem dX9_layFew_113 : decode cX9_layFew 113 = .ok (.goto 71, 3) := by decide +kernel
theorem dX9_layFew_116 : decode cX9_layFew 116 = .ok (.aload_n 0, 1) := by decide +kernel
theorem dX9_layFew_117 : decode cX9_layFew 117 = .ok (.getfield 102, 3) := by decide +kernel
theorem dX9_layFew_120 : decode cX9_layFew 120 = .ok (.iload 4, 2) := by decide +kernel
theorem dX9_layFew_122 : decode cX9_layFew 122 = .ok (.sipush 1101, 3) := by decide +kernel
theorem dX9_layFew_125 : decode cX9_layFew 125 = .ok (.iadd, 1) := by decide +kernel
theorem dX9_layFew_126 : decode cX9_layFew 126 = .ok (.iload 5, 2) := by decide +kernel
theorem dX9_layFew_128 : decode cX9_layFew 128 = .ok (.iadd, 1) := by decide +kernel
theorem dX9_layFew_129 : decode cX9_layFew 129 = .ok (.aload_n 0, 1) := by decide +kernel
theorem dX9_layFew_130 : decode cX9_layFew 130 = .ok (.getfield 13, 3) := by decide +kernel
theorem dX9_layFew_133 : decode cX9_layFew 133 = .ok (.iload_n 3, 1) := by decide +kernel
theorem dX9_layFew_134 : decode cX9_layFew 134 = .ok (.iaload, 1) := by decide +kernel
theorem dX9_layFew_135 : decode cX9_layFew 135 = .ok (.isub, 1) := by decide +kernel
theorem dX9_layFew_136 : decode cX9_layFew 136 = .ok (.iaload, 1) := by decide +kernel
theorem dX9_layFew_137 : decode cX9_layFew 137 = .ok (.istore 6, 2) := by decide +kernel
theorem dX9_layFew_139 : decode cX9_layFew 139 = .ok (.aload_n 0, 1) := by decide +kernel
theorem dX9_layFew_140 : decode cX9_layFew 140 = .ok (.getfield 102, 3) := by decide +kernel
theorem dX9_layFew_143 : decode cX9_layFew 143 = .ok (.iload 4, 2) := by decide +kernel
theorem dX9_layFew_145 : decode cX9_layFew 145 = .ok (.iload 5, 2) := by decide +kernel
theorem dX9_layFew_147 : decode cX9_layFew 147 = .ok (.iadd, 1) := by decide +kernel
theorem dX9_layFew_148 : decode cX9_layFew 148 = .ok (.aload_n 0, 1) := by decide +kernel
theorem dX9_layFew_149 : decode cX9_layFew 149 = .ok (.getfield 13, 3) := by decide +kernel
theorem dX9_layFew_152 : decode cX9_layFew 152 = .ok (.iload_n 3, 1) := by decide +kernel
theorem dX9_layFew_153 : decode cX9_layFew 153 = .ok (.iaload, 1) := by decide +kernel
theorem dX9_layFew_154 : decode cX9_layFew 154 = .ok (.isub, 1) := by decide +kernel
theorem dX9_layFew_155 : decode cX9_layFew 155 = .ok (.iaload, 1) := by decide +kernel
theorem dX9_layFew_156 : decode cX9_layFew 156 = .ok (.istore 7, 2) := by decide +kernel
theorem dX9_layFew_158 : decode cX9_layFew 158 = .ok (.aload_n 0, 1) := by decide +kernel
theorem dX9_layFew_159 : decode cX9_layFew 159 = .ok (.getfield 102, 3) := by decide +kernel
theorem dX9_layFew_162 : decode cX9_layFew 162 = .ok (.iload 4, 2) := by decide +kernel
theorem dX9_layFew_164 : decode cX9_layFew 164 = .ok (.iload 5, 2) := by decide +kernel
theorem dX9_layFew_166 : decode cX9_layFew 166 = .ok (.iadd, 1) := by decide +kernel
theorem dX9_layFew_167 : decode cX9_layFew 167 = .ok (.iload 6, 2) := by decide +kernel
theorem dX9_layFew_169 : decode cX9_layFew 169 = .ok (.iload 7, 2) := by decide +kernel
theorem dX9_layFew_171 : decode cX9_layFew 171 = .ok (.if_icmp .ge 8, 3) := by decide +kernel
theorem dX9_layFew_174 : decode cX9_layFew 174 = .ok (.iload 6, 2) := by decide +kernel
theorem dX9_layFew_176 : decode cX9_layFew 176 = .ok (.goto 5, 3) := by decide +kernel
theorem dX9_layFew_179 : decode cX9_layFew 179 = .ok (.iload 7, 2) := by decide +kernel
theorem dX9_layFew_181 : decode cX9_layFew 181 = .ok (.iconst 1, 1) := by decide +kernel
theorem dX9_layFew_182 : decode cX9_layFew 182 = .ok (.iadd, 1) := by decide +kernel
theorem dX9_layFew_183 : decode cX9_layFew 183 = .ok (.iastore, 1) := by decide +kernel
theorem dX9_layFew_184 : decode cX9_layFew 184 = .ok (.iinc 5 1, 3) := by decide +kernel
theorem dX9_layFew_187 : decode cX9_layFew 187 = .ok (.goto (-138), 3) := by decide +kernel
theorem dX9_layFew_190 : decode cX9_layFew 190 = .ok (.iinc 3 (-1), 3) := by decide +kernel
theorem dX9_layFew_193 : decode cX9_layFew 193 = .ok (.goto (-158), 3) := by decide +kernel
theorem dX9_layFew_196 : decode cX9_layFew 196 = .ok (.return_, 1) := by decide +kernel
theorem dX9_can_0 : decode cX9_can 0 = .ok (.iconst 0, 1) := by decide +kernel
theorem dX9_can_1 : decode cX9_can 1 = .ok (.istore 6, 2) := by decide +kernel
theorem dX9_can_3 : decode cX9_can 3 = .ok (.iload 4, 2) := by decide +kernel
theorem dX9_can_5 : decode cX9_can 5 = .ok (.istore 7, 2) := by decide +kernel
theorem dX9_can_7 : decode cX9_can 7 = .ok (.iload 7, 2) := by decide +kernel
theorem dX9_can_9 : decode cX9_can 9 = .ok (.iload 5, 2) := by decide +kernel
theorem dX9_can_11 : decode cX9_can 11 = .ok (.if_icmp .gt 46, 3) := by decide +kernel
theorem dX9_can_14 : decode cX9_can 14 = .ok (.iload 6, 2) := by decide +kernel
theorem dX9_can_16 : decode cX9_can 16 = .ok (.ifCond .ne 41, 3) := by decide +kernel
theorem dX9_can_19 : decode cX9_can 19 = .ok (.iload 7, 2) := by decide +kernel
theorem dX9_can_21 : decode cX9_can 21 = .ok (.iload_n 2, 1) := by decide +kernel
theorem dX9_can_22 : decode cX9_can 22 = .ok (.if_icmp .lt 26, 3) := by decide +kernel
theorem dX9_can_25 : decode cX9_can 25 = .ok (.aload_n 0, 1) := by decide +kernel
theorem dX9_can_26 : decode cX9_can 26 = .ok (.getfield 102, 3) := by decide +kernel
theorem dX9_can_29 : decode cX9_can 29 = .ok (.sipush 1101, 3) := by decide +kernel
theorem dX9_can_32 : decode cX9_can 32 = .ok (.iload_n 1, 1) := by decide +kernel
theorem dX9_can_33 : decode cX9_can 33 = .ok (.imul, 1) := by decide +kernel
theorem dX9_can_34 : decode cX9_can 34 = .ok (.iload 7, 2) := by decide +kernel
theorem dX9_can_36 : decode cX9_can 36 = .ok (.iadd, 1) := by decide +kernel
theorem dX9_can_37 : decode cX9_can 37 = .ok (.iload_n 2, 1) := by decide +kernel
theorem dX9_can_38 : decode cX9_can 38 = .ok (.isub, 1) := by decide +kernel
theorem dX9_can_39 : decode cX9_can 39 = .ok (.iaload, 1) := by decide +kernel
theorem dX9_can_40 : decode cX9_can 40 = .ok (.iload_n 3, 1) := by decide +kernel
theorem dX9_can_41 : decode cX9_can 41 = .ok (.if_icmp .ne 7, 3) := by decide +kernel
theorem dX9_can_44 : decode cX9_can 44 = .ok (.iconst 1, 1) := by decide +kernel
theorem dX9_can_45 : decode cX9_can 45 = .ok (.goto 4, 3) := by decide +kernel
theorem dX9_can_48 : decode cX9_can 48 = .ok (.iconst 0, 1) := by decide +kernel
theorem dX9_can_49 : decode cX9_can 49 = .ok (.istore 6, 2) := by decide +kernel
theorem dX9_can_51 : decode cX9_can 51 = .ok (.iinc 7 1, 3) := by decide +kernel
theorem dX9_can_54 : decode cX9_can 54 = .ok (.goto (-47), 3) := by decide +kernel
theorem dX9_can_57 : decode cX9_can 57 = .ok (.iload 6, 2) := by decide +kernel
theorem dX9_can_59 : decode cX9_can 59 = .ok (.ireturn, 1) := by decide +kernel
theorem dX9_layWay_0 : decode cX9_layWay 0 = .ok (.iconst 0, 1) := by decide +kernel
theorem dX9_layWay_1 : decode cX9_layWay 1 = .ok (.istore 5, 2) := by decide +kernel
theorem dX9_layWay_3 : decode cX9_layWay 3 = .ok (.iload_n 2, 1) := by decide +kernel
theorem dX9_layWay_4 : decode cX9_layWay 4 = .ok (.istore 6, 2) := by decide +kernel
theorem dX9_layWay_6 : decode cX9_layWay 6 = .ok (.iconst 0, 1) := by decide +kernel
theorem dX9_layWay_7 : decode cX9_layWay 7 = .ok (.istore 7, 2) := by decide +kernel
theorem dX9_layWay_9 : decode cX9_layWay 9 = .ok (.iload 7, 2) := by decide +kernel
theorem dX9_layWay_11 : decode cX9_layWay 11 = .ok (.bipush 6, 2) := by decide +kernel
theorem dX9_layWay_13 : decode cX9_layWay 13 = .ok (.if_icmp .ge 93, 3) := by decide +kernel
theorem dX9_layWay_16 : decode cX9_layWay 16 = .ok (.iconst 0, 1) := by decide +kernel
theorem dX9_layWay_17 : decode cX9_layWay 17 = .ok (.istore 8, 2) := by decide +kernel
theorem dX9_layWay_19 : decode cX9_layWay 19 = .ok (.iload_n 1, 1) := by decide +kernel
theorem dX9_layWay_20 : decode cX9_layWay 20 = .ok (.iload 7, 2) := by decide +kernel
theorem dX9_layWay_22 : decode cX9_layWay 22 = .ok (.invokestatic 200, 3) := by decide +kernel
theorem dX9_layWay_25 : decode cX9_layWay 25 = .ok (.ifCond .eq 44, 3) := by decide +kernel
theorem dX9_layWay_28 : decode cX9_layWay 28 = .ok (.iconst 1, 1) := by decide +kernel
theorem dX9_layWay_29 : decode cX9_layWay 29 = .ok (.istore 8, 2) := by decide +kernel
theorem dX9_layWay_31 : decode cX9_layWay 31 = .ok (.aload_n 0, 1) := by decide +kernel
theorem dX9_layWay_32 : decode cX9_layWay 32 = .ok (.iload 7, 2) := by decide +kernel
theorem dX9_layWay_34 : decode cX9_layWay 34 = .ok (.iconst 1, 1) := by decide +kernel
theorem dX9_layWay_35 : decode cX9_layWay 35 = .ok (.iadd, 1) := by decide +kernel
theorem dX9_layWay_36 : decode cX9_layWay 36 = .ok (.iload 5, 2) := by decide +kernel
theorem dX9_layWay_38 : decode cX9_layWay 38 = .ok (.iload 8, 2) := by decide +kernel
theorem dX9_layWay_40 : decode cX9_layWay 40 = .ok (.aload_n 0, 1) := by decide +kernel
theorem dX9_layWay_41 : decode cX9_layWay 41 = .ok (.getfield 13, 3) := by decide +kernel
theorem dX9_layWay_44 : decode cX9_layWay 44 = .ok (.iload 7, 2) := by decide +kernel
theorem dX9_layWay_46 : decode cX9_layWay 46 = .ok (.iaload, 1) := by decide +kernel
theorem dX9_layWay_47 : decode cX9_layWay 47 = .ok (.imul, 1) := by decide +kernel
theorem dX9_layWay_48 : decode cX9_layWay 48 = .ok (.iadd, 1) := by decide +kernel
theorem dX9_layWay_49 : decode cX9_layWay 49 = .ok (.iload 6, 2) := by decide +kernel
theorem dX9_layWay_51 : decode cX9_layWay 51 = .ok (.iload 8, 2) := by decide +kernel
