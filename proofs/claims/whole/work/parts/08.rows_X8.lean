theorem dX8_ask_12 : decode cX8_ask 12 = .ok (.istore_n 3, 1) := by decide +kernel
theorem dX8_ask_13 : decode cX8_ask 13 = .ok (.aload_n 0, 1) := by decide +kernel
theorem dX8_ask_14 : decode cX8_ask 14 = .ok (.iconst 1, 1) := by decide +kernel
theorem dX8_ask_15 : decode cX8_ask 15 = .ok (.iload_n 1, 1) := by decide +kernel
theorem dX8_ask_16 : decode cX8_ask 16 = .ok (.iload_n 2, 1) := by decide +kernel
theorem dX8_ask_17 : decode cX8_ask 17 = .ok (.invokevirtual 216, 3) := by decide +kernel
theorem dX8_ask_20 : decode cX8_ask 20 = .ok (.istore 4, 2) := by decide +kernel
theorem dX8_ask_22 : decode cX8_ask 22 = .ok (.iconst 2, 1) := by decide +kernel
theorem dX8_ask_23 : decode cX8_ask 23 = .ok (.istore 5, 2) := by decide +kernel
theorem dX8_ask_25 : decode cX8_ask 25 = .ok (.iload 5, 2) := by decide +kernel
theorem dX8_ask_27 : decode cX8_ask 27 = .ok (.sipush 999, 3) := by decide +kernel
theorem dX8_ask_30 : decode cX8_ask 30 = .ok (.if_icmp .gt 33, 3) := by decide +kernel
theorem dX8_ask_33 : decode cX8_ask 33 = .ok (.aload_n 0, 1) := by decide +kernel
theorem dX8_ask_34 : decode cX8_ask 34 = .ok (.iload 5, 2) := by decide +kernel
theorem dX8_ask_36 : decode cX8_ask 36 = .ok (.iload_n 1, 1) := by decide +kernel
theorem dX8_ask_37 : decode cX8_ask 37 = .ok (.iload_n 2, 1) := by decide +kernel
theorem dX8_ask_38 : decode cX8_ask 38 = .ok (.invokevirtual 216, 3) := by decide +kernel
theorem dX8_ask_41 : decode cX8_ask 41 = .ok (.istore 6, 2) := by decide +kernel
theorem dX8_ask_43 : decode cX8_ask 43 = .ok (.iload 6, 2) := by decide +kernel
theorem dX8_ask_45 : decode cX8_ask 45 = .ok (.iload 4, 2) := by decide +kernel
theorem dX8_ask_47 : decode cX8_ask 47 = .ok (.if_icmp .le 10, 3) := by decide +kernel
theorem dX8_ask_50 : decode cX8_ask 50 = .ok (.iload 6, 2) := by decide +kernel
theorem dX8_ask_52 : decode cX8_ask 52 = .ok (.istore 4, 2) := by decide +kernel
theorem dX8_ask_54 : decode cX8_ask 54 = .ok (.iload 5, 2) := by decide +kernel
theorem dX8_ask_56 : decode cX8_ask 56 = .ok (.istore_n 3, 1) := by decide +kernel
theorem dX8_ask_57 : decode cX8_ask 57 = .ok (.iinc 5 1, 3) := by decide +kernel
theorem dX8_ask_60 : decode cX8_ask 60 = .ok (.goto (-35), 3) := by decide +kernel
theorem dX8_ask_63 : decode cX8_ask 63 = .ok (.iload_n 3, 1) := by decide +kernel
theorem dX8_ask_64 : decode cX8_ask 64 = .ok (.ireturn, 1) := by decide +kernel
theorem dX8_keeper_0 : decode cX8_keeper 0 = .ok (.aload_n 0, 1) := by decide +kernel
theorem dX8_keeper_1 : decode cX8_keeper 1 = .ok (.getfield 26, 3) := by decide +kernel
theorem dX8_keeper_4 : decode cX8_keeper 4 = .ok (.iload_n 1, 1) := by decide +kernel
theorem dX8_keeper_5 : decode cX8_keeper 5 = .ok (.invokevirtual 99, 3) := by decide +kernel
theorem dX8_keeper_8 : decode cX8_keeper 8 = .ok (.ifCond .ne 5, 3) := by decide +kernel
theorem dX8_keeper_11 : decode cX8_keeper 11 = .ok (.iconst (-1), 1) := by decide +kernel
theorem dX8_keeper_12 : decode cX8_keeper 12 = .ok (.ireturn, 1) := by decide +kernel
theorem dX8_keeper_13 : decode cX8_keeper 13 = .ok (.aload_n 0, 1) := by decide +kernel
theorem dX8_keeper_14 : decode cX8_keeper 14 = .ok (.getfield 26, 3) := by decide +kernel
theorem dX8_keeper_17 : decode cX8_keeper 17 = .ok (.iload_n 1, 1) := by decide +kernel
theorem dX8_keeper_18 : decode cX8_keeper 18 = .ok (.invokevirtual 120, 3) := by decide +kernel
theorem dX8_keeper_21 : decode cX8_keeper 21 = .ok (.iload_n 2, 1) := by decide +kernel
theorem dX8_keeper_22 : decode cX8_keeper 22 = .ok (.if_icmp .ne 5, 3) := by decide +kernel
theorem dX8_keeper_25 : decode cX8_keeper 25 = .ok (.iconst 0, 1) := by decide +kernel
theorem dX8_keeper_26 : decode cX8_keeper 26 = .ok (.ireturn, 1) := by decide +kernel
theorem dX8_keeper_27 : decode cX8_keeper 27 = .ok (.aload_n 0, 1) := by decide +kernel
theorem dX8_keeper_28 : decode cX8_keeper 28 = .ok (.getfield 26, 3) := by decide +kernel
theorem dX8_keeper_31 : decode cX8_keeper 31 = .ok (.dup, 1) := by decide +kernel
theorem dX8_keeper_32 : decode cX8_keeper 32 = .ok (.getfield 221, 3) := by decide +kernel
theorem dX8_keeper_35 : decode cX8_keeper 35 = .ok (.iconst 1, 1) := by decide +kernel
theorem dX8_keeper_36 : decode cX8_keeper 36 = .ok (.iload_n 1, 1) := by decide +kernel
theorem dX8_keeper_37 : decode cX8_keeper 37 = .ok (.ishl, 1) := by decide +kernel
theorem dX8_keeper_38 : decode cX8_keeper 38 = .ok (.ixor, 1) := by decide +kernel
theorem dX8_keeper_39 : decode cX8_keeper 39 = .ok (.putfield 221, 3) := by decide +kernel
theorem dX8_keeper_42 : decode cX8_keeper 42 = .ok (.iconst 1, 1) := by decide +kernel
theorem dX8_keeper_43 : decode cX8_keeper 43 = .ok (.ireturn, 1) := by decide +kernel
theorem dX8_losers_0 : decode cX8_losers 0 = .ok (.iload_n 1, 1) := by decide +kernel
theorem dX8_losers_1 : decode cX8_losers 1 = .ok (.iconst 1, 1) := by decide +kernel
theorem dX8_losers_2 : decode cX8_losers 2 = .ok (.bipush 99, 2) := by decide +kernel
theorem dX8_losers_4 : decode cX8_losers 4 = .ok (.invokestatic 72, 3) := by decide +kernel
theorem dX8_losers_7 : decode cX8_losers 7 = .ok (.ifCond .eq 11, 3) := by decide +kernel
theorem dX8_losers_10 : decode cX8_losers 10 = .ok (.aload_n 0, 1) := by decide +kernel
theorem dX8_losers_11 : decode cX8_losers 11 = .ok (.iload_n 1, 1) := by decide +kernel
theorem dX8_losers_12 : decode cX8_losers 12 = .ok (.invokevirtual 224, 3) := by decide +kernel
theorem dX8_losers_15 : decode cX8_losers 15 = .ok (.goto 5, 3) := by decide +kernel
theorem dX8_losers_18 : decode cX8_losers 18 = .ok (.bipush (-2), 2) := by decide +kernel
theorem dX8_losers_20 : decode cX8_losers 20 = .ok (.ireturn, 1) := by decide +kernel
theorem dX8_fairest_0 : decode cX8_fairest 0 = .ok (.iconst 1, 1) := by decide +kernel
theorem dX8_fairest_1 : decode cX8_fairest 1 = .ok (.istore_n 1, 1) := by decide +kernel
theorem dX8_fairest_2 : decode cX8_fairest 2 = .ok (.aload_n 0, 1) := by decide +kernel
theorem dX8_fairest_3 : decode cX8_fairest 3 = .ok (.iconst 1, 1) := by decide +kernel
theorem dX8_fairest_4 : decode cX8_fairest 4 = .ok (.invokevirtual 224, 3) := by decide +kernel
theorem dX8_fairest_7 : decode cX8_fairest 7 = .ok (.istore_n 2, 1) := by decide +kernel
theorem dX8_fairest_8 : decode cX8_fairest 8 = .ok (.iconst 2, 1) := by decide +kernel
theorem dX8_fairest_9 : decode cX8_fairest 9 = .ok (.istore_n 3, 1) := by decide +kernel
theorem dX8_fairest_10 : decode cX8_fairest 10 = .ok (.iload_n 3, 1) := by decide +kernel
theorem dX8_fairest_11 : decode cX8_fairest 11 = .ok (.bipush 99, 2) := by decide +kernel
theorem dX8_fairest_13 : decode cX8_fairest 13 = .ok (.if_icmp .gt 27, 3) := by decide +kernel
theorem dX8_fairest_16 : decode cX8_fairest 16 = .ok (.aload_n 0, 1) := by decide +kernel
theorem dX8_fairest_17 : decode cX8_fairest 17 = .ok (.iload_n 3, 1) := by decide +kernel
theorem dX8_fairest_18 : decode cX8_fairest 18 = .ok (.invokevirtual 224, 3) := by decide +kernel
theorem dX8_fairest_21 : decode cX8_fairest 21 = .ok (.istore 4, 2) := by decide +kernel
theorem dX8_fairest_23 : decode cX8_fairest 23 = .ok (.iload 4, 2) := by decide +kernel
theorem dX8_fairest_25 : decode cX8_fairest 25 = .ok (.iload_n 2, 1) := by decide +kernel
theorem dX8_fairest_26 : decode cX8_fairest 26 = .ok (.if_icmp .ge 8, 3) := by decide +kernel
theorem dX8_fairest_29 : decode cX8_fairest 29 = .ok (.iload 4, 2) := by decide +kernel
theorem dX8_fairest_31 : decode cX8_fairest 31 = .ok (.istore_n 2, 1) := by decide +kernel
theorem dX8_fairest_32 : decode cX8_fairest 32 = .ok (.iload_n 3, 1) := by decide +kernel
theorem dX8_fairest_33 : decode cX8_fairest 33 = .ok (.istore_n 1, 1) := by decide +kernel
theorem dX8_fairest_34 : decode cX8_fairest 34 = .ok (.iinc 3 1, 3) := by decide +kernel
theorem dX8_fairest_37 : decode cX8_fairest 37 = .ok (.goto (-27), 3) := by decide +kernel
theorem dX8_fairest_40 : decode cX8_fairest 40 = .ok (.iload_n 1, 1) := by decide +kernel
theorem dX8_fairest_41 : decode cX8_fairest 41 = .ok (.ireturn, 1) := by decide +kernel
theorem dX8_cut_0 : decode cX8_cut 0 = .ok (.iload_n 1, 1) := by decide +kernel
theorem dX8_cut_1 : decode cX8_cut 1 = .ok (.iconst 1, 1) := by decide +kernel
theorem dX8_cut_2 : decode cX8_cut 2 = .ok (.sipush 999, 3) := by decide +kernel
theorem dX8_cut_5 : decode cX8_cut 5 = .ok (.invokestatic 72, 3) := by decide +kernel
theorem dX8_cut_8 : decode cX8_cut 8 = .ok (.ifCond .eq 22, 3) := by decide +kernel
theorem dX8_cut_11 : decode cX8_cut 11 = .ok (.iload_n 2, 1) := by decide +kernel
theorem dX8_cut_12 : decode cX8_cut 12 = .ok (.iconst 0, 1) := by decide +kernel
theorem dX8_cut_13 : decode cX8_cut 13 = .ok (.iconst 1, 1) := by decide +kernel
theorem dX8_cut_14 : decode cX8_cut 14 = .ok (.aload_n 0, 1) := by decide +kernel
theorem dX8_cut_15 : decode cX8_cut 15 = .ok (.getfield 26, 3) := by decide +kernel
theorem dX8_cut_18 : decode cX8_cut 18 = .ok (.getfield 96, 3) := by decide +kernel
theorem dX8_cut_21 : decode cX8_cut 21 = .ok (.ishl, 1) := by decide +kernel
theorem dX8_cut_22 : decode cX8_cut 22 = .ok (.iconst 1, 1) := by decide +kernel
theorem dX8_cut_23 : decode cX8_cut 23 = .ok (.isub, 1) := by decide +kernel
theorem dX8_cut_24 : decode cX8_cut 24 = .ok (.invokestatic 72, 3) := by decide +kernel
theorem dX8_cut_27 : decode cX8_cut 27 = .ok (.ifCond .ne 6, 3) := by decide +kernel
theorem dX8_cut_30 : decode cX8_cut 30 = .ok (.bipush (-2), 2) := by decide +kernel
theorem dX8_cut_32 : decode cX8_cut 32 = .ok (.ireturn, 1) := by decide +kernel
theorem dX8_cut_33 : decode cX8_cut 33 = .ok (.aload_n 0, 1) := by decide +kernel
theorem dX8_cut_34 : decode cX8_cut 34 = .ok (.getfield 61, 3) := by decide +kernel
theorem dX8_cut_37 : decode cX8_cut 37 = .ok (.iload_n 1, 1) := by decide +kernel
theorem dX8_cut_38 : decode cX8_cut 38 = .ok (.iload_n 2, 1) := by decide +kernel
theorem dX8_cut_39 : decode cX8_cut 39 = .ok (.aload_n 0, 1) := by decide +kernel
theorem dX8_cut_40 : decode cX8_cut 40 = .ok (.getfield 36, 3) := by decide +kernel
theorem dX8_cut_43 : decode cX8_cut 43 = .ok (.getfield 103, 3) := by decide +kernel
theorem dX8_cut_46 : decode cX8_cut 46 = .ok (.invokevirtual 227, 3) := by decide +kernel
theorem dX8_cut_49 : decode cX8_cut 49 = .ok (.iload_n 3, 1) := by decide +kernel
theorem dX8_cut_50 : decode cX8_cut 50 = .ok (.ifCond .eq 13, 3) := by decide +kernel
theorem dX8_cut_53 : decode cX8_cut 53 = .ok (.aload_n 0, 1) := by decide +kernel
theorem dX8_cut_54 : decode cX8_cut 54 = .ok (.getfield 61, 3) := by decide +kernel
theorem dX8_cut_57 : decode cX8_cut 57 = .ok (.getfield 230, 3) := by decide +kernel
theorem dX8_cut_60 : decode cX8_cut 60 = .ok (.goto 10, 3) := by decide +kernel
theorem dX8_cut_63 : decode cX8_cut 63 = .ok (.aload_n 0, 1) := by decide +kernel
theorem dX8_cut_64 : decode cX8_cut 64 = .ok (.getfield 61, 3) := by decide +kernel
theorem dX8_cut_67 : decode cX8_cut 67 = .ok (.getfield 233, 3) := by decide +kernel
theorem dX8_cut_70 : decode cX8_cut 70 = .ok (.ireturn, 1) := by decide +kernel
theorem dX8_when_0 : decode cX8_when 0 = .ok (.aload_n 0, 1) := by decide +kernel
theorem dX8_when_1 : decode cX8_when 1 = .ok (.getfield 26, 3) := by decide +kernel
theorem dX8_when_4 : decode cX8_when 4 = .ok (.iload_n 1, 1) := by decide +kernel
theorem dX8_when_5 : decode cX8_when 5 = .ok (.invokevirtual 99, 3) := by decide +kernel
theorem dX8_when_8 : decode cX8_when 8 = .ok (.ifCond .eq 14, 3) := by decide +kernel
theorem dX8_when_11 : decode cX8_when 11 = .ok (.aload_n 0, 1) := by decide +kernel
theorem dX8_when_12 : decode cX8_when 12 = .ok (.getfield 26, 3) := by decide +kernel
theorem dX8_when_15 : decode cX8_when 15 = .ok (.iload_n 2, 1) := by decide +kernel
theorem dX8_when_16 : decode cX8_when 16 = .ok (.invokevirtual 123, 3) := by decide +kernel
theorem dX8_when_19 : decode cX8_when 19 = .ok (.ifCond .ne 5, 3) := by decide +kernel
theorem dX8_when_22 : decode cX8_when 22 = .ok (.iconst (-1), 1) := by decide +kernel
theorem dX8_when_23 : decode cX8_when 23 = .ok (.ireturn, 1) := by decide +kernel
theorem dX8_when_24 : decode cX8_when 24 = .ok (.iload_n 3, 1) := by decide +kernel
theorem dX8_when_25 : decode cX8_when 25 = .ok (.iconst 0, 1) := by decide +kernel
theorem dX8_when_26 : decode cX8_when 26 = .ok (.bipush 9, 2) := by decide +kernel
theorem dX8_when_28 : decode cX8_when 28 = .ok (.invokestatic 72, 3) := by decide +kernel
theorem dX8_when_31 : decode cX8_when 31 = .ok (.ifCond .eq 14, 3) := by decide +kernel
theorem dX8_when_34 : decode cX8_when 34 = .ok (.iload 4, 2) := by decide +kernel
theorem dX8_when_36 : decode cX8_when 36 = .ok (.iconst 0, 1) := by decide +kernel
theorem dX8_when_37 : decode cX8_when 37 = .ok (.bipush 9, 2) := by decide +kernel
theorem dX8_when_39 : decode cX8_when 39 = .ok (.invokestatic 72, 3) := by decide +kernel
theorem dX8_when_42 : decode cX8_when 42 = .ok (.ifCond .ne 6, 3) := by decide +kernel
theorem dX8_when_45 : decode cX8_when 45 = .ok (.bipush (-2), 2) := by decide +kernel
theorem dX8_when_47 : decode cX8_when 47 = .ok (.ireturn, 1) := by decide +kernel
theorem dX8_when_48 : decode cX8_when 48 = .ok (.iconst 0, 1) := by decide +kernel
theorem dX8_when_49 : decode cX8_when 49 = .ok (.istore 5, 2) := by decide +kernel
theorem dX8_when_51 : decode cX8_when 51 = .ok (.aload_n 0, 1) := by decide +kernel
theorem dX8_when_52 : decode cX8_when 52 = .ok (.getfield 36, 3) := by decide +kernel
theorem dX8_when_55 : decode cX8_when 55 = .ok (.getfield 103, 3) := by decide +kernel
theorem dX8_when_58 : decode cX8_when 58 = .ok (.iload_n 1, 1) := by decide +kernel
theorem dX8_when_59 : decode cX8_when 59 = .ok (.iaload, 1) := by decide +kernel
theorem dX8_when_60 : decode cX8_when 60 = .ok (.istore 6, 2) := by decide +kernel
theorem dX8_when_62 : decode cX8_when 62 = .ok (.aload_n 0, 1) := by decide +kernel
theorem dX8_when_63 : decode cX8_when 63 = .ok (.getfield 26, 3) := by decide +kernel
theorem dX8_when_66 : decode cX8_when 66 = .ok (.getfield 126, 3) := by decide +kernel
theorem dX8_when_69 : decode cX8_when 69 = .ok (.iload_n 2, 1) := by decide +kernel
theorem dX8_when_70 : decode cX8_when 70 = .ok (.iaload, 1) := by decide +kernel
theorem dX8_when_71 : decode cX8_when 71 = .ok (.istore 7, 2) := by decide +kernel
theorem dX8_when_73 : decode cX8_when 73 = .ok (.iconst 1, 1) := by decide +kernel
theorem dX8_when_74 : decode cX8_when 74 = .ok (.istore 8, 2) := by decide +kernel
theorem dX8_when_76 : decode cX8_when 76 = .ok (.iload 8, 2) := by decide +kernel
theorem dX8_when_78 : decode cX8_when 78 = .ok (.bipush 30, 2) := by decide +kernel
theorem dX8_when_80 : decode cX8_when 80 = .ok (.if_icmp .gt 72, 3) := by decide +kernel
theorem dX8_when_83 : decode cX8_when 83 = .ok (.bipush 99, 2) := by decide +kernel
theorem dX8_when_85 : decode cX8_when 85 = .ok (.aload_n 0, 1) := by decide +kernel
theorem dX8_when_86 : decode cX8_when 86 = .ok (.getfield 36, 3) := by decide +kernel
theorem dX8_when_89 : decode cX8_when 89 = .ok (.getfield 103, 3) := by decide +kernel
theorem dX8_when_92 : decode cX8_when 92 = .ok (.iload_n 1, 1) := by decide +kernel
theorem dX8_when_93 : decode cX8_when 93 = .ok (.iaload, 1) := by decide +kernel
theorem dX8_when_94 : decode cX8_when 94 = .ok (.iload 8, 2) := by decide +kernel
theorem dX8_when_96 : decode cX8_when 96 = .ok (.iload_n 3, 1) := by decide +kernel
theorem dX8_when_97 : decode cX8_when 97 = .ok (.imul, 1) := by decide +kernel
theorem dX8_when_98 : decode cX8_when 98 = .ok (.iadd, 1) := by decide +kernel
theorem dX8_when_99 : decode cX8_when 99 = .ok (.invokestatic 236, 3) := by decide +kernel
theorem dX8_when_102 : decode cX8_when 102 = .ok (.istore 9, 2) := by decide +kernel
theorem dX8_when_104 : decode cX8_when 104 = .ok (.aload_n 0, 1) := by decide +kernel
theorem dX8_when_105 : decode cX8_when 105 = .ok (.getfield 26, 3) := by decide +kernel
theorem dX8_when_108 : decode cX8_when 108 = .ok (.getfield 126, 3) := by decide +kernel
theorem dX8_when_111 : decode cX8_when 111 = .ok (.iload_n 2, 1) := by decide +kernel
theorem dX8_when_112 : decode cX8_when 112 = .ok (.iaload, 1) := by decide +kernel
theorem dX8_when_113 : decode cX8_when 113 = .ok (.iload 8, 2) := by decide +kernel
theorem dX8_when_115 : decode cX8_when 115 = .ok (.iload 4, 2) := by decide +kernel
theorem dX8_when_117 : decode cX8_when 117 = .ok (.imul, 1) := by decide +kernel
theorem dX8_when_118 : decode cX8_when 118 = .ok (.iadd, 1) := by decide +kernel
theorem dX8_when_119 : decode cX8_when 119 = .ok (.istore 10, 2) := by decide +kernel
theorem dX8_when_121 : decode cX8_when 121 = .ok (.iload 9, 2) := by decide +kernel
theorem dX8_when_123 : decode cX8_when 123 = .ok (.iload 7, 2) := by decide +kernel
theorem dX8_when_125 : decode cX8_when 125 = .ok (.imul, 1) := by decide +kernel
theorem dX8_when_126 : decode cX8_when 126 = .ok (.iload 6, 2) := by decide +kernel
theorem dX8_when_128 : decode cX8_when 128 = .ok (.iload 10, 2) := by decide +kernel
theorem dX8_when_130 : decode cX8_when 130 = .ok (.imul, 1) := by decide +kernel
theorem dX8_when_131 : decode cX8_when 131 = .ok (.if_icmp .le 15, 3) := by decide +kernel
theorem dX8_when_134 : decode cX8_when 134 = .ok (.iload 8, 2) := by decide +kernel
theorem dX8_when_136 : decode cX8_when 136 = .ok (.istore 5, 2) := by decide +kernel
theorem dX8_when_138 : decode cX8_when 138 = .ok (.iload 9, 2) := by decide +kernel
theorem dX8_when_140 : decode cX8_when 140 = .ok (.istore 6, 2) := by decide +kernel
theorem dX8_when_142 : decode cX8_when 142 = .ok (.iload 10, 2) := by decide +kernel
theorem dX8_when_144 : decode cX8_when 144 = .ok (.istore 7, 2) := by decide +kernel
theorem dX8_when_146 : decode cX8_when 146 = .ok (.iinc 8 1, 3) := by decide +kernel
theorem dX8_when_149 : decode cX8_when 149 = .ok (.goto (-73), 3) := by decide +kernel
theorem dX8_when_152 : decode cX8_when 152 = .ok (.iload 5, 2) := by decide +kernel
theorem dX8_when_154 : decode cX8_when 154 = .ok (.ireturn, 1) := by decide +kernel
theorem dX8_held_0 : decode cX8_held 0 = .ok (.iload_n 1, 1) := by decide +kernel
theorem dX8_held_1 : decode cX8_held 1 = .ok (.iconst 0, 1) := by decide +kernel
theorem dX8_held_2 : decode cX8_held 2 = .ok (.iconst 2, 1) := by decide +kernel
theorem dX8_held_3 : decode cX8_held 3 = .ok (.invokestatic 72, 3) := by decide +kernel
theorem dX8_held_6 : decode cX8_held 6 = .ok (.ifCond .eq 12, 3) := by decide +kernel
theorem dX8_held_9 : decode cX8_held 9 = .ok (.iload_n 3, 1) := by decide +kernel
theorem dX8_held_10 : decode cX8_held 10 = .ok (.iconst 0, 1) := by decide +kernel
theorem dX8_held_11 : decode cX8_held 11 = .ok (.iconst 2, 1) := by decide +kernel
theorem dX8_held_12 : decode cX8_held 12 = .ok (.invokestatic 72, 3) := by decide +kernel
theorem dX8_held_15 : decode cX8_held 15 = .ok (.ifCond .ne 5, 3) := by decide +kernel
theorem dX8_held_18 : decode cX8_held 18 = .ok (.iconst (-1), 1) := by decide +kernel
theorem dX8_held_19 : decode cX8_held 19 = .ok (.ireturn, 1) := by decide +kernel
theorem dX8_held_20 : decode cX8_held 20 = .ok (.iload_n 1, 1) := by decide +kernel
theorem dX8_held_21 : decode cX8_held 21 = .ok (.iload_n 3, 1) := by decide +kernel
theorem dX8_held_22 : decode cX8_held 22 = .ok (.if_icmp .eq 34, 3) := by decide +kernel
theorem dX8_held_25 : decode cX8_held 25 = .ok (.iload_n 2, 1) := by decide +kernel
theorem dX8_held_26 : decode cX8_held 26 = .ok (.iconst 1, 1) := by decide +kernel
theorem dX8_held_27 : decode cX8_held 27 = .ok (.bipush 9, 2) := by decide +kernel
theorem dX8_held_29 : decode cX8_held 29 = .ok (.invokestatic 72, 3) := by decide +kernel
theorem dX8_held_32 : decode cX8_held 32 = .ok (.ifCond .eq 24, 3) := by decide +kernel
theorem dX8_held_35 : decode cX8_held 35 = .ok (.iload 4, 2) := by decide +kernel
theorem dX8_held_37 : decode cX8_held 37 = .ok (.iconst 1, 1) := by decide +kernel
theorem dX8_held_38 : decode cX8_held 38 = .ok (.bipush 9, 2) := by decide +kernel
theorem dX8_held_40 : decode cX8_held 40 = .ok (.invokestatic 72, 3) := by decide +kernel
theorem dX8_held_43 : decode cX8_held 43 = .ok (.ifCond .eq 13, 3) := by decide +kernel
theorem dX8_held_46 : decode cX8_held 46 = .ok (.iload 5, 2) := by decide +kernel
theorem dX8_held_48 : decode cX8_held 48 = .ok (.iconst (-1), 1) := by decide +kernel
theorem dX8_held_49 : decode cX8_held 49 = .ok (.iconst 1, 1) := by decide +kernel
theorem dX8_held_50 : decode cX8_held 50 = .ok (.invokestatic 72, 3) := by decide +kernel
theorem dX8_held_53 : decode cX8_held 53 = .ok (.ifCond .ne 6, 3) := by decide +kernel
theorem dX8_held_56 : decode cX8_held 56 = .ok (.bipush (-2), 2) := by decide +kernel
theorem dX8_held_58 : decode cX8_held 58 = .ok (.ireturn, 1) := by decide +kernel
theorem dX8_held_59 : decode cX8_held 59 = .ok (.aload_n 0, 1) := by decide +kernel
theorem dX8_held_60 : decode cX8_held 60 = .ok (.getfield 68, 3) := by decide +kernel
theorem dX8_held_63 : decode cX8_held 63 = .ok (.getfield 242, 3) := by decide +kernel
theorem dX8_held_66 : decode cX8_held 66 = .ok (.bipush 8, 2) := by decide +kernel
theorem dX8_held_68 : decode cX8_held 68 = .ok (.if_icmp .lt 6, 3) := by decide +kernel
theorem dX8_held_71 : decode cX8_held 71 = .ok (.bipush (-4), 2) := by decide +kernel
theorem dX8_held_73 : decode cX8_held 73 = .ok (.ireturn, 1) := by decide +kernel
theorem dX8_held_74 : decode cX8_held 74 = .ok (.iload_n 1, 1) := by decide +kernel
theorem dX8_held_75 : decode cX8_held 75 = .ok (.iload_n 3, 1) := by decide +kernel
theorem dX8_held_76 : decode cX8_held 76 = .ok (.if_icmp .ge 20, 3) := by decide +kernel
theorem dX8_held_79 : decode cX8_held 79 = .ok (.aload_n 0, 1) := by decide +kernel
theorem dX8_held_80 : decode cX8_held 80 = .ok (.getfield 68, 3) := by decide +kernel
theorem dX8_held_83 : decode cX8_held 83 = .ok (.iload_n 1, 1) := by decide +kernel
theorem dX8_held_84 : decode cX8_held 84 = .ok (.iload_n 2, 1) := by decide +kernel
theorem dX8_held_85 : decode cX8_held 85 = .ok (.iload_n 3, 1) := by decide +kernel
theorem dX8_held_86 : decode cX8_held 86 = .ok (.iload 4, 2) := by decide +kernel
theorem dX8_held_88 : decode cX8_held 88 = .ok (.iload 5, 2) := by decide +kernel
theorem dX8_held_90 : decode cX8_held 90 = .ok (.invokevirtual 245, 3) := by decide +kernel
theorem dX8_held_93 : decode cX8_held 93 = .ok (.goto 18, 3) := by decide +kernel
theorem dX8_held_96 : decode cX8_held 96 = .ok (.aload_n 0, 1) := by decide +kernel
theorem dX8_held_97 : decode cX8_held 97 = .ok (.getfield 68, 3) := by decide +kernel
theorem dX8_held_100 : decode cX8_held 100 = .ok (.iload_n 3, 1) := by decide +kernel
theorem dX8_held_101 : decode cX8_held 101 = .ok (.iload 4, 2) := by decide +kernel
theorem dX8_held_103 : decode cX8_held 103 = .ok (.iload_n 1, 1) := by decide +kernel
theorem dX8_held_104 : decode cX8_held 104 = .ok (.iload_n 2, 1) := by decide +kernel
theorem dX8_held_105 : decode cX8_held 105 = .ok (.iload 5, 2) := by decide +kernel
theorem dX8_held_107 : decode cX8_held 107 = .ok (.ineg, 1) := by decide +kernel
theorem dX8_held_108 : decode cX8_held 108 = .ok (.invokevirtual 245, 3) := by decide +kernel
theorem dX8_held_111 : decode cX8_held 111 = .ok (.aload_n 0, 1) := by decide +kernel
theorem dX8_held_112 : decode cX8_held 112 = .ok (.getfield 68, 3) := by decide +kernel
theorem dX8_held_115 : decode cX8_held 115 = .ok (.getfield 242, 3) := by decide +kernel
theorem dX8_held_118 : decode cX8_held 118 = .ok (.ireturn, 1) := by decide +kernel
theorem dX8_unheld_0 : decode cX8_unheld 0 = .ok (.aload_n 0, 1) := by decide +kernel
theorem dX8_unheld_1 : decode cX8_unheld 1 = .ok (.getfield 68, 3) := by decide +kernel
theorem dX8_unheld_4 : decode cX8_unheld 4 = .ok (.getfield 242, 3) := by decide +kernel
theorem dX8_unheld_7 : decode cX8_unheld 7 = .ok (.istore_n 1, 1) := by decide +kernel
theorem dX8_unheld_8 : decode cX8_unheld 8 = .ok (.aload_n 0, 1) := by decide +kernel
theorem dX8_unheld_9 : decode cX8_unheld 9 = .ok (.getfield 68, 3) := by decide +kernel
theorem dX8_unheld_12 : decode cX8_unheld 12 = .ok (.invokevirtual 248, 3) := by decide +kernel
theorem dX8_unheld_15 : decode cX8_unheld 15 = .ok (.iload_n 1, 1) := by decide +kernel
theorem dX8_unheld_16 : decode cX8_unheld 16 = .ok (.ireturn, 1) := by decide +kernel
theorem dX8_mayBe_0 : decode cX8_mayBe 0 = .ok (.aload_n 0, 1) := by decide +kernel
theorem dX8_mayBe_1 : decode cX8_mayBe 1 = .ok (.getfield 68, 3) := by decide +kernel
theorem dX8_mayBe_4 : decode cX8_mayBe 4 = .ok (.invokevirtual 251, 3) := by decide +kernel
theorem dX8_mayBe_7 : decode cX8_mayBe 7 = .ok (.aload_n 0, 1) := by decide +kernel
theorem dX8_mayBe_8 : decode cX8_mayBe 8 = .ok (.getfield 68, 3) := by decide +kernel
theorem dX8_mayBe_11 : decode cX8_mayBe 11 = .ok (.getfield 253, 3) := by decide +kernel
theorem dX8_mayBe_14 : decode cX8_mayBe 14 = .ok (.ireturn, 1) := by decide +kernel
theorem dX8_arm_0 : decode cX8_arm 0 = .ok (.iload_n 1, 1) := by decide +kernel
theorem dX8_arm_1 : decode cX8_arm 1 = .ok (.iconst 0, 1) := by decide +kernel
theorem dX8_arm_2 : decode cX8_arm 2 = .ok (.iconst 2, 1) := by decide +kernel
theorem dX8_arm_3 : decode cX8_arm 3 = .ok (.invokestatic 72, 3) := by decide +kernel
theorem dX8_arm_6 : decode cX8_arm 6 = .ok (.ifCond .ne 5, 3) := by decide +kernel
theorem dX8_arm_9 : decode cX8_arm 9 = .ok (.iconst (-1), 1) := by decide +kernel
theorem dX8_arm_10 : decode cX8_arm 10 = .ok (.ireturn, 1) := by decide +kernel
theorem dX8_arm_11 : decode cX8_arm 11 = .ok (.aload_n 0, 1) := by decide +kernel
theorem dX8_arm_12 : decode cX8_arm 12 = .ok (.getfield 68, 3) := by decide +kernel
theorem dX8_arm_15 : decode cX8_arm 15 = .ok (.invokevirtual 251, 3) := by decide +kernel
theorem dX8_arm_18 : decode cX8_arm 18 = .ok (.iload_n 2, 1) := by decide +kernel
theorem dX8_arm_19 : decode cX8_arm 19 = .ok (.ifCond .eq 14, 3) := by decide +kernel
theorem dX8_arm_22 : decode cX8_arm 22 = .ok (.aload_n 0, 1) := by decide +kernel
theorem dX8_arm_23 : decode cX8_arm 23 = .ok (.getfield 68, 3) := by decide +kernel
theorem dX8_arm_26 : decode cX8_arm 26 = .ok (.iload_n 1, 1) := by decide +kernel
theorem dX8_arm_27 : decode cX8_arm 27 = .ok (.invokevirtual 256, 3) := by decide +kernel
theorem dX8_arm_30 : decode cX8_arm 30 = .ok (.goto 11, 3) := by decide +kernel
theorem dX8_arm_33 : decode cX8_arm 33 = .ok (.aload_n 0, 1) := by decide +kernel
theorem dX8_arm_34 : decode cX8_arm 34 = .ok (.getfield 68, 3) := by decide +kernel
theorem dX8_arm_37 : decode cX8_arm 37 = .ok (.iload_n 1, 1) := by decide +kernel
theorem dX8_arm_38 : decode cX8_arm 38 = .ok (.invokevirtual 259, 3) := by decide +kernel
theorem dX8_arm_41 : decode cX8_arm 41 = .ok (.ireturn, 1) := by decide +kernel
theorem dX8_keep_0 : decode cX8_keep 0 = .ok (.iload_n 1, 1) := by decide +kernel
theorem dX8_keep_1 : decode cX8_keep 1 = .ok (.iconst 0, 1) := by decide +kernel
theorem dX8_keep_2 : decode cX8_keep 2 = .ok (.iconst 1, 1) := by decide +kernel
theorem dX8_keep_3 : decode cX8_keep 3 = .ok (.invokestatic 72, 3) := by decide +kernel
theorem dX8_keep_6 : decode cX8_keep 6 = .ok (.ifCond .ne 5, 3) := by decide +kernel
theorem dX8_keep_9 : decode cX8_keep 9 = .ok (.iconst (-1), 1) := by decide +kernel
theorem dX8_keep_10 : decode cX8_keep 10 = .ok (.ireturn, 1) := by decide +kernel
theorem dX8_keep_11 : decode cX8_keep 11 = .ok (.aload_n 0, 1) := by decide +kernel
theorem dX8_keep_12 : decode cX8_keep 12 = .ok (.getfield 40, 3) := by decide +kernel
theorem dX8_keep_15 : decode cX8_keep 15 = .ok (.iload_n 1, 1) := by decide +kernel
theorem dX8_keep_16 : decode cX8_keep 16 = .ok (.aaload, 1) := by decide +kernel
theorem dX8_keep_17 : decode cX8_keep 17 = .ok (.aload_n 0, 1) := by decide +kernel
theorem dX8_keep_18 : decode cX8_keep 18 = .ok (.getfield 36, 3) := by decide +kernel
theorem dX8_keep_21 : decode cX8_keep 21 = .ok (.invokevirtual 262, 3) := by decide +kernel
theorem dX8_keep_24 : decode cX8_keep 24 = .ok (.aload_n 0, 1) := by decide +kernel
theorem dX8_keep_25 : decode cX8_keep 25 = .ok (.getfield 40, 3) := by decide +kernel
theorem dX8_keep_28 : decode cX8_keep 28 = .ok (.iload_n 1, 1) := by decide +kernel
theorem dX8_keep_29 : decode cX8_keep 29 = .ok (.aaload, 1) := by decide +kernel
theorem dX8_keep_30 : decode cX8_keep 30 = .ok (.iconst 1, 1) := by decide +kernel
theorem dX8_keep_31 : decode cX8_keep 31 = .ok (.putfield 92, 3) := by decide +kernel
theorem dX8_keep_34 : decode cX8_keep 34 = .ok (.aload_n 0, 1) := by decide +kernel
theorem dX8_keep_35 : decode cX8_keep 35 = .ok (.getfield 36, 3) := by decide +kernel
theorem dX8_keep_38 : decode cX8_keep 38 = .ok (.getfield 146, 3) := by decide +kernel
theorem dX8_keep_41 : decode cX8_keep 41 = .ok (.ireturn, 1) := by decide +kernel
theorem dX8_again_0 : decode cX8_again 0 = .ok (.iload_n 1, 1) := by decide +kernel
theorem dX8_again_1 : decode cX8_again 1 = .ok (.iconst 0, 1) := by decide +kernel
theorem dX8_again_2 : decode cX8_again 2 = .ok (.iconst 1, 1) := by decide +kernel
theorem dX8_again_3 : decode cX8_again 3 = .ok (.invokestatic 72, 3) := by decide +kernel
theorem dX8_again_6 : decode cX8_again 6 = .ok (.ifCond .ne 5, 3) := by decide +kernel
theorem dX8_again_9 : decode cX8_again 9 = .ok (.iconst (-1), 1) := by decide +kernel
theorem dX8_again_10 : decode cX8_again 10 = .ok (.ireturn, 1) := by decide +kernel
theorem dX8_again_11 : decode cX8_again 11 = .ok (.aload_n 0, 1) := by decide +kernel
theorem dX8_again_12 : decode cX8_again 12 = .ok (.getfield 40, 3) := by decide +kernel
theorem dX8_again_15 : decode cX8_again 15 = .ok (.iload_n 1, 1) := by decide +kernel
theorem dX8_again_16 : decode cX8_again 16 = .ok (.aaload, 1) := by decide +kernel
theorem dX8_again_17 : decode cX8_again 17 = .ok (.getfield 92, 3) := by decide +kernel
theorem dX8_again_20 : decode cX8_again 20 = .ok (.ifCond .ne 6, 3) := by decide +kernel
theorem dX8_again_23 : decode cX8_again 23 = .ok (.bipush (-3), 2) := by decide +kernel
theorem dX8_again_25 : decode cX8_again 25 = .ok (.ireturn, 1) := by decide +kernel
theorem dX8_again_26 : decode cX8_again 26 = .ok (.aload_n 0, 1) := by decide +kernel
theorem dX8_again_27 : decode cX8_again 27 = .ok (.getfield 36, 3) := by decide +kernel
theorem dX8_again_30 : decode cX8_again 30 = .ok (.aload_n 0, 1) := by decide +kernel
theorem dX8_again_31 : decode cX8_again 31 = .ok (.getfield 40, 3) := by decide +kernel
theorem dX8_again_34 : decode cX8_again 34 = .ok (.iload_n 1, 1) := by decide +kernel
theorem dX8_again_35 : decode cX8_again 35 = .ok (.aaload, 1) := by decide +kernel
theorem dX8_again_36 : decode cX8_again 36 = .ok (.invokevirtual 262, 3) := by decide +kernel
theorem dX8_again_39 : decode cX8_again 39 = .ok (.aload_n 0, 1) := by decide +kernel
theorem dX8_again_40 : decode cX8_again 40 = .ok (.getfield 36, 3) := by decide +kernel
theorem dX8_again_43 : decode cX8_again 43 = .ok (.getfield 146, 3) := by decide +kernel
theorem dX8_again_46 : decode cX8_again 46 = .ok (.ireturn, 1) := by decide +kernel
theorem dX8_count_0 : decode cX8_count 0 = .ok (.iload_n 1, 1) := by decide +kernel
theorem dX8_count_1 : decode cX8_count 1 = .ok (.tableswitch 99 0 6 #[43, 51, 59, 67, 75, 83, 91], 43) := by decide +kernel
theorem dX8_count_44 : decode cX8_count 44 = .ok (.aload_n 0, 1) := by decide +kernel
theorem dX8_count_45 : decode cX8_count 45 = .ok (.getfield 26, 3) := by decide +kernel
theorem dX8_count_48 : decode cX8_count 48 = .ok (.getfield 96, 3) := by decide +kernel
theorem dX8_count_51 : decode cX8_count 51 = .ok (.ireturn, 1) := by decide +kernel
theorem dX8_count_52 : decode cX8_count 52 = .ok (.aload_n 0, 1) := by decide +kernel
theorem dX8_count_53 : decode cX8_count 53 = .ok (.getfield 26, 3) := by decide +kernel
theorem dX8_count_56 : decode cX8_count 56 = .ok (.getfield 266, 3) := by decide +kernel
theorem dX8_count_59 : decode cX8_count 59 = .ok (.ireturn, 1) := by decide +kernel
theorem dX8_count_60 : decode cX8_count 60 = .ok (.aload_n 0, 1) := by decide +kernel
theorem dX8_count_61 : decode cX8_count 61 = .ok (.getfield 36, 3) := by decide +kernel
theorem dX8_count_64 : decode cX8_count 64 = .ok (.getfield 146, 3) := by decide +kernel
theorem dX8_count_67 : decode cX8_count 67 = .ok (.ireturn, 1) := by decide +kernel
theorem dX8_count_68 : decode cX8_count 68 = .ok (.aload_n 0, 1) := by decide +kernel
theorem dX8_count_69 : decode cX8_count 69 = .ok (.getfield 54, 3) := by decide +kernel
theorem dX8_count_72 : decode cX8_count 72 = .ok (.getfield 185, 3) := by decide +kernel
theorem dX8_count_75 : decode cX8_count 75 = .ok (.ireturn, 1) := by decide +kernel
theorem dX8_count_76 : decode cX8_count 76 = .ok (.aload_n 0, 1) := by decide +kernel
theorem dX8_count_77 : decode cX8_count 77 = .ok (.getfield 68, 3) := by decide +kernel
theorem dX8_count_80 : decode cX8_count 80 = .ok (.getfield 242, 3) := by decide +kernel
theorem dX8_count_83 : decode cX8_count 83 = .ok (.ireturn, 1) := by decide +kernel
theorem dX8_count_84 : decode cX8_count 84 = .ok (.aload_n 0, 1) := by decide +kernel
theorem dX8_count_85 : decode cX8_count 85 = .ok (.getfield 36, 3) := by decide +kernel
theorem dX8_count_88 : decode cX8_count 88 = .ok (.getfield 143, 3) := by decide +kernel
theorem dX8_count_91 : decode cX8_count 91 = .ok (.ireturn, 1) := by decide +kernel
theorem dX8_count_92 : decode cX8_count 92 = .ok (.aload_n 0, 1) := by decide +kernel
theorem dX8_count_93 : decode cX8_count 93 = .ok (.getfield 12, 3) := by decide +kernel
theorem dX8_count_96 : decode cX8_count 96 = .ok (.getfield 76, 3) := by decide +kernel
theorem dX8_count_99 : decode cX8_count 99 = .ok (.ireturn, 1) := by decide +kernel
theorem dX8_count_100 : decode cX8_count 100 = .ok (.bipush (-2), 2) := by decide +kernel
theorem dX8_count_102 : decode cX8_count 102 = .ok (.ireturn, 1) := by decide +kernel
theorem dX8_within_0 : decode cX8_within 0 = .ok (.iload_n 0, 1) := by decide +kernel
theorem dX8_within_1 : decode cX8_within 1 = .ok (.iload_n 1, 1) := by decide +kernel
theorem dX8_within_2 : decode cX8_within 2 = .ok (.if_icmp .lt 12, 3) := by decide +kernel
theorem dX8_within_5 : decode cX8_within 5 = .ok (.iload_n 0, 1) := by decide +kernel
theorem dX8_within_6 : decode cX8_within 6 = .ok (.iload_n 2, 1) := by decide +kernel
theorem dX8_within_7 : decode cX8_within 7 = .ok (.if_icmp .gt 7, 3) := by decide +kernel
theorem dX8_within_10 : decode cX8_within 10 = .ok (.iconst 1, 1) := by decide +kernel
theorem dX8_within_11 : decode cX8_within 11 = .ok (.goto 4, 3) := by decide +kernel
theorem dX8_within_14 : decode cX8_within 14 = .ok (.iconst 0, 1) := by decide +kernel
theorem dX8_within_15 : decode cX8_within 15 = .ok (.ireturn, 1) := by decide +kernel
theorem dX8_mayValue_0 : decode cX8_mayValue 0 = .ok (.iload_n 0, 1) := by decide +kernel
theorem dX8_mayValue_1 : decode cX8_mayValue 1 = .ok (.iconst 1, 1) := by decide +kernel
theorem dX8_mayValue_2 : decode cX8_mayValue 2 = .ok (.bipush 99, 2) := by decide +kernel
theorem dX8_mayValue_4 : decode cX8_mayValue 4 = .ok (.invokestatic 72, 3) := by decide +kernel
theorem dX8_mayValue_7 : decode cX8_mayValue 7 = .ok (.ifCond .eq 17, 3) := by decide +kernel
theorem dX8_mayValue_10 : decode cX8_mayValue 10 = .ok (.iload_n 1, 1) := by decide +kernel
theorem dX8_mayValue_11 : decode cX8_mayValue 11 = .ok (.iconst 0, 1) := by decide +kernel
theorem dX8_mayValue_12 : decode cX8_mayValue 12 = .ok (.bipush 9, 2) := by decide +kernel
theorem dX8_mayValue_14 : decode cX8_mayValue 14 = .ok (.invokestatic 72, 3) := by decide +kernel
theorem dX8_mayValue_17 : decode cX8_mayValue 17 = .ok (.ifCond .eq 7, 3) := by decide +kernel
theorem dX8_mayValue_20 : decode cX8_mayValue 20 = .ok (.iconst 1, 1) := by decide +kernel
theorem dX8_mayValue_21 : decode cX8_mayValue 21 = .ok (.goto 4, 3) := by decide +kernel
theorem dX8_mayValue_24 : decode cX8_mayValue 24 = .ok (.iconst 0, 1) := by decide +kernel
theorem dX8_mayValue_25 : decode cX8_mayValue 25 = .ok (.ireturn, 1) := by decide +kernel
theorem dX8_signOf_0 : decode cX8_signOf 0 = .ok (.iload_n 0, 1) := by decide +kernel
theorem dX8_signOf_1 : decode cX8_signOf 1 = .ok (.ifCond .ne 5, 3) := by decide +kernel
theorem dX8_signOf_4 : decode cX8_signOf 4 = .ok (.iconst 0, 1) := by decide +kernel
theorem dX8_signOf_5 : decode cX8_signOf 5 = .ok (.ireturn, 1) := by decide +kernel
theorem dX8_signOf_6 : decode cX8_signOf 6 = .ok (.iload_n 0, 1) := by decide +kernel
theorem dX8_signOf_7 : decode cX8_signOf 7 = .ok (.ifCond .ge 7, 3) := by decide +kernel
theorem dX8_signOf_10 : decode cX8_signOf 10 = .ok (.iconst (-1), 1) := by decide +kernel
theorem dX8_signOf_11 : decode cX8_signOf 11 = .ok (.goto 4, 3) := by decide +kernel
theorem dX8_signOf_14 : decode cX8_signOf 14 = .ok (.iconst 1, 1) := by decide +kernel
theorem dX8_signOf_15 : decode cX8_signOf 15 = .ok (.ireturn, 1) := by decide +kernel
theorem dX8_inLeastTerms_0 : decode cX8_inLeastTerms 0 = .ok (.lload_n 0, 1) := by decide +kernel
theorem dX8_inLeastTerms_1 : decode cX8_inLeastTerms 1 = .ok (.lstore 5, 2) := by decide +kernel
theorem dX8_inLeastTerms_3 : decode cX8_inLeastTerms 3 = .ok (.lload_n 2, 1) := by decide +kernel
theorem dX8_inLeastTerms_4 : decode cX8_inLeastTerms 4 = .ok (.lstore 7, 2) := by decide +kernel
theorem dX8_inLeastTerms_6 : decode cX8_inLeastTerms 6 = .ok (.iconst 0, 1) := by decide +kernel
theorem dX8_inLeastTerms_7 : decode cX8_inLeastTerms 7 = .ok (.istore 9, 2) := by decide +kernel
theorem dX8_inLeastTerms_9 : decode cX8_inLeastTerms 9 = .ok (.iload 9, 2) := by decide +kernel
theorem dX8_inLeastTerms_11 : decode cX8_inLeastTerms 11 = .ok (.bipush 100, 2) := by decide +kernel
theorem dX8_inLeastTerms_13 : decode cX8_inLeastTerms 13 = .ok (.if_icmp .ge 31, 3) := by decide +kernel
theorem dX8_inLeastTerms_16 : decode cX8_inLeastTerms 16 = .ok (.lload 7, 2) := by decide +kernel
theorem dX8_inLeastTerms_18 : decode cX8_inLeastTerms 18 = .ok (.lconst 0, 1) := by decide +kernel
theorem dX8_inLeastTerms_19 : decode cX8_inLeastTerms 19 = .ok (.lcmp, 1) := by decide +kernel
theorem dX8_inLeastTerms_20 : decode cX8_inLeastTerms 20 = .ok (.ifCond .eq 24, 3) := by decide +kernel
theorem dX8_inLeastTerms_23 : decode cX8_inLeastTerms 23 = .ok (.lload 5, 2) := by decide +kernel
theorem dX8_inLeastTerms_25 : decode cX8_inLeastTerms 25 = .ok (.lload 7, 2) := by decide +kernel
theorem dX8_inLeastTerms_27 : decode cX8_inLeastTerms 27 = .ok (.lrem, 1) := by decide +kernel
theorem dX8_inLeastTerms_28 : decode cX8_inLeastTerms 28 = .ok (.lstore 10, 2) := by decide +kernel
theorem dX8_inLeastTerms_30 : decode cX8_inLeastTerms 30 = .ok (.lload 7, 2) := by decide +kernel
theorem dX8_inLeastTerms_32 : decode cX8_inLeastTerms 32 = .ok (.lstore 5, 2) := by decide +kernel
theorem dX8_inLeastTerms_34 : decode cX8_inLeastTerms 34 = .ok (.lload 10, 2) := by decide +kernel
theorem dX8_inLeastTerms_36 : decode cX8_inLeastTerms 36 = .ok (.lstore 7, 2) := by decide +kernel
theorem dX8_inLeastTerms_38 : decode cX8_inLeastTerms 38 = .ok (.iinc 9 1, 3) := by decide +kernel
theorem dX8_inLeastTerms_41 : decode cX8_inLeastTerms 41 = .ok (.goto (-32), 3) := by decide +kernel
theorem dX8_inLeastTerms_44 : decode cX8_inLeastTerms 44 = .ok (.iload 4, 2) := by decide +kernel
theorem dX8_inLeastTerms_46 : decode cX8_inLeastTerms 46 = .ok (.ifCond .eq 7, 3) := by decide +kernel
theorem dX8_inLeastTerms_49 : decode cX8_inLeastTerms 49 = .ok (.lload_n 0, 1) := by decide +kernel
theorem dX8_inLeastTerms_50 : decode cX8_inLeastTerms 50 = .ok (.goto 4, 3) := by decide +kernel
theorem dX8_inLeastTerms_53 : decode cX8_inLeastTerms 53 = .ok (.lload_n 2, 1) := by decide +kernel
theorem dX8_inLeastTerms_54 : decode cX8_inLeastTerms 54 = .ok (.lstore 9, 2) := by decide +kernel
theorem dX8_inLeastTerms_56 : decode cX8_inLeastTerms 56 = .ok (.lload 5, 2) := by decide +kernel
theorem dX8_inLeastTerms_58 : decode cX8_inLeastTerms 58 = .ok (.lconst 0, 1) := by decide +kernel
theorem dX8_inLeastTerms_59 : decode cX8_inLeastTerms 59 = .ok (.lcmp, 1) := by decide +kernel
theorem dX8_inLeastTerms_60 : decode cX8_inLeastTerms 60 = .ok (.ifCond .ne 8, 3) := by decide +kernel
theorem dX8_inLeastTerms_63 : decode cX8_inLeastTerms 63 = .ok (.lload 9, 2) := by decide +kernel
theorem dX8_inLeastTerms_65 : decode cX8_inLeastTerms 65 = .ok (.goto 8, 3) := by decide +kernel
theorem dX8_inLeastTerms_68 : decode cX8_inLeastTerms 68 = .ok (.lload 9, 2) := by decide +kernel
theorem dX8_inLeastTerms_70 : decode cX8_inLeastTerms 70 = .ok (.lload 5, 2) := by decide +kernel
theorem dX8_inLeastTerms_72 : decode cX8_inLeastTerms 72 = .ok (.ldiv, 1) := by decide +kernel
theorem dX8_inLeastTerms_73 : decode cX8_inLeastTerms 73 = .ok (.lreturn, 1) := by decide +kernel
theorem dX8_spentBy_0 : decode cX8_spentBy 0 = .ok (.iconst 0, 1) := by decide +kernel
theorem dX8_spentBy_1 : decode cX8_spentBy 1 = .ok (.istore_n 2, 1) := by decide +kernel
theorem dX8_spentBy_2 : decode cX8_spentBy 2 = .ok (.iconst 0, 1) := by decide +kernel
theorem dX8_spentBy_3 : decode cX8_spentBy 3 = .ok (.istore_n 3, 1) := by decide +kernel
theorem dX8_spentBy_4 : decode cX8_spentBy 4 = .ok (.iload_n 3, 1) := by decide +kernel
theorem dX8_spentBy_5 : decode cX8_spentBy 5 = .ok (.aload_n 0, 1) := by decide +kernel
theorem dX8_spentBy_6 : decode cX8_spentBy 6 = .ok (.getfield 36, 3) := by decide +kernel
theorem dX8_spentBy_9 : decode cX8_spentBy 9 = .ok (.getfield 146, 3) := by decide +kernel
theorem dX8_spentBy_12 : decode cX8_spentBy 12 = .ok (.if_icmp .ge 52, 3) := by decide +kernel
theorem dX8_spentBy_15 : decode cX8_spentBy 15 = .ok (.aload_n 0, 1) := by decide +kernel
theorem dX8_spentBy_16 : decode cX8_spentBy 16 = .ok (.getfield 36, 3) := by decide +kernel
theorem dX8_spentBy_19 : decode cX8_spentBy 19 = .ok (.getfield 156, 3) := by decide +kernel
theorem dX8_spentBy_22 : decode cX8_spentBy 22 = .ok (.iload_n 3, 1) := by decide +kernel
theorem dX8_spentBy_23 : decode cX8_spentBy 23 = .ok (.iaload, 1) := by decide +kernel
theorem dX8_spentBy_24 : decode cX8_spentBy 24 = .ok (.iload_n 1, 1) := by decide +kernel
theorem dX8_spentBy_25 : decode cX8_spentBy 25 = .ok (.if_icmp .ne 33, 3) := by decide +kernel
theorem dX8_spentBy_28 : decode cX8_spentBy 28 = .ok (.iload_n 2, 1) := by decide +kernel
theorem dX8_spentBy_29 : decode cX8_spentBy 29 = .ok (.aload_n 0, 1) := by decide +kernel
theorem dX8_spentBy_30 : decode cX8_spentBy 30 = .ok (.getfield 36, 3) := by decide +kernel
theorem dX8_spentBy_33 : decode cX8_spentBy 33 = .ok (.getfield 162, 3) := by decide +kernel
theorem dX8_spentBy_36 : decode cX8_spentBy 36 = .ok (.iload_n 3, 1) := by decide +kernel
theorem dX8_spentBy_37 : decode cX8_spentBy 37 = .ok (.iaload, 1) := by decide +kernel
theorem dX8_spentBy_38 : decode cX8_spentBy 38 = .ok (.aload_n 0, 1) := by decide +kernel
theorem dX8_spentBy_39 : decode cX8_spentBy 39 = .ok (.getfield 26, 3) := by decide +kernel
theorem dX8_spentBy_42 : decode cX8_spentBy 42 = .ok (.getfield 126, 3) := by decide +kernel
theorem dX8_spentBy_45 : decode cX8_spentBy 45 = .ok (.aload_n 0, 1) := by decide +kernel
theorem dX8_spentBy_46 : decode cX8_spentBy 46 = .ok (.getfield 36, 3) := by decide +kernel
theorem dX8_spentBy_49 : decode cX8_spentBy 49 = .ok (.getfield 159, 3) := by decide +kernel
theorem dX8_spentBy_52 : decode cX8_spentBy 52 = .ok (.iload_n 3, 1) := by decide +kernel
theorem dX8_spentBy_53 : decode cX8_spentBy 53 = .ok (.iaload, 1) := by decide +kernel
theorem dX8_spentBy_54 : decode cX8_spentBy 54 = .ok (.iaload, 1) := by decide +kernel
theorem dX8_spentBy_55 : decode cX8_spentBy 55 = .ok (.imul, 1) := by decide +kernel
theorem dX8_spentBy_56 : decode cX8_spentBy 56 = .ok (.iadd, 1) := by decide +kernel
theorem dX8_spentBy_57 : decode cX8_spentBy 57 = .ok (.istore_n 2, 1) := by decide +kernel
theorem dX8_spentBy_58 : decode cX8_spentBy 58 = .ok (.iinc 3 1, 3) := by decide +kernel
theorem dX8_spentBy_61 : decode cX8_spentBy 61 = .ok (.goto (-57), 3) := by decide +kernel
theorem dX8_spentBy_64 : decode cX8_spentBy 64 = .ok (.iload_n 2, 1) := by decide +kernel
theorem dX8_spentBy_65 : decode cX8_spentBy 65 = .ok (.ireturn, 1) := by decide +kernel
theorem dX8_gotBy_0 : decode cX8_gotBy 0 = .ok (.iconst 0, 1) := by decide +kernel
theorem dX8_gotBy_1 : decode cX8_gotBy 1 = .ok (.istore_n 2, 1) := by decide +kernel
theorem dX8_gotBy_2 : decode cX8_gotBy 2 = .ok (.iconst 0, 1) := by decide +kernel
theorem dX8_gotBy_3 : decode cX8_gotBy 3 = .ok (.istore_n 3, 1) := by decide +kernel
theorem dX8_gotBy_4 : decode cX8_gotBy 4 = .ok (.iload_n 3, 1) := by decide +kernel
theorem dX8_gotBy_5 : decode cX8_gotBy 5 = .ok (.aload_n 0, 1) := by decide +kernel
theorem dX8_gotBy_6 : decode cX8_gotBy 6 = .ok (.getfield 36, 3) := by decide +kernel
theorem dX8_gotBy_9 : decode cX8_gotBy 9 = .ok (.getfield 146, 3) := by decide +kernel
theorem dX8_gotBy_12 : decode cX8_gotBy 12 = .ok (.if_icmp .ge 34, 3) := by decide +kernel
theorem dX8_gotBy_15 : decode cX8_gotBy 15 = .ok (.aload_n 0, 1) := by decide +kernel
theorem dX8_gotBy_16 : decode cX8_gotBy 16 = .ok (.getfield 36, 3) := by decide +kernel
theorem dX8_gotBy_19 : decode cX8_gotBy 19 = .ok (.getfield 156, 3) := by decide +kernel
theorem dX8_gotBy_22 : decode cX8_gotBy 22 = .ok (.iload_n 3, 1) := by decide +kernel
theorem dX8_gotBy_23 : decode cX8_gotBy 23 = .ok (.iaload, 1) := by decide +kernel
theorem dX8_gotBy_24 : decode cX8_gotBy 24 = .ok (.iload_n 1, 1) := by decide +kernel
theorem dX8_gotBy_25 : decode cX8_gotBy 25 = .ok (.if_icmp .ne 15, 3) := by decide +kernel
theorem dX8_gotBy_28 : decode cX8_gotBy 28 = .ok (.iload_n 2, 1) := by decide +kernel
theorem dX8_gotBy_29 : decode cX8_gotBy 29 = .ok (.aload_n 0, 1) := by decide +kernel
theorem dX8_gotBy_30 : decode cX8_gotBy 30 = .ok (.getfield 36, 3) := by decide +kernel
theorem dX8_gotBy_33 : decode cX8_gotBy 33 = .ok (.getfield 165, 3) := by decide +kernel
theorem dX8_gotBy_36 : decode cX8_gotBy 36 = .ok (.iload_n 3, 1) := by decide +kernel
theorem dX8_gotBy_37 : decode cX8_gotBy 37 = .ok (.iaload, 1) := by decide +kernel
theorem dX8_gotBy_38 : decode cX8_gotBy 38 = .ok (.iadd, 1) := by decide +kernel
theorem dX8_gotBy_39 : decode cX8_gotBy 39 = .ok (.istore_n 2, 1) := by decide +kernel
theorem dX8_gotBy_40 : decode cX8_gotBy 40 = .ok (.iinc 3 1, 3) := by decide +kernel
theorem dX8_gotBy_43 : decode cX8_gotBy 43 = .ok (.goto (-39), 3) := by decide +kernel
theorem dX8_gotBy_46 : decode cX8_gotBy 46 = .ok (.iload_n 2, 1) := by decide +kernel
theorem dX8_gotBy_47 : decode cX8_gotBy 47 = .ok (.ireturn, 1) := by decide +kernel
theorem dX8_broughtBy_0 : decode cX8_broughtBy 0 = .ok (.iconst 0, 1) := by decide +kernel
theorem dX8_broughtBy_1 : decode cX8_broughtBy 1 = .ok (.istore 4, 2) := by decide +kernel
theorem dX8_broughtBy_3 : decode cX8_broughtBy 3 = .ok (.iconst 0, 1) := by decide +kernel
theorem dX8_broughtBy_4 : decode cX8_broughtBy 4 = .ok (.istore 5, 2) := by decide +kernel
theorem dX8_broughtBy_6 : decode cX8_broughtBy 6 = .ok (.iload 5, 2) := by decide +kernel
theorem dX8_broughtBy_8 : decode cX8_broughtBy 8 = .ok (.aload_n 0, 1) := by decide +kernel
theorem dX8_broughtBy_9 : decode cX8_broughtBy 9 = .ok (.getfield 26, 3) := by decide +kernel
theorem dX8_broughtBy_12 : decode cX8_broughtBy 12 = .ok (.getfield 96, 3) := by decide +kernel
theorem dX8_broughtBy_15 : decode cX8_broughtBy 15 = .ok (.if_icmp .ge 55, 3) := by decide +kernel
theorem dX8_broughtBy_18 : decode cX8_broughtBy 18 = .ok (.iload_n 1, 1) := by decide +kernel
theorem dX8_broughtBy_19 : decode cX8_broughtBy 19 = .ok (.iload_n 2, 1) := by decide +kernel
theorem dX8_broughtBy_20 : decode cX8_broughtBy 20 = .ok (.aload_n 0, 1) := by decide +kernel
theorem dX8_broughtBy_21 : decode cX8_broughtBy 21 = .ok (.getfield 36, 3) := by decide +kernel
theorem dX8_broughtBy_24 : decode cX8_broughtBy 24 = .ok (.getfield 103, 3) := by decide +kernel
theorem dX8_broughtBy_27 : decode cX8_broughtBy 27 = .ok (.iload 5, 2) := by decide +kernel
theorem dX8_broughtBy_29 : decode cX8_broughtBy 29 = .ok (.iaload, 1) := by decide +kernel
theorem dX8_broughtBy_30 : decode cX8_broughtBy 30 = .ok (.imul, 1) := by decide +kernel
theorem dX8_broughtBy_31 : decode cX8_broughtBy 31 = .ok (.if_icmp .gt 33, 3) := by decide +kernel
theorem dX8_broughtBy_34 : decode cX8_broughtBy 34 = .ok (.iload 4, 2) := by decide +kernel
theorem dX8_broughtBy_36 : decode cX8_broughtBy 36 = .ok (.aload_n 0, 1) := by decide +kernel
theorem dX8_broughtBy_37 : decode cX8_broughtBy 37 = .ok (.getfield 26, 3) := by decide +kernel
theorem dX8_broughtBy_40 : decode cX8_broughtBy 40 = .ok (.getfield 117, 3) := by decide +kernel
theorem dX8_broughtBy_43 : decode cX8_broughtBy 43 = .ok (.iload 5, 2) := by decide +kernel
theorem dX8_broughtBy_45 : decode cX8_broughtBy 45 = .ok (.iaload, 1) := by decide +kernel
theorem dX8_broughtBy_46 : decode cX8_broughtBy 46 = .ok (.iload_n 1, 1) := by decide +kernel
theorem dX8_broughtBy_47 : decode cX8_broughtBy 47 = .ok (.iload_n 3, 1) := by decide +kernel
theorem dX8_broughtBy_48 : decode cX8_broughtBy 48 = .ok (.aload_n 0, 1) := by decide +kernel
theorem dX8_broughtBy_49 : decode cX8_broughtBy 49 = .ok (.getfield 36, 3) := by decide +kernel
theorem dX8_broughtBy_52 : decode cX8_broughtBy 52 = .ok (.getfield 103, 3) := by decide +kernel
theorem dX8_broughtBy_55 : decode cX8_broughtBy 55 = .ok (.iload 5, 2) := by decide +kernel
theorem dX8_broughtBy_57 : decode cX8_broughtBy 57 = .ok (.iaload, 1) := by decide +kernel
theorem dX8_broughtBy_58 : decode cX8_broughtBy 58 = .ok (.imul, 1) := by decide +kernel
theorem dX8_broughtBy_59 : decode cX8_broughtBy 59 = .ok (.isub, 1) := by decide +kernel
theorem dX8_broughtBy_60 : decode cX8_broughtBy 60 = .ok (.imul, 1) := by decide +kernel
theorem dX8_broughtBy_61 : decode cX8_broughtBy 61 = .ok (.iadd, 1) := by decide +kernel
theorem dX8_broughtBy_62 : decode cX8_broughtBy 62 = .ok (.istore 4, 2) := by decide +kernel
theorem dX8_broughtBy_64 : decode cX8_broughtBy 64 = .ok (.iinc 5 1, 3) := by decide +kernel
theorem dX8_broughtBy_67 : decode cX8_broughtBy 67 = .ok (.goto (-61), 3) := by decide +kernel
theorem dX8_broughtBy_70 : decode cX8_broughtBy 70 = .ok (.iload 4, 2) := by decide +kernel
theorem dX8_broughtBy_72 : decode cX8_broughtBy 72 = .ok (.ireturn, 1) := by decide +kernel
theorem dX8_losersBy_0 : decode cX8_losersBy 0 = .ok (.iconst 0, 1) := by decide +kernel
theorem dX8_losersBy_1 : decode cX8_losersBy 1 = .ok (.istore_n 2, 1) := by decide +kernel
theorem dX8_losersBy_2 : decode cX8_losersBy 2 = .ok (.iconst 0, 1) := by decide +kernel
theorem dX8_losersBy_3 : decode cX8_losersBy 3 = .ok (.istore_n 3, 1) := by decide +kernel
theorem dX8_losersBy_4 : decode cX8_losersBy 4 = .ok (.iload_n 3, 1) := by decide +kernel
theorem dX8_losersBy_5 : decode cX8_losersBy 5 = .ok (.aload_n 0, 1) := by decide +kernel
theorem dX8_losersBy_6 : decode cX8_losersBy 6 = .ok (.getfield 26, 3) := by decide +kernel
theorem dX8_losersBy_9 : decode cX8_losersBy 9 = .ok (.getfield 96, 3) := by decide +kernel
theorem dX8_losersBy_12 : decode cX8_losersBy 12 = .ok (.if_icmp .ge 69, 3) := by decide +kernel
theorem dX8_losersBy_15 : decode cX8_losersBy 15 = .ok (.aload_n 0, 1) := by decide +kernel
theorem dX8_losersBy_16 : decode cX8_losersBy 16 = .ok (.getfield 26, 3) := by decide +kernel
theorem dX8_losersBy_19 : decode cX8_losersBy 19 = .ok (.iload_n 3, 1) := by decide +kernel
theorem dX8_losersBy_20 : decode cX8_losersBy 20 = .ok (.invokevirtual 120, 3) := by decide +kernel
theorem dX8_losersBy_23 : decode cX8_losersBy 23 = .ok (.ifCond .eq 24, 3) := by decide +kernel
theorem dX8_losersBy_26 : decode cX8_losersBy 26 = .ok (.iload_n 1, 1) := by decide +kernel
theorem dX8_losersBy_27 : decode cX8_losersBy 27 = .ok (.aload_n 0, 1) := by decide +kernel
theorem dX8_losersBy_28 : decode cX8_losersBy 28 = .ok (.getfield 36, 3) := by decide +kernel
theorem dX8_losersBy_31 : decode cX8_losersBy 31 = .ok (.getfield 103, 3) := by decide +kernel
theorem dX8_losersBy_34 : decode cX8_losersBy 34 = .ok (.iload_n 3, 1) := by decide +kernel
theorem dX8_losersBy_35 : decode cX8_losersBy 35 = .ok (.iaload, 1) := by decide +kernel
theorem dX8_losersBy_36 : decode cX8_losersBy 36 = .ok (.if_icmp .le 7, 3) := by decide +kernel
theorem dX8_losersBy_39 : decode cX8_losersBy 39 = .ok (.iconst 1, 1) := by decide +kernel
theorem dX8_losersBy_40 : decode cX8_losersBy 40 = .ok (.goto 25, 3) := by decide +kernel
theorem dX8_losersBy_43 : decode cX8_losersBy 43 = .ok (.iconst 0, 1) := by decide +kernel
theorem dX8_losersBy_44 : decode cX8_losersBy 44 = .ok (.goto 21, 3) := by decide +kernel
theorem dX8_losersBy_47 : decode cX8_losersBy 47 = .ok (.iload_n 1, 1) := by decide +kernel
theorem dX8_losersBy_48 : decode cX8_losersBy 48 = .ok (.aload_n 0, 1) := by decide +kernel
theorem dX8_losersBy_49 : decode cX8_losersBy 49 = .ok (.getfield 36, 3) := by decide +kernel
theorem dX8_losersBy_52 : decode cX8_losersBy 52 = .ok (.getfield 103, 3) := by decide +kernel
theorem dX8_losersBy_55 : decode cX8_losersBy 55 = .ok (.iload_n 3, 1) := by decide +kernel
theorem dX8_losersBy_56 : decode cX8_losersBy 56 = .ok (.iaload, 1) := by decide +kernel
theorem dX8_losersBy_57 : decode cX8_losersBy 57 = .ok (.if_icmp .ge 7, 3) := by decide +kernel
theorem dX8_losersBy_60 : decode cX8_losersBy 60 = .ok (.iconst 1, 1) := by decide +kernel
theorem dX8_losersBy_61 : decode cX8_losersBy 61 = .ok (.goto 4, 3) := by decide +kernel
theorem dX8_losersBy_64 : decode cX8_losersBy 64 = .ok (.iconst 0, 1) := by decide +kernel
theorem dX8_losersBy_65 : decode cX8_losersBy 65 = .ok (.istore 4, 2) := by decide +kernel
theorem dX8_losersBy_67 : decode cX8_losersBy 67 = .ok (.iload 4, 2) := by decide +kernel
theorem dX8_losersBy_69 : decode cX8_losersBy 69 = .ok (.ifCond .eq 6, 3) := by decide +kernel
theorem dX8_losersBy_72 : decode cX8_losersBy 72 = .ok (.iinc 2 1, 3) := by decide +kernel
theorem dX8_losersBy_75 : decode cX8_losersBy 75 = .ok (.iinc 3 1, 3) := by decide +kernel
theorem dX8_losersBy_78 : decode cX8_losersBy 78 = .ok (.goto (-74), 3) := by decide +kernel
theorem dX8_losersBy_81 : decode cX8_losersBy 81 = .ok (.iload_n 2, 1) := by decide +kernel
theorem dX8_losersBy_82 : decode cX8_losersBy 82 = .ok (.ireturn, 1) := by decide +kernel
