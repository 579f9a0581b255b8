theorem dX9_earned_43 : decode cX9_earned 43 = .ok (.ireturn, 1) := by decide +kernel
theorem dX9_earned_44 : decode cX9_earned 44 = .ok (.ldc 247, 2) := by decide +kernel
theorem dX9_earned_46 : decode cX9_earned 46 = .ok (.aload_n 0, 1) := by decide +kernel
theorem dX9_earned_47 : decode cX9_earned 47 = .ok (.iload_n 1, 1) := by decide +kernel
theorem dX9_earned_48 : decode cX9_earned 48 = .ok (.iload_n 2, 1) := by decide +kernel
theorem dX9_earned_49 : decode cX9_earned 49 = .ok (.iload_n 3, 1) := by decide +kernel
theorem dX9_earned_50 : decode cX9_earned 50 = .ok (.invokevirtual 248, 3) := by decide +kernel
theorem dX9_earned_53 : decode cX9_earned 53 = .ok (.iadd, 1) := by decide +kernel
theorem dX9_earned_54 : decode cX9_earned 54 = .ok (.ireturn, 1) := by decide +kernel
theorem dX9_ask_0 : decode cX9_ask 0 = .ok (.aload_n 0, 1) := by decide +kernel
theorem dX9_ask_1 : decode cX9_ask 1 = .ok (.iconst 0, 1) := by decide +kernel
theorem dX9_ask_2 : decode cX9_ask 2 = .ok (.putfield 117, 3) := by decide +kernel
theorem dX9_ask_5 : decode cX9_ask 5 = .ok (.iload_n 1, 1) := by decide +kernel
theorem dX9_ask_6 : decode cX9_ask 6 = .ok (.i2l, 1) := by decide +kernel
theorem dX9_ask_7 : decode cX9_ask 7 = .ok (.lconst 1, 1) := by decide +kernel
theorem dX9_ask_8 : decode cX9_ask 8 = .ok (.ldc2_w 191, 3) := by decide +kernel
theorem dX9_ask_11 : decode cX9_ask 11 = .ok (.invokestatic 123, 3) := by decide +kernel
theorem dX9_ask_14 : decode cX9_ask 14 = .ok (.ifCond .eq 15, 3) := by decide +kernel
theorem dX9_ask_17 : decode cX9_ask 17 = .ok (.iload_n 2, 1) := by decide +kernel
theorem dX9_ask_18 : decode cX9_ask 18 = .ok (.i2l, 1) := by decide +kernel
theorem dX9_ask_19 : decode cX9_ask 19 = .ok (.lconst 0, 1) := by decide +kernel
theorem dX9_ask_20 : decode cX9_ask 20 = .ok (.ldc2_w 138, 3) := by decide +kernel
theorem dX9_ask_23 : decode cX9_ask 23 = .ok (.invokestatic 123, 3) := by decide +kernel
theorem dX9_ask_26 : decode cX9_ask 26 = .ok (.ifCond .ne 6, 3) := by decide +kernel
theorem dX9_ask_29 : decode cX9_ask 29 = .ok (.bipush (-2), 2) := by decide +kernel
theorem dX9_ask_31 : decode cX9_ask 31 = .ok (.ireturn, 1) := by decide +kernel
theorem dX9_ask_32 : decode cX9_ask 32 = .ok (.iconst 1, 1) := by decide +kernel
theorem dX9_ask_33 : decode cX9_ask 33 = .ok (.istore_n 3, 1) := by decide +kernel
theorem dX9_ask_34 : decode cX9_ask 34 = .ok (.iconst 2, 1) := by decide +kernel
theorem dX9_ask_35 : decode cX9_ask 35 = .ok (.istore 4, 2) := by decide +kernel
theorem dX9_ask_37 : decode cX9_ask 37 = .ok (.iload 4, 2) := by decide +kernel
theorem dX9_ask_39 : decode cX9_ask 39 = .ok (.sipush 1000, 3) := by decide +kernel
theorem dX9_ask_42 : decode cX9_ask 42 = .ok (.if_icmp .ge 34, 3) := by decide +kernel
theorem dX9_ask_45 : decode cX9_ask 45 = .ok (.aload_n 0, 1) := by decide +kernel
theorem dX9_ask_46 : decode cX9_ask 46 = .ok (.iload 4, 2) := by decide +kernel
theorem dX9_ask_48 : decode cX9_ask 48 = .ok (.iload_n 1, 1) := by decide +kernel
theorem dX9_ask_49 : decode cX9_ask 49 = .ok (.iload_n 2, 1) := by decide +kernel
theorem dX9_ask_50 : decode cX9_ask 50 = .ok (.invokevirtual 248, 3) := by decide +kernel
theorem dX9_ask_53 : decode cX9_ask 53 = .ok (.aload_n 0, 1) := by decide +kernel
theorem dX9_ask_54 : decode cX9_ask 54 = .ok (.iload_n 3, 1) := by decide +kernel
theorem dX9_ask_55 : decode cX9_ask 55 = .ok (.iload_n 1, 1) := by decide +kernel
theorem dX9_ask_56 : decode cX9_ask 56 = .ok (.iload_n 2, 1) := by decide +kernel
theorem dX9_ask_57 : decode cX9_ask 57 = .ok (.invokevirtual 248, 3) := by decide +kernel
theorem dX9_ask_60 : decode cX9_ask 60 = .ok (.if_icmp .le 8, 3) := by decide +kernel
theorem dX9_ask_63 : decode cX9_ask 63 = .ok (.iload 4, 2) := by decide +kernel
theorem dX9_ask_65 : decode cX9_ask 65 = .ok (.goto 4, 3) := by decide +kernel
theorem dX9_ask_68 : decode cX9_ask 68 = .ok (.iload_n 3, 1) := by decide +kernel
theorem dX9_ask_69 : decode cX9_ask 69 = .ok (.istore_n 3, 1) := by decide +kernel
theorem dX9_ask_70 : decode cX9_ask 70 = .ok (.iinc 4 1, 3) := by decide +kernel
theorem dX9_ask_73 : decode cX9_ask 73 = .ok (.goto (-36), 3) := by decide +kernel
theorem dX9_ask_76 : decode cX9_ask 76 = .ok (.iload_n 3, 1) := by decide +kernel
theorem dX9_ask_77 : decode cX9_ask 77 = .ok (.ireturn, 1) := by decide +kernel
theorem dX9_keeper_0 : decode cX9_keeper 0 = .ok (.aload_n 0, 1) := by decide +kernel
theorem dX9_keeper_1 : decode cX9_keeper 1 = .ok (.iconst 0, 1) := by decide +kernel
theorem dX9_keeper_2 : decode cX9_keeper 2 = .ok (.putfield 117, 3) := by decide +kernel
theorem dX9_keeper_5 : decode cX9_keeper 5 = .ok (.aload_n 0, 1) := by decide +kernel
theorem dX9_keeper_6 : decode cX9_keeper 6 = .ok (.iload_n 1, 1) := by decide +kernel
theorem dX9_keeper_7 : decode cX9_keeper 7 = .ok (.invokevirtual 180, 3) := by decide +kernel
theorem dX9_keeper_10 : decode cX9_keeper 10 = .ok (.ifCond .eq 5, 3) := by decide +kernel
theorem dX9_keeper_13 : decode cX9_keeper 13 = .ok (.iconst (-1), 1) := by decide +kernel
theorem dX9_keeper_14 : decode cX9_keeper 14 = .ok (.ireturn, 1) := by decide +kernel
theorem dX9_keeper_15 : decode cX9_keeper 15 = .ok (.aload_n 0, 1) := by decide +kernel
theorem dX9_keeper_16 : decode cX9_keeper 16 = .ok (.getfield 32, 3) := by decide +kernel
theorem dX9_keeper_19 : decode cX9_keeper 19 = .ok (.iload_n 1, 1) := by decide +kernel
theorem dX9_keeper_20 : decode cX9_keeper 20 = .ok (.baload, 1) := by decide +kernel
theorem dX9_keeper_21 : decode cX9_keeper 21 = .ok (.istore_n 3, 1) := by decide +kernel
theorem dX9_keeper_22 : decode cX9_keeper 22 = .ok (.aload_n 0, 1) := by decide +kernel
theorem dX9_keeper_23 : decode cX9_keeper 23 = .ok (.getfield 32, 3) := by decide +kernel
theorem dX9_keeper_26 : decode cX9_keeper 26 = .ok (.iload_n 1, 1) := by decide +kernel
theorem dX9_keeper_27 : decode cX9_keeper 27 = .ok (.iload_n 2, 1) := by decide +kernel
theorem dX9_keeper_28 : decode cX9_keeper 28 = .ok (.bastore, 1) := by decide +kernel
theorem dX9_keeper_29 : decode cX9_keeper 29 = .ok (.iload_n 3, 1) := by decide +kernel
theorem dX9_keeper_30 : decode cX9_keeper 30 = .ok (.iload_n 2, 1) := by decide +kernel
theorem dX9_keeper_31 : decode cX9_keeper 31 = .ok (.if_icmp .ne 7, 3) := by decide +kernel
theorem dX9_keeper_34 : decode cX9_keeper 34 = .ok (.iconst 0, 1) := by decide +kernel
theorem dX9_keeper_35 : decode cX9_keeper 35 = .ok (.goto 4, 3) := by decide +kernel
theorem dX9_keeper_38 : decode cX9_keeper 38 = .ok (.iconst 1, 1) := by decide +kernel
theorem dX9_keeper_39 : decode cX9_keeper 39 = .ok (.ireturn, 1) := by decide +kernel
theorem dX9_losersBy_0 : decode cX9_losersBy 0 = .ok (.iconst 0, 1) := by decide +kernel
theorem dX9_losersBy_1 : decode cX9_losersBy 1 = .ok (.istore_n 2, 1) := by decide +kernel
theorem dX9_losersBy_2 : decode cX9_losersBy 2 = .ok (.iconst 0, 1) := by decide +kernel
theorem dX9_losersBy_3 : decode cX9_losersBy 3 = .ok (.istore_n 3, 1) := by decide +kernel
theorem dX9_losersBy_4 : decode cX9_losersBy 4 = .ok (.iload_n 3, 1) := by decide +kernel
theorem dX9_losersBy_5 : decode cX9_losersBy 5 = .ok (.aload_n 0, 1) := by decide +kernel
theorem dX9_losersBy_6 : decode cX9_losersBy 6 = .ok (.getfield 120, 3) := by decide +kernel
theorem dX9_losersBy_9 : decode cX9_losersBy 9 = .ok (.if_icmp .ge 54, 3) := by decide +kernel
theorem dX9_losersBy_12 : decode cX9_losersBy 12 = .ok (.iload_n 2, 1) := by decide +kernel
theorem dX9_losersBy_13 : decode cX9_losersBy 13 = .ok (.aload_n 0, 1) := by decide +kernel
theorem dX9_losersBy_14 : decode cX9_losersBy 14 = .ok (.getfield 32, 3) := by decide +kernel
theorem dX9_losersBy_17 : decode cX9_losersBy 17 = .ok (.iload_n 3, 1) := by decide +kernel
theorem dX9_losersBy_18 : decode cX9_losersBy 18 = .ok (.baload, 1) := by decide +kernel
theorem dX9_losersBy_19 : decode cX9_losersBy 19 = .ok (.ifCond .eq 21, 3) := by decide +kernel
theorem dX9_losersBy_22 : decode cX9_losersBy 22 = .ok (.iload_n 1, 1) := by decide +kernel
theorem dX9_losersBy_23 : decode cX9_losersBy 23 = .ok (.aload_n 0, 1) := by decide +kernel
theorem dX9_losersBy_24 : decode cX9_losersBy 24 = .ok (.getfield 13, 3) := by decide +kernel
theorem dX9_losersBy_27 : decode cX9_losersBy 27 = .ok (.iload_n 3, 1) := by decide +kernel
theorem dX9_losersBy_28 : decode cX9_losersBy 28 = .ok (.iaload, 1) := by decide +kernel
theorem dX9_losersBy_29 : decode cX9_losersBy 29 = .ok (.if_icmp .le 7, 3) := by decide +kernel
theorem dX9_losersBy_32 : decode cX9_losersBy 32 = .ok (.iconst 1, 1) := by decide +kernel
theorem dX9_losersBy_33 : decode cX9_losersBy 33 = .ok (.goto 22, 3) := by decide +kernel
theorem dX9_losersBy_36 : decode cX9_losersBy 36 = .ok (.iconst 0, 1) := by decide +kernel
theorem dX9_losersBy_37 : decode cX9_losersBy 37 = .ok (.goto 18, 3) := by decide +kernel
theorem dX9_losersBy_40 : decode cX9_losersBy 40 = .ok (.iload_n 1, 1) := by decide +kernel
theorem dX9_losersBy_41 : decode cX9_losersBy 41 = .ok (.aload_n 0, 1) := by decide +kernel
theorem dX9_losersBy_42 : decode cX9_losersBy 42 = .ok (.getfield 13, 3) := by decide +kernel
theorem dX9_losersBy_45 : decode cX9_losersBy 45 = .ok (.iload_n 3, 1) := by decide +kernel
theorem dX9_losersBy_46 : decode cX9_losersBy 46 = .ok (.iaload, 1) := by decide +kernel
theorem dX9_losersBy_47 : decode cX9_losersBy 47 = .ok (.if_icmp .ge 7, 3) := by decide +kernel
theorem dX9_losersBy_50 : decode cX9_losersBy 50 = .ok (.iconst 1, 1) := by decide +kernel
theorem dX9_losersBy_51 : decode cX9_losersBy 51 = .ok (.goto 4, 3) := by decide +kernel
theorem dX9_losersBy_54 : decode cX9_losersBy 54 = .ok (.iconst 0, 1) := by decide +kernel
theorem dX9_losersBy_55 : decode cX9_losersBy 55 = .ok (.iadd, 1) := by decide +kernel
theorem dX9_losersBy_56 : decode cX9_losersBy 56 = .ok (.istore_n 2, 1) := by decide +kernel
theorem dX9_losersBy_57 : decode cX9_losersBy 57 = .ok (.iinc 3 1, 3) := by decide +kernel
theorem dX9_losersBy_60 : decode cX9_losersBy 60 = .ok (.goto (-56), 3) := by decide +kernel
theorem dX9_losersBy_63 : decode cX9_losersBy 63 = .ok (.iload_n 2, 1) := by decide +kernel
theorem dX9_losersBy_64 : decode cX9_losersBy 64 = .ok (.ireturn, 1) := by decide +kernel
theorem dX9_losers_0 : decode cX9_losers 0 = .ok (.aload_n 0, 1) := by decide +kernel
theorem dX9_losers_1 : decode cX9_losers 1 = .ok (.iconst 0, 1) := by decide +kernel
theorem dX9_losers_2 : decode cX9_losers 2 = .ok (.putfield 117, 3) := by decide +kernel
theorem dX9_losers_5 : decode cX9_losers 5 = .ok (.iload_n 1, 1) := by decide +kernel
theorem dX9_losers_6 : decode cX9_losers 6 = .ok (.i2l, 1) := by decide +kernel
theorem dX9_losers_7 : decode cX9_losers 7 = .ok (.lconst 1, 1) := by decide +kernel
theorem dX9_losers_8 : decode cX9_losers 8 = .ok (.ldc2_w 191, 3) := by decide +kernel
theorem dX9_losers_11 : decode cX9_losers 11 = .ok (.invokestatic 123, 3) := by decide +kernel
theorem dX9_losers_14 : decode cX9_losers 14 = .ok (.ifCond .eq 11, 3) := by decide +kernel
theorem dX9_losers_17 : decode cX9_losers 17 = .ok (.aload_n 0, 1) := by decide +kernel
theorem dX9_losers_18 : decode cX9_losers 18 = .ok (.iload_n 1, 1) := by decide +kernel
theorem dX9_losers_19 : decode cX9_losers 19 = .ok (.invokevirtual 251, 3) := by decide +kernel
theorem dX9_losers_22 : decode cX9_losers 22 = .ok (.goto 5, 3) := by decide +kernel
theorem dX9_losers_25 : decode cX9_losers 25 = .ok (.bipush (-2), 2) := by decide +kernel
theorem dX9_losers_27 : decode cX9_losers 27 = .ok (.ireturn, 1) := by decide +kernel
theorem dX9_fairest_0 : decode cX9_fairest 0 = .ok (.aload_n 0, 1) := by decide +kernel
theorem dX9_fairest_1 : decode cX9_fairest 1 = .ok (.iconst 0, 1) := by decide +kernel
theorem dX9_fairest_2 : decode cX9_fairest 2 = .ok (.putfield 117, 3) := by decide +kernel
theorem dX9_fairest_5 : decode cX9_fairest 5 = .ok (.iconst 1, 1) := by decide +kernel
theorem dX9_fairest_6 : decode cX9_fairest 6 = .ok (.istore_n 1, 1) := by decide +kernel
theorem dX9_fairest_7 : decode cX9_fairest 7 = .ok (.iconst 2, 1) := by decide +kernel
theorem dX9_fairest_8 : decode cX9_fairest 8 = .ok (.istore_n 2, 1) := by decide +kernel
theorem dX9_fairest_9 : decode cX9_fairest 9 = .ok (.iload_n 2, 1) := by decide +kernel
theorem dX9_fairest_10 : decode cX9_fairest 10 = .ok (.bipush 100, 2) := by decide +kernel
theorem dX9_fairest_12 : decode cX9_fairest 12 = .ok (.if_icmp .ge 28, 3) := by decide +kernel
theorem dX9_fairest_15 : decode cX9_fairest 15 = .ok (.aload_n 0, 1) := by decide +kernel
theorem dX9_fairest_16 : decode cX9_fairest 16 = .ok (.iload_n 2, 1) := by decide +kernel
theorem dX9_fairest_17 : decode cX9_fairest 17 = .ok (.invokevirtual 251, 3) := by decide +kernel
theorem dX9_fairest_20 : decode cX9_fairest 20 = .ok (.aload_n 0, 1) := by decide +kernel
theorem dX9_fairest_21 : decode cX9_fairest 21 = .ok (.iload_n 1, 1) := by decide +kernel
theorem dX9_fairest_22 : decode cX9_fairest 22 = .ok (.invokevirtual 251, 3) := by decide +kernel
theorem dX9_fairest_25 : decode cX9_fairest 25 = .ok (.if_icmp .ge 7, 3) := by decide +kernel
theorem dX9_fairest_28 : decode cX9_fairest 28 = .ok (.iload_n 2, 1) := by decide +kernel
theorem dX9_fairest_29 : decode cX9_fairest 29 = .ok (.goto 4, 3) := by decide +kernel
theorem dX9_fairest_32 : decode cX9_fairest 32 = .ok (.iload_n 1, 1) := by decide +kernel
theorem dX9_fairest_33 : decode cX9_fairest 33 = .ok (.istore_n 1, 1) := by decide +kernel
theorem dX9_fairest_34 : decode cX9_fairest 34 = .ok (.iinc 2 1, 3) := by decide +kernel
theorem dX9_fairest_37 : decode cX9_fairest 37 = .ok (.goto (-28), 3) := by decide +kernel
theorem dX9_fairest_40 : decode cX9_fairest 40 = .ok (.iload_n 1, 1) := by decide +kernel
theorem dX9_fairest_41 : decode cX9_fairest 41 = .ok (.ireturn, 1) := by decide +kernel
theorem dX9_cut_0 : decode cX9_cut 0 = .ok (.aload_n 0, 1) := by decide +kernel
theorem dX9_cut_1 : decode cX9_cut 1 = .ok (.iconst 0, 1) := by decide +kernel
theorem dX9_cut_2 : decode cX9_cut 2 = .ok (.putfield 117, 3) := by decide +kernel
theorem dX9_cut_5 : decode cX9_cut 5 = .ok (.iload_n 1, 1) := by decide +kernel
theorem dX9_cut_6 : decode cX9_cut 6 = .ok (.i2l, 1) := by decide +kernel
theorem dX9_cut_7 : decode cX9_cut 7 = .ok (.lconst 1, 1) := by decide +kernel
theorem dX9_cut_8 : decode cX9_cut 8 = .ok (.ldc2_w 216, 3) := by decide +kernel
theorem dX9_cut_11 : decode cX9_cut 11 = .ok (.invokestatic 123, 3) := by decide +kernel
theorem dX9_cut_14 : decode cX9_cut 14 = .ok (.ifCond .eq 21, 3) := by decide +kernel
theorem dX9_cut_17 : decode cX9_cut 17 = .ok (.iload_n 2, 1) := by decide +kernel
theorem dX9_cut_18 : decode cX9_cut 18 = .ok (.i2l, 1) := by decide +kernel
theorem dX9_cut_19 : decode cX9_cut 19 = .ok (.lconst 0, 1) := by decide +kernel
theorem dX9_cut_20 : decode cX9_cut 20 = .ok (.iconst 1, 1) := by decide +kernel
theorem dX9_cut_21 : decode cX9_cut 21 = .ok (.aload_n 0, 1) := by decide +kernel
theorem dX9_cut_22 : decode cX9_cut 22 = .ok (.getfield 120, 3) := by decide +kernel
theorem dX9_cut_25 : decode cX9_cut 25 = .ok (.ishl, 1) := by decide +kernel
theorem dX9_cut_26 : decode cX9_cut 26 = .ok (.iconst 1, 1) := by decide +kernel
theorem dX9_cut_27 : decode cX9_cut 27 = .ok (.isub, 1) := by decide +kernel
theorem dX9_cut_28 : decode cX9_cut 28 = .ok (.i2l, 1) := by decide +kernel
theorem dX9_cut_29 : decode cX9_cut 29 = .ok (.invokestatic 123, 3) := by decide +kernel
theorem dX9_cut_32 : decode cX9_cut 32 = .ok (.ifCond .ne 6, 3) := by decide +kernel
theorem dX9_cut_35 : decode cX9_cut 35 = .ok (.bipush (-2), 2) := by decide +kernel
theorem dX9_cut_37 : decode cX9_cut 37 = .ok (.ireturn, 1) := by decide +kernel
theorem dX9_cut_38 : decode cX9_cut 38 = .ok (.iconst 0, 1) := by decide +kernel
theorem dX9_cut_39 : decode cX9_cut 39 = .ok (.istore 4, 2) := by decide +kernel
theorem dX9_cut_41 : decode cX9_cut 41 = .ok (.iconst 0, 1) := by decide +kernel
theorem dX9_cut_42 : decode cX9_cut 42 = .ok (.istore 5, 2) := by decide +kernel
theorem dX9_cut_44 : decode cX9_cut 44 = .ok (.iload 5, 2) := by decide +kernel
theorem dX9_cut_46 : decode cX9_cut 46 = .ok (.iload_n 1, 1) := by decide +kernel
theorem dX9_cut_47 : decode cX9_cut 47 = .ok (.if_icmp .gt 160, 3) := by decide +kernel
theorem dX9_cut_50 : decode cX9_cut 50 = .ok (.aload_n 0, 1) := by decide +kernel
theorem dX9_cut_51 : decode cX9_cut 51 = .ok (.getfield 114, 3) := by decide +kernel
theorem dX9_cut_54 : decode cX9_cut 54 = .ok (.iload 5, 2) := by decide +kernel
theorem dX9_cut_56 : decode cX9_cut 56 = .ok (.iload 5, 2) := by decide +kernel
theorem dX9_cut_58 : decode cX9_cut 58 = .ok (.ifCond .ne 7, 3) := by decide +kernel
theorem dX9_cut_61 : decode cX9_cut 61 = .ok (.iconst 0, 1) := by decide +kernel
theorem dX9_cut_62 : decode cX9_cut 62 = .ok (.goto 5, 3) := by decide +kernel
theorem dX9_cut_65 : decode cX9_cut 65 = .ok (.ldc 199, 2) := by decide +kernel
theorem dX9_cut_67 : decode cX9_cut 67 = .ok (.iastore, 1) := by decide +kernel
theorem dX9_cut_68 : decode cX9_cut 68 = .ok (.iconst 0, 1) := by decide +kernel
theorem dX9_cut_69 : decode cX9_cut 69 = .ok (.istore 6, 2) := by decide +kernel
theorem dX9_cut_71 : decode cX9_cut 71 = .ok (.iload 6, 2) := by decide +kernel
theorem dX9_cut_73 : decode cX9_cut 73 = .ok (.aload_n 0, 1) := by decide +kernel
theorem dX9_cut_74 : decode cX9_cut 74 = .ok (.getfield 120, 3) := by decide +kernel
theorem dX9_cut_77 : decode cX9_cut 77 = .ok (.if_icmp .ge 103, 3) := by decide +kernel
theorem dX9_cut_80 : decode cX9_cut 80 = .ok (.iload_n 2, 1) := by decide +kernel
theorem dX9_cut_81 : decode cX9_cut 81 = .ok (.iload 6, 2) := by decide +kernel
theorem dX9_cut_83 : decode cX9_cut 83 = .ok (.invokestatic 200, 3) := by decide +kernel
theorem dX9_cut_86 : decode cX9_cut 86 = .ok (.ifCond .eq 46, 3) := by decide +kernel
theorem dX9_cut_89 : decode cX9_cut 89 = .ok (.iload 5, 2) := by decide +kernel
theorem dX9_cut_91 : decode cX9_cut 91 = .ok (.aload_n 0, 1) := by decide +kernel
theorem dX9_cut_92 : decode cX9_cut 92 = .ok (.getfield 13, 3) := by decide +kernel
theorem dX9_cut_95 : decode cX9_cut 95 = .ok (.iload 6, 2) := by decide +kernel
theorem dX9_cut_97 : decode cX9_cut 97 = .ok (.iaload, 1) := by decide +kernel
theorem dX9_cut_98 : decode cX9_cut 98 = .ok (.if_icmp .lt 34, 3) := by decide +kernel
theorem dX9_cut_101 : decode cX9_cut 101 = .ok (.aload_n 0, 1) := by decide +kernel
theorem dX9_cut_102 : decode cX9_cut 102 = .ok (.getfield 114, 3) := by decide +kernel
theorem dX9_cut_105 : decode cX9_cut 105 = .ok (.iload 5, 2) := by decide +kernel
theorem dX9_cut_107 : decode cX9_cut 107 = .ok (.aload_n 0, 1) := by decide +kernel
theorem dX9_cut_108 : decode cX9_cut 108 = .ok (.getfield 13, 3) := by decide +kernel
theorem dX9_cut_111 : decode cX9_cut 111 = .ok (.iload 6, 2) := by decide +kernel
theorem dX9_cut_113 : decode cX9_cut 113 = .ok (.iaload, 1) := by decide +kernel
theorem dX9_cut_114 : decode cX9_cut 114 = .ok (.isub, 1) := by decide +kernel
theorem dX9_cut_115 : decode cX9_cut 115 = .ok (.iaload, 1) := by decide +kernel
theorem dX9_cut_116 : decode cX9_cut 116 = .ok (.iconst 1, 1) := by decide +kernel
theorem dX9_cut_117 : decode cX9_cut 117 = .ok (.iadd, 1) := by decide +kernel
theorem dX9_cut_118 : decode cX9_cut 118 = .ok (.aload_n 0, 1) := by decide +kernel
theorem dX9_cut_119 : decode cX9_cut 119 = .ok (.getfield 114, 3) := by decide +kernel
theorem dX9_cut_122 : decode cX9_cut 122 = .ok (.iload 5, 2) := by decide +kernel
theorem dX9_cut_124 : decode cX9_cut 124 = .ok (.iaload, 1) := by decide +kernel
theorem dX9_cut_125 : decode cX9_cut 125 = .ok (.if_icmp .ge 7, 3) := by decide +kernel
theorem dX9_cut_128 : decode cX9_cut 128 = .ok (.iconst 1, 1) := by decide +kernel
theorem dX9_cut_129 : decode cX9_cut 129 = .ok (.goto 4, 3) := by decide +kernel
theorem dX9_cut_132 : decode cX9_cut 132 = .ok (.iconst 0, 1) := by decide +kernel
theorem dX9_cut_133 : decode cX9_cut 133 = .ok (.istore 7, 2) := by decide +kernel
theorem dX9_cut_135 : decode cX9_cut 135 = .ok (.aload_n 0, 1) := by decide +kernel
theorem dX9_cut_136 : decode cX9_cut 136 = .ok (.getfield 114, 3) := by decide +kernel
theorem dX9_cut_139 : decode cX9_cut 139 = .ok (.iload 5, 2) := by decide +kernel
theorem dX9_cut_141 : decode cX9_cut 141 = .ok (.iload 7, 2) := by decide +kernel
theorem dX9_cut_143 : decode cX9_cut 143 = .ok (.ifCond .eq 23, 3) := by decide +kernel
theorem dX9_cut_146 : decode cX9_cut 146 = .ok (.aload_n 0, 1) := by decide +kernel
theorem dX9_cut_147 : decode cX9_cut 147 = .ok (.getfield 114, 3) := by decide +kernel
theorem dX9_cut_150 : decode cX9_cut 150 = .ok (.iload 5, 2) := by decide +kernel
theorem dX9_cut_152 : decode cX9_cut 152 = .ok (.aload_n 0, 1) := by decide +kernel
theorem dX9_cut_153 : decode cX9_cut 153 = .ok (.getfield 13, 3) := by decide +kernel
theorem dX9_cut_156 : decode cX9_cut 156 = .ok (.iload 6, 2) := by decide +kernel
theorem dX9_cut_158 : decode cX9_cut 158 = .ok (.iaload, 1) := by decide +kernel
theorem dX9_cut_159 : decode cX9_cut 159 = .ok (.isub, 1) := by decide +kernel
theorem dX9_cut_160 : decode cX9_cut 160 = .ok (.iaload, 1) := by decide +kernel
theorem dX9_cut_161 : decode cX9_cut 161 = .ok (.iconst 1, 1) := by decide +kernel
theorem dX9_cut_162 : decode cX9_cut 162 = .ok (.iadd, 1) := by decide +kernel
theorem dX9_cut_163 : decode cX9_cut 163 = .ok (.goto 10, 3) := by decide +kernel
theorem dX9_cut_166 : decode cX9_cut 166 = .ok (.aload_n 0, 1) := by decide +kernel
theorem dX9_cut_167 : decode cX9_cut 167 = .ok (.getfield 114, 3) := by decide +kernel
theorem dX9_cut_170 : decode cX9_cut 170 = .ok (.iload 5, 2) := by decide +kernel
theorem dX9_cut_172 : decode cX9_cut 172 = .ok (.iaload, 1) := by decide +kernel
theorem dX9_cut_173 : decode cX9_cut 173 = .ok (.iastore, 1) := by decide +kernel
theorem dX9_cut_174 : decode cX9_cut 174 = .ok (.iinc 6 1, 3) := by decide +kernel
theorem dX9_cut_177 : decode cX9_cut 177 = .ok (.goto (-106), 3) := by decide +kernel
theorem dX9_cut_180 : decode cX9_cut 180 = .ok (.aload_n 0, 1) := by decide +kernel
theorem dX9_cut_181 : decode cX9_cut 181 = .ok (.getfield 114, 3) := by decide +kernel
theorem dX9_cut_184 : decode cX9_cut 184 = .ok (.iload 5, 2) := by decide +kernel
theorem dX9_cut_186 : decode cX9_cut 186 = .ok (.iaload, 1) := by decide +kernel
theorem dX9_cut_187 : decode cX9_cut 187 = .ok (.ldc 199, 2) := by decide +kernel
theorem dX9_cut_189 : decode cX9_cut 189 = .ok (.if_icmp .ge 8, 3) := by decide +kernel
theorem dX9_cut_192 : decode cX9_cut 192 = .ok (.iload 5, 2) := by decide +kernel
theorem dX9_cut_194 : decode cX9_cut 194 = .ok (.goto 5, 3) := by decide +kernel
theorem dX9_cut_197 : decode cX9_cut 197 = .ok (.iload 4, 2) := by decide +kernel
theorem dX9_cut_199 : decode cX9_cut 199 = .ok (.istore 4, 2) := by decide +kernel
theorem dX9_cut_201 : decode cX9_cut 201 = .ok (.iinc 5 1, 3) := by decide +kernel
theorem dX9_cut_204 : decode cX9_cut 204 = .ok (.goto (-160), 3) := by decide +kernel
theorem dX9_cut_207 : decode cX9_cut 207 = .ok (.iload_n 3, 1) := by decide +kernel
theorem dX9_cut_208 : decode cX9_cut 208 = .ok (.ifCond .eq 13, 3) := by decide +kernel
theorem dX9_cut_211 : decode cX9_cut 211 = .ok (.aload_n 0, 1) := by decide +kernel
theorem dX9_cut_212 : decode cX9_cut 212 = .ok (.getfield 114, 3) := by decide +kernel
theorem dX9_cut_215 : decode cX9_cut 215 = .ok (.iload 4, 2) := by decide +kernel
theorem dX9_cut_217 : decode cX9_cut 217 = .ok (.iaload, 1) := by decide +kernel
theorem dX9_cut_218 : decode cX9_cut 218 = .ok (.goto 7, 3) := by decide +kernel
theorem dX9_cut_221 : decode cX9_cut 221 = .ok (.iload_n 1, 1) := by decide +kernel
theorem dX9_cut_222 : decode cX9_cut 222 = .ok (.iload 4, 2) := by decide +kernel
theorem dX9_cut_224 : decode cX9_cut 224 = .ok (.isub, 1) := by decide +kernel
theorem dX9_cut_225 : decode cX9_cut 225 = .ok (.ireturn, 1) := by decide +kernel
theorem dX9_when_0 : decode cX9_when 0 = .ok (.aload_n 0, 1) := by decide +kernel
theorem dX9_when_1 : decode cX9_when 1 = .ok (.iconst 0, 1) := by decide +kernel
theorem dX9_when_2 : decode cX9_when 2 = .ok (.putfield 117, 3) := by decide +kernel
theorem dX9_when_5 : decode cX9_when 5 = .ok (.aload_n 0, 1) := by decide +kernel
theorem dX9_when_6 : decode cX9_when 6 = .ok (.iload_n 1, 1) := by decide +kernel
theorem dX9_when_7 : decode cX9_when 7 = .ok (.invokevirtual 180, 3) := by decide +kernel
theorem dX9_when_10 : decode cX9_when 10 = .ok (.ifCond .ne 11, 3) := by decide +kernel
theorem dX9_when_13 : decode cX9_when 13 = .ok (.aload_n 0, 1) := by decide +kernel
theorem dX9_when_14 : decode cX9_when 14 = .ok (.iload_n 2, 1) := by decide +kernel
theorem dX9_when_15 : decode cX9_when 15 = .ok (.invokevirtual 187, 3) := by decide +kernel
theorem dX9_when_18 : decode cX9_when 18 = .ok (.ifCond .eq 5, 3) := by decide +kernel
theorem dX9_when_21 : decode cX9_when 21 = .ok (.iconst (-1), 1) := by decide +kernel
theorem dX9_when_22 : decode cX9_when 22 = .ok (.ireturn, 1) := by decide +kernel
theorem dX9_when_23 : decode cX9_when 23 = .ok (.iload_n 3, 1) := by decide +kernel
theorem dX9_when_24 : decode cX9_when 24 = .ok (.i2l, 1) := by decide +kernel
theorem dX9_when_25 : decode cX9_when 25 = .ok (.lconst 0, 1) := by decide +kernel
theorem dX9_when_26 : decode cX9_when 26 = .ok (.ldc2_w 138, 3) := by decide +kernel
theorem dX9_when_29 : decode cX9_when 29 = .ok (.invokestatic 123, 3) := by decide +kernel
theorem dX9_when_32 : decode cX9_when 32 = .ok (.ifCond .eq 16, 3) := by decide +kernel
theorem dX9_when_35 : decode cX9_when 35 = .ok (.iload 4, 2) := by decide +kernel
theorem dX9_when_37 : decode cX9_when 37 = .ok (.i2l, 1) := by decide +kernel
theorem dX9_when_38 : decode cX9_when 38 = .ok (.lconst 0, 1) := by decide +kernel
theorem dX9_when_39 : decode cX9_when 39 = .ok (.ldc2_w 138, 3) := by decide +kernel
theorem dX9_when_42 : decode cX9_when 42 = .ok (.invokestatic 123, 3) := by decide +kernel
theorem dX9_when_45 : decode cX9_when 45 = .ok (.ifCond .ne 6, 3) := by decide +kernel
theorem dX9_when_48 : decode cX9_when 48 = .ok (.bipush (-2), 2) := by decide +kernel
theorem dX9_when_50 : decode cX9_when 50 = .ok (.ireturn, 1) := by decide +kernel
theorem dX9_when_51 : decode cX9_when 51 = .ok (.iconst 0, 1) := by decide +kernel
theorem dX9_when_52 : decode cX9_when 52 = .ok (.istore 5, 2) := by decide +kernel
theorem dX9_when_54 : decode cX9_when 54 = .ok (.aload_n 0, 1) := by decide +kernel
theorem dX9_when_55 : decode cX9_when 55 = .ok (.getfield 13, 3) := by decide +kernel
theorem dX9_when_58 : decode cX9_when 58 = .ok (.iload_n 1, 1) := by decide +kernel
theorem dX9_when_59 : decode cX9_when 59 = .ok (.iaload, 1) := by decide +kernel
theorem dX9_when_60 : decode cX9_when 60 = .ok (.istore 6, 2) := by decide +kernel
theorem dX9_when_62 : decode cX9_when 62 = .ok (.aload_n 0, 1) := by decide +kernel
theorem dX9_when_63 : decode cX9_when 63 = .ok (.getfield 19, 3) := by decide +kernel
theorem dX9_when_66 : decode cX9_when 66 = .ok (.iload_n 2, 1) := by decide +kernel
theorem dX9_when_67 : decode cX9_when 67 = .ok (.iaload, 1) := by decide +kernel
theorem dX9_when_68 : decode cX9_when 68 = .ok (.istore 7, 2) := by decide +kernel
theorem dX9_when_70 : decode cX9_when 70 = .ok (.iconst 1, 1) := by decide +kernel
theorem dX9_when_71 : decode cX9_when 71 = .ok (.istore 8, 2) := by decide +kernel
theorem dX9_when_73 : decode cX9_when 73 = .ok (.iload 8, 2) := by decide +kernel
theorem dX9_when_75 : decode cX9_when 75 = .ok (.bipush 31, 2) := by decide +kernel
theorem dX9_when_77 : decode cX9_when 77 = .ok (.if_icmp .ge 82, 3) := by decide +kernel
theorem dX9_when_80 : decode cX9_when 80 = .ok (.aload_n 0, 1) := by decide +kernel
theorem dX9_when_81 : decode cX9_when 81 = .ok (.getfield 13, 3) := by decide +kernel
theorem dX9_when_84 : decode cX9_when 84 = .ok (.iload_n 1, 1) := by decide +kernel
theorem dX9_when_85 : decode cX9_when 85 = .ok (.iaload, 1) := by decide +kernel
theorem dX9_when_86 : decode cX9_when 86 = .ok (.iload 8, 2) := by decide +kernel
theorem dX9_when_88 : decode cX9_when 88 = .ok (.iload_n 3, 1) := by decide +kernel
theorem dX9_when_89 : decode cX9_when 89 = .ok (.imul, 1) := by decide +kernel
theorem dX9_when_90 : decode cX9_when 90 = .ok (.iadd, 1) := by decide +kernel
theorem dX9_when_91 : decode cX9_when 91 = .ok (.bipush 99, 2) := by decide +kernel
theorem dX9_when_93 : decode cX9_when 93 = .ok (.if_icmp .ge 17, 3) := by decide +kernel
theorem dX9_when_96 : decode cX9_when 96 = .ok (.aload_n 0, 1) := by decide +kernel
theorem dX9_when_97 : decode cX9_when 97 = .ok (.getfield 13, 3) := by decide +kernel
theorem dX9_when_100 : decode cX9_when 100 = .ok (.iload_n 1, 1) := by decide +kernel
theorem dX9_when_101 : decode cX9_when 101 = .ok (.iaload, 1) := by decide +kernel
theorem dX9_when_102 : decode cX9_when 102 = .ok (.iload 8, 2) := by decide +kernel
theorem dX9_when_104 : decode cX9_when 104 = .ok (.iload_n 3, 1) := by decide +kernel
theorem dX9_when_105 : decode cX9_when 105 = .ok (.imul, 1) := by decide +kernel
theorem dX9_when_106 : decode cX9_when 106 = .ok (.iadd, 1) := by decide +kernel
theorem dX9_when_107 : decode cX9_when 107 = .ok (.goto 5, 3) := by decide +kernel
theorem dX9_when_110 : decode cX9_when 110 = .ok (.bipush 99, 2) := by decide +kernel
theorem dX9_when_112 : decode cX9_when 112 = .ok (.istore 9, 2) := by decide +kernel
theorem dX9_when_114 : decode cX9_when 114 = .ok (.aload_n 0, 1) := by decide +kernel
theorem dX9_when_115 : decode cX9_when 115 = .ok (.getfield 19, 3) := by decide +kernel
theorem dX9_when_118 : decode cX9_when 118 = .ok (.iload_n 2, 1) := by decide +kernel
theorem dX9_when_119 : decode cX9_when 119 = .ok (.iaload, 1) := by decide +kernel
theorem dX9_when_120 : decode cX9_when 120 = .ok (.iload 8, 2) := by decide +kernel
theorem dX9_when_122 : decode cX9_when 122 = .ok (.iload 4, 2) := by decide +kernel
theorem dX9_when_124 : decode cX9_when 124 = .ok (.imul, 1) := by decide +kernel
theorem dX9_when_125 : decode cX9_when 125 = .ok (.iadd, 1) := by decide +kernel
theorem dX9_when_126 : decode cX9_when 126 = .ok (.istore 10, 2) := by decide +kernel
theorem dX9_when_128 : decode cX9_when 128 = .ok (.iload 9, 2) := by decide +kernel
theorem dX9_when_130 : decode cX9_when 130 = .ok (.iload 7, 2) := by decide +kernel
theorem dX9_when_132 : decode cX9_when 132 = .ok (.imul, 1) := by decide +kernel
theorem dX9_when_133 : decode cX9_when 133 = .ok (.iload 6, 2) := by decide +kernel
theorem dX9_when_135 : decode cX9_when 135 = .ok (.iload 10, 2) := by decide +kernel
theorem dX9_when_137 : decode cX9_when 137 = .ok (.imul, 1) := by decide +kernel
theorem dX9_when_138 : decode cX9_when 138 = .ok (.if_icmp .le 15, 3) := by decide +kernel
theorem dX9_when_141 : decode cX9_when 141 = .ok (.iload 8, 2) := by decide +kernel
theorem dX9_when_143 : decode cX9_when 143 = .ok (.istore 5, 2) := by decide +kernel
theorem dX9_when_145 : decode cX9_when 145 = .ok (.iload 9, 2) := by decide +kernel
theorem dX9_when_147 : decode cX9_when 147 = .ok (.istore 6, 2) := by decide +kernel
theorem dX9_when_149 : decode cX9_when 149 = .ok (.iload 10, 2) := by decide +kernel
theorem dX9_when_151 : decode cX9_when 151 = .ok (.istore 7, 2) := by decide +kernel
theorem dX9_when_153 : decode cX9_when 153 = .ok (.iinc 8 1, 3) := by decide +kernel
theorem dX9_when_156 : decode cX9_when 156 = .ok (.goto (-83), 3) := by decide +kernel
theorem dX9_when_159 : decode cX9_when 159 = .ok (.iload 5, 2) := by decide +kernel
theorem dX9_when_161 : decode cX9_when 161 = .ok (.ireturn, 1) := by decide +kernel
theorem dX9_held_0 : decode cX9_held 0 = .ok (.aload_n 0, 1) := by decide +kernel
theorem dX9_held_1 : decode cX9_held 1 = .ok (.iconst 0, 1) := by decide +kernel
theorem dX9_held_2 : decode cX9_held 2 = .ok (.putfield 117, 3) := by decide +kernel
theorem dX9_held_5 : decode cX9_held 5 = .ok (.iload_n 1, 1) := by decide +kernel
theorem dX9_held_6 : decode cX9_held 6 = .ok (.i2l, 1) := by decide +kernel
theorem dX9_held_7 : decode cX9_held 7 = .ok (.lconst 0, 1) := by decide +kernel
theorem dX9_held_8 : decode cX9_held 8 = .ok (.ldc2_w 222, 3) := by decide +kernel
theorem dX9_held_11 : decode cX9_held 11 = .ok (.invokestatic 123, 3) := by decide +kernel
theorem dX9_held_14 : decode cX9_held 14 = .ok (.ifCond .eq 15, 3) := by decide +kernel
theorem dX9_held_17 : decode cX9_held 17 = .ok (.iload_n 3, 1) := by decide +kernel
theorem dX9_held_18 : decode cX9_held 18 = .ok (.i2l, 1) := by decide +kernel
theorem dX9_held_19 : decode cX9_held 19 = .ok (.lconst 0, 1) := by decide +kernel
theorem dX9_held_20 : decode cX9_held 20 = .ok (.ldc2_w 222, 3) := by decide +kernel
theorem dX9_held_23 : decode cX9_held 23 = .ok (.invokestatic 123, 3) := by decide +kernel
theorem dX9_held_26 : decode cX9_held 26 = .ok (.ifCond .ne 5, 3) := by decide +kernel
theorem dX9_held_29 : decode cX9_held 29 = .ok (.iconst (-1), 1) := by decide +kernel
theorem dX9_held_30 : decode cX9_held 30 = .ok (.ireturn, 1) := by decide +kernel
theorem dX9_held_31 : decode cX9_held 31 = .ok (.iload_n 1, 1) := by decide +kernel
theorem dX9_held_32 : decode cX9_held 32 = .ok (.iload_n 3, 1) := by decide +kernel
theorem dX9_held_33 : decode cX9_held 33 = .ok (.if_icmp .eq 41, 3) := by decide +kernel
theorem dX9_held_36 : decode cX9_held 36 = .ok (.iload_n 2, 1) := by decide +kernel
theorem dX9_held_37 : decode cX9_held 37 = .ok (.i2l, 1) := by decide +kernel
theorem dX9_held_38 : decode cX9_held 38 = .ok (.lconst 1, 1) := by decide +kernel
theorem dX9_held_39 : decode cX9_held 39 = .ok (.ldc2_w 138, 3) := by decide +kernel
theorem dX9_held_42 : decode cX9_held 42 = .ok (.invokestatic 123, 3) := by decide +kernel
theorem dX9_held_45 : decode cX9_held 45 = .ok (.ifCond .eq 29, 3) := by decide +kernel
theorem dX9_held_48 : decode cX9_held 48 = .ok (.iload 4, 2) := by decide +kernel
theorem dX9_held_50 : decode cX9_held 50 = .ok (.i2l, 1) := by decide +kernel
theorem dX9_held_51 : decode cX9_held 51 = .ok (.lconst 1, 1) := by decide +kernel
theorem dX9_held_52 : decode cX9_held 52 = .ok (.ldc2_w 138, 3) := by decide +kernel
theorem dX9_held_55 : decode cX9_held 55 = .ok (.invokestatic 123, 3) := by decide +kernel
theorem dX9_held_58 : decode cX9_held 58 = .ok (.ifCond .eq 16, 3) := by decide +kernel
theorem dX9_held_61 : decode cX9_held 61 = .ok (.iload 5, 2) := by decide +kernel
theorem dX9_held_63 : decode cX9_held 63 = .ok (.i2l, 1) := by decide +kernel
theorem dX9_held_64 : decode cX9_held 64 = .ok (.ldc2_w 240, 3) := by decide +kernel
theorem dX9_held_67 : decode cX9_held 67 = .ok (.lconst 1, 1) := by decide +kernel
theorem dX9_held_68 : decode cX9_held 68 = .ok (.invokestatic 123, 3) := by decide +kernel
theorem dX9_held_71 : decode cX9_held 71 = .ok (.ifCond .ne 6, 3) := by decide +kernel
theorem dX9_held_74 : decode cX9_held 74 = .ok (.bipush (-2), 2) := by decide +kernel
theorem dX9_held_76 : decode cX9_held 76 = .ok (.ireturn, 1) := by decide +kernel
theorem dX9_held_77 : decode cX9_held 77 = .ok (.aload_n 0, 1) := by decide +kernel
theorem dX9_held_78 : decode cX9_held 78 = .ok (.getfield 254, 3) := by decide +kernel
theorem dX9_held_81 : decode cX9_held 81 = .ok (.bipush 8, 2) := by decide +kernel
theorem dX9_held_83 : decode cX9_held 83 = .ok (.if_icmp .ne 6, 3) := by decide +kernel
theorem dX9_held_86 : decode cX9_held 86 = .ok (.bipush (-4), 2) := by decide +kernel
theorem dX9_held_88 : decode cX9_held 88 = .ok (.ireturn, 1) := by decide +kernel
theorem dX9_held_89 : decode cX9_held 89 = .ok (.aload_n 0, 1) := by decide +kernel
theorem dX9_held_90 : decode cX9_held 90 = .ok (.getfield 81, 3) := by decide +kernel
theorem dX9_held_93 : decode cX9_held 93 = .ok (.aload_n 0, 1) := by decide +kernel
theorem dX9_held_94 : decode cX9_held 94 = .ok (.getfield 254, 3) := by decide +kernel
theorem dX9_held_97 : decode cX9_held 97 = .ok (.iload_n 1, 1) := by decide +kernel
theorem dX9_held_98 : decode cX9_held 98 = .ok (.iastore, 1) := by decide +kernel
theorem dX9_held_99 : decode cX9_held 99 = .ok (.aload_n 0, 1) := by decide +kernel
theorem dX9_held_100 : decode cX9_held 100 = .ok (.getfield 84, 3) := by decide +kernel
theorem dX9_held_103 : decode cX9_held 103 = .ok (.aload_n 0, 1) := by decide +kernel
theorem dX9_held_104 : decode cX9_held 104 = .ok (.getfield 254, 3) := by decide +kernel
theorem dX9_held_107 : decode cX9_held 107 = .ok (.iload_n 2, 1) := by decide +kernel
theorem dX9_held_108 : decode cX9_held 108 = .ok (.iastore, 1) := by decide +kernel
theorem dX9_held_109 : decode cX9_held 109 = .ok (.aload_n 0, 1) := by decide +kernel
theorem dX9_held_110 : decode cX9_held 110 = .ok (.getfield 87, 3) := by decide +kernel
theorem dX9_held_113 : decode cX9_held 113 = .ok (.aload_n 0, 1) := by decide +kernel
theorem dX9_held_114 : decode cX9_held 114 = .ok (.getfield 254, 3) := by decide +kernel
theorem dX9_held_117 : decode cX9_held 117 = .ok (.iload_n 3, 1) := by decide +kernel
theorem dX9_held_118 : decode cX9_held 118 = .ok (.iastore, 1) := by decide +kernel
theorem dX9_held_119 : decode cX9_held 119 = .ok (.aload_n 0, 1) := by decide +kernel
theorem dX9_held_120 : decode cX9_held 120 = .ok (.getfield 90, 3) := by decide +kernel
theorem dX9_held_123 : decode cX9_held 123 = .ok (.aload_n 0, 1) := by decide +kernel
theorem dX9_held_124 : decode cX9_held 124 = .ok (.getfield 254, 3) := by decide +kernel
theorem dX9_held_127 : decode cX9_held 127 = .ok (.iload 4, 2) := by decide +kernel
theorem dX9_held_129 : decode cX9_held 129 = .ok (.iastore, 1) := by decide +kernel
theorem dX9_held_130 : decode cX9_held 130 = .ok (.aload_n 0, 1) := by decide +kernel
theorem dX9_held_131 : decode cX9_held 131 = .ok (.getfield 93, 3) := by decide +kernel
theorem dX9_held_134 : decode cX9_held 134 = .ok (.aload_n 0, 1) := by decide +kernel
theorem dX9_held_135 : decode cX9_held 135 = .ok (.getfield 254, 3) := by decide +kernel
theorem dX9_held_138 : decode cX9_held 138 = .ok (.iload 5, 2) := by decide +kernel
theorem dX9_held_140 : decode cX9_held 140 = .ok (.iastore, 1) := by decide +kernel
theorem dX9_held_141 : decode cX9_held 141 = .ok (.aload_n 0, 1) := by decide +kernel
theorem dX9_held_142 : decode cX9_held 142 = .ok (.dup, 1) := by decide +kernel
theorem dX9_held_143 : decode cX9_held 143 = .ok (.getfield 254, 3) := by decide +kernel
theorem dX9_held_146 : decode cX9_held 146 = .ok (.iconst 1, 1) := by decide +kernel
theorem dX9_held_147 : decode cX9_held 147 = .ok (.iadd, 1) := by decide +kernel
theorem dX9_held_148 : decode cX9_held 148 = .ok (.putfield 254, 3) := by decide +kernel
theorem dX9_held_151 : decode cX9_held 151 = .ok (.aload_n 0, 1) := by decide +kernel
theorem dX9_held_152 : decode cX9_held 152 = .ok (.getfield 254, 3) := by decide +kernel
theorem dX9_held_155 : decode cX9_held 155 = .ok (.ireturn, 1) := by decide +kernel
theorem dX9_unheld_0 : decode cX9_unheld 0 = .ok (.aload_n 0, 1) := by decide +kernel
theorem dX9_unheld_1 : decode cX9_unheld 1 = .ok (.iconst 0, 1) := by decide +kernel
theorem dX9_unheld_2 : decode cX9_unheld 2 = .ok (.putfield 117, 3) := by decide +kernel
theorem dX9_unheld_5 : decode cX9_unheld 5 = .ok (.aload_n 0, 1) := by decide +kernel
theorem dX9_unheld_6 : decode cX9_unheld 6 = .ok (.getfield 254, 3) := by decide +kernel
theorem dX9_unheld_9 : decode cX9_unheld 9 = .ok (.istore_n 1, 1) := by decide +kernel
theorem dX9_unheld_10 : decode cX9_unheld 10 = .ok (.aload_n 0, 1) := by decide +kernel
theorem dX9_unheld_11 : decode cX9_unheld 11 = .ok (.iconst 0, 1) := by decide +kernel
theorem dX9_unheld_12 : decode cX9_unheld 12 = .ok (.putfield 254, 3) := by decide +kernel
theorem dX9_unheld_15 : decode cX9_unheld 15 = .ok (.iload_n 1, 1) := by decide +kernel
theorem dX9_unheld_16 : decode cX9_unheld 16 = .ok (.ireturn, 1) := by decide +kernel
theorem dX9_armIn_0 : decode cX9_armIn 0 = .ok (.iconst 1, 1) := by decide +kernel
theorem dX9_armIn_1 : decode cX9_armIn 1 = .ok (.iload_n 1, 1) := by decide +kernel
theorem dX9_armIn_2 : decode cX9_armIn 2 = .ok (.ifCond .ne 11, 3) := by decide +kernel
theorem dX9_armIn_5 : decode cX9_armIn 5 = .ok (.iload_n 0, 1) := by decide +kernel
theorem dX9_armIn_6 : decode cX9_armIn 6 = .ok (.sipush 400, 3) := by decide +kernel
theorem dX9_armIn_9 : decode cX9_armIn 9 = .ok (.idiv, 1) := by decide +kernel
theorem dX9_armIn_10 : decode cX9_armIn 10 = .ok (.goto 22, 3) := by decide +kernel
theorem dX9_armIn_13 : decode cX9_armIn 13 = .ok (.iload_n 1, 1) := by decide +kernel
theorem dX9_armIn_14 : decode cX9_armIn 14 = .ok (.iconst 1, 1) := by decide +kernel
theorem dX9_armIn_15 : decode cX9_armIn 15 = .ok (.if_icmp .ne 13, 3) := by decide +kernel
theorem dX9_armIn_18 : decode cX9_armIn 18 = .ok (.iload_n 0, 1) := by decide +kernel
theorem dX9_armIn_19 : decode cX9_armIn 19 = .ok (.bipush 20, 2) := by decide +kernel
theorem dX9_armIn_21 : decode cX9_armIn 21 = .ok (.idiv, 1) := by decide +kernel
theorem dX9_armIn_22 : decode cX9_armIn 22 = .ok (.bipush 20, 2) := by decide +kernel
theorem dX9_armIn_24 : decode cX9_armIn 24 = .ok (.irem, 1) := by decide +kernel
theorem dX9_armIn_25 : decode cX9_armIn 25 = .ok (.goto 7, 3) := by decide +kernel
theorem dX9_armIn_28 : decode cX9_armIn 28 = .ok (.iload_n 0, 1) := by decide +kernel
theorem dX9_armIn_29 : decode cX9_armIn 29 = .ok (.bipush 20, 2) := by decide +kernel
theorem dX9_armIn_31 : decode cX9_armIn 31 = .ok (.irem, 1) := by decide +kernel
theorem dX9_armIn_32 : decode cX9_armIn 32 = .ok (.iadd, 1) := by decide +kernel
theorem dX9_armIn_33 : decode cX9_armIn 33 = .ok (.ireturn, 1) := by decide +kernel
theorem dX9_fits_0 : decode cX9_fits 0 = .ok (.iconst 1, 1) := by decide +kernel
theorem dX9_fits_1 : decode cX9_fits 1 = .ok (.istore_n 2, 1) := by decide +kernel
theorem dX9_fits_2 : decode cX9_fits 2 = .ok (.iconst 0, 1) := by decide +kernel
theorem dX9_fits_3 : decode cX9_fits 3 = .ok (.istore_n 3, 1) := by decide +kernel
theorem dX9_fits_4 : decode cX9_fits 4 = .ok (.iload_n 3, 1) := by decide +kernel
theorem dX9_fits_5 : decode cX9_fits 5 = .ok (.aload_n 0, 1) := by decide +kernel
theorem dX9_fits_6 : decode cX9_fits 6 = .ok (.getfield 254, 3) := by decide +kernel
theorem dX9_fits_9 : decode cX9_fits 9 = .ok (.if_icmp .ge 84, 3) := by decide +kernel
theorem dX9_fits_12 : decode cX9_fits 12 = .ok (.aload_n 0, 1) := by decide +kernel
theorem dX9_fits_13 : decode cX9_fits 13 = .ok (.getfield 84, 3) := by decide +kernel
theorem dX9_fits_16 : decode cX9_fits 16 = .ok (.iload_n 3, 1) := by decide +kernel
theorem dX9_fits_17 : decode cX9_fits 17 = .ok (.iaload, 1) := by decide +kernel
theorem dX9_fits_18 : decode cX9_fits 18 = .ok (.iload_n 1, 1) := by decide +kernel
theorem dX9_fits_19 : decode cX9_fits 19 = .ok (.aload_n 0, 1) := by decide +kernel
theorem dX9_fits_20 : decode cX9_fits 20 = .ok (.getfield 81, 3) := by decide +kernel
theorem dX9_fits_23 : decode cX9_fits 23 = .ok (.iload_n 3, 1) := by decide +kernel
theorem dX9_fits_24 : decode cX9_fits 24 = .ok (.iaload, 1) := by decide +kernel
theorem dX9_fits_25 : decode cX9_fits 25 = .ok (.invokestatic 257, 3) := by decide +kernel
theorem dX9_fits_28 : decode cX9_fits 28 = .ok (.imul, 1) := by decide +kernel
theorem dX9_fits_29 : decode cX9_fits 29 = .ok (.aload_n 0, 1) := by decide +kernel
theorem dX9_fits_30 : decode cX9_fits 30 = .ok (.getfield 90, 3) := by decide +kernel
theorem dX9_fits_33 : decode cX9_fits 33 = .ok (.iload_n 3, 1) := by decide +kernel
theorem dX9_fits_34 : decode cX9_fits 34 = .ok (.iaload, 1) := by decide +kernel
theorem dX9_fits_35 : decode cX9_fits 35 = .ok (.iload_n 1, 1) := by decide +kernel
theorem dX9_fits_36 : decode cX9_fits 36 = .ok (.aload_n 0, 1) := by decide +kernel
theorem dX9_fits_37 : decode cX9_fits 37 = .ok (.getfield 87, 3) := by decide +kernel
theorem dX9_fits_40 : decode cX9_fits 40 = .ok (.iload_n 3, 1) := by decide +kernel
theorem dX9_fits_41 : decode cX9_fits 41 = .ok (.iaload, 1) := by decide +kernel
theorem dX9_fits_42 : decode cX9_fits 42 = .ok (.invokestatic 257, 3) := by decide +kernel
theorem dX9_fits_45 : decode cX9_fits 45 = .ok (.imul, 1) := by decide +kernel
theorem dX9_fits_46 : decode cX9_fits 46 = .ok (.isub, 1) := by decide +kernel
theorem dX9_fits_47 : decode cX9_fits 47 = .ok (.istore 4, 2) := by decide +kernel
theorem dX9_fits_49 : decode cX9_fits 49 = .ok (.iload_n 2, 1) := by decide +kernel
theorem dX9_fits_50 : decode cX9_fits 50 = .ok (.ifCond .eq 35, 3) := by decide +kernel
theorem dX9_fits_53 : decode cX9_fits 53 = .ok (.iload 4, 2) := by decide +kernel
theorem dX9_fits_55 : decode cX9_fits 55 = .ok (.ifCond .le 7, 3) := by decide +kernel
theorem dX9_fits_58 : decode cX9_fits 58 = .ok (.iconst 1, 1) := by decide +kernel
theorem dX9_fits_59 : decode cX9_fits 59 = .ok (.goto 13, 3) := by decide +kernel
theorem dX9_fits_62 : decode cX9_fits 62 = .ok (.iload 4, 2) := by decide +kernel
theorem dX9_fits_64 : decode cX9_fits 64 = .ok (.ifCond .ge 7, 3) := by decide +kernel
theorem dX9_fits_67 : decode cX9_fits 67 = .ok (.iconst (-1), 1) := by decide +kernel
theorem dX9_fits_68 : decode cX9_fits 68 = .ok (.goto 4, 3) := by decide +kernel
theorem dX9_fits_71 : decode cX9_fits 71 = .ok (.iconst 0, 1) := by decide +kernel
theorem dX9_fits_72 : decode cX9_fits 72 = .ok (.aload_n 0, 1) := by decide +kernel
theorem dX9_fits_73 : decode cX9_fits 73 = .ok (.getfield 93, 3) := by decide +kernel
theorem dX9_fits_76 : decode cX9_fits 76 = .ok (.iload_n 3, 1) := by decide +kernel
theorem dX9_fits_77 : decode cX9_fits 77 = .ok (.iaload, 1) := by decide +kernel
theorem dX9_fits_78 : decode cX9_fits 78 = .ok (.if_icmp .ne 7, 3) := by decide +kernel
theorem dX9_fits_81 : decode cX9_fits 81 = .ok (.iconst 1, 1) := by decide +kernel
theorem dX9_fits_82 : decode cX9_fits 82 = .ok (.goto 4, 3) := by decide +kernel
theorem dX9_fits_85 : decode cX9_fits 85 = .ok (.iconst 0, 1) := by decide +kernel
theorem dX9_fits_86 : decode cX9_fits 86 = .ok (.istore_n 2, 1) := by decide +kernel
theorem dX9_fits_87 : decode cX9_fits 87 = .ok (.iinc 3 1, 3) := by decide +kernel
theorem dX9_fits_90 : decode cX9_fits 90 = .ok (.goto (-86), 3) := by decide +kernel
theorem dX9_fits_93 : decode cX9_fits 93 = .ok (.iload_n 2, 1) := by decide +kernel
theorem dX9_fits_94 : decode cX9_fits 94 = .ok (.ireturn, 1) := by decide +kernel
theorem dX9_layRows_0 : decode cX9_layRows 0 = .ok (.iconst 0, 1) := by decide +kernel
theorem dX9_layRows_1 : decode cX9_layRows 1 = .ok (.istore_n 2, 1) := by decide +kernel
theorem dX9_layRows_2 : decode cX9_layRows 2 = .ok (.aload_n 0, 1) := by decide +kernel
theorem dX9_layRows_3 : decode cX9_layRows 3 = .ok (.bipush 99, 2) := by decide +kernel
theorem dX9_layRows_5 : decode cX9_layRows 5 = .ok (.putfield 260, 3) := by decide +kernel
theorem dX9_layRows_8 : decode cX9_layRows 8 = .ok (.aload_n 0, 1) := by decide +kernel
theorem dX9_layRows_9 : decode cX9_layRows 9 = .ok (.iconst 0, 1) := by decide +kernel
theorem dX9_layRows_10 : decode cX9_layRows 10 = .ok (.putfield 263, 3) := by decide +kernel
theorem dX9_layRows_13 : decode cX9_layRows 13 = .ok (.iconst 0, 1) := by decide +kernel
theorem dX9_layRows_14 : decode cX9_layRows 14 = .ok (.istore_n 3, 1) := by decide +kernel
theorem dX9_layRows_15 : decode cX9_layRows 15 = .ok (.iload_n 3, 1) := by decide +kernel
theorem dX9_layRows_16 : decode cX9_layRows 16 = .ok (.sipush 8000, 3) := by decide +kernel
theorem dX9_layRows_19 : decode cX9_layRows 19 = .ok (.if_icmp .ge 71, 3) := by decide +kernel
theorem dX9_layRows_22 : decode cX9_layRows 22 = .ok (.aload_n 0, 1) := by decide +kernel
theorem dX9_layRows_23 : decode cX9_layRows 23 = .ok (.iload_n 3, 1) := by decide +kernel
theorem dX9_layRows_24 : decode cX9_layRows 24 = .ok (.invokevirtual 266, 3) := by decide +kernel
theorem dX9_layRows_27 : decode cX9_layRows 27 = .ok (.ifCond .eq 57, 3) := by decide +kernel
theorem dX9_layRows_30 : decode cX9_layRows 30 = .ok (.iload_n 3, 1) := by decide +kernel
theorem dX9_layRows_31 : decode cX9_layRows 31 = .ok (.iload_n 1, 1) := by decide +kernel
theorem dX9_layRows_32 : decode cX9_layRows 32 = .ok (.invokestatic 257, 3) := by decide +kernel
theorem dX9_layRows_35 : decode cX9_layRows 35 = .ok (.istore 4, 2) := by decide +kernel
theorem dX9_layRows_37 : decode cX9_layRows 37 = .ok (.iinc 2 1, 3) := by decide +kernel
theorem dX9_layRows_40 : decode cX9_layRows 40 = .ok (.aload_n 0, 1) := by decide +kernel
theorem dX9_layRows_41 : decode cX9_layRows 41 = .ok (.iload 4, 2) := by decide +kernel
theorem dX9_layRows_43 : decode cX9_layRows 43 = .ok (.aload_n 0, 1) := by decide +kernel
theorem dX9_layRows_44 : decode cX9_layRows 44 = .ok (.getfield 260, 3) := by decide +kernel
theorem dX9_layRows_47 : decode cX9_layRows 47 = .ok (.if_icmp .ge 8, 3) := by decide +kernel
theorem dX9_layRows_50 : decode cX9_layRows 50 = .ok (.iload 4, 2) := by decide +kernel
theorem dX9_layRows_52 : decode cX9_layRows 52 = .ok (.goto 7, 3) := by decide +kernel
theorem dX9_layRows_55 : decode cX9_layRows 55 = .ok (.aload_n 0, 1) := by decide +kernel
theorem dX9_layRows_56 : decode cX9_layRows 56 = .ok (.getfield 260, 3) := by decide +kernel
theorem dX9_layRows_59 : decode cX9_layRows 59 = .ok (.putfield 260, 3) := by decide +kernel
theorem dX9_layRows_62 : decode cX9_layRows 62 = .ok (.aload_n 0, 1) := by decide +kernel
theorem dX9_layRows_63 : decode cX9_layRows 63 = .ok (.iload 4, 2) := by decide +kernel
theorem dX9_layRows_65 : decode cX9_layRows 65 = .ok (.aload_n 0, 1) := by decide +kernel
theorem dX9_layRows_66 : decode cX9_layRows 66 = .ok (.getfield 263, 3) := by decide +kernel
theorem dX9_layRows_69 : decode cX9_layRows 69 = .ok (.if_icmp .le 8, 3) := by decide +kernel
theorem dX9_layRows_72 : decode cX9_layRows 72 = .ok (.iload 4, 2) := by decide +kernel
theorem dX9_layRows_74 : decode cX9_layRows 74 = .ok (.goto 7, 3) := by decide +kernel
theorem dX9_layRows_77 : decode cX9_layRows 77 = .ok (.aload_n 0, 1) := by decide +kernel
theorem dX9_layRows_78 : decode cX9_layRows 78 = .ok (.getfield 263, 3) := by decide +kernel
theorem dX9_layRows_81 : decode cX9_layRows 81 = .ok (.putfield 263, 3) := by decide +kernel
theorem dX9_layRows_84 : decode cX9_layRows 84 = .ok (.iinc 3 1, 3) := by decide +kernel
theorem dX9_layRows_87 : decode cX9_layRows 87 = .ok (.goto (-72), 3) := by decide +kernel
theorem dX9_layRows_90 : decode cX9_layRows 90 = .ok (.iload_n 2, 1) := by decide +kernel
theorem dX9_layRows_91 : decode cX9_layRows 91 = .ok (.ireturn, 1) := by decide +kernel
theorem dX9_mayBe_0 : decode cX9_mayBe 0 = .ok (.aload_n 0, 1) := by decide +kernel
theorem dX9_mayBe_1 : decode cX9_mayBe 1 = .ok (.iconst 0, 1) := by decide +kernel
theorem dX9_mayBe_2 : decode cX9_mayBe 2 = .ok (.putfield 117, 3) := by decide +kernel
theorem dX9_mayBe_5 : decode cX9_mayBe 5 = .ok (.aload_n 0, 1) := by decide +kernel
theorem dX9_mayBe_6 : decode cX9_mayBe 6 = .ok (.iconst 0, 1) := by decide +kernel
theorem dX9_mayBe_7 : decode cX9_mayBe 7 = .ok (.invokevirtual 269, 3) := by decide +kernel
theorem dX9_mayBe_10 : decode cX9_mayBe 10 = .ok (.ireturn, 1) := by decide +kernel
theorem dX9_arm_0 : decode cX9_arm 0 = .ok (.aload_n 0, 1) := by decide +kernel
theorem dX9_arm_1 : decode cX9_arm 1 = .ok (.iconst 0, 1) := by decide +kernel
theorem dX9_arm_2 : decode cX9_arm 2 = .ok (.putfield 117, 3) := by decide +kernel
theorem dX9_arm_5 : decode cX9_arm 5 = .ok (.iload_n 1, 1) := by decide +kernel
theorem dX9_arm_6 : decode cX9_arm 6 = .ok (.i2l, 1) := by decide +kernel
theorem dX9_arm_7 : decode cX9_arm 7 = .ok (.lconst 0, 1) := by decide +kernel
theorem dX9_arm_8 : decode cX9_arm 8 = .ok (.ldc2_w 222, 3) := by decide +kernel
theorem dX9_arm_11 : decode cX9_arm 11 = .ok (.invokestatic 123, 3) := by decide +kernel
theorem dX9_arm_14 : decode cX9_arm 14 = .ok (.ifCond .ne 5, 3) := by decide +kernel
theorem dX9_arm_17 : decode cX9_arm 17 = .ok (.iconst (-1), 1) := by decide +kernel
theorem dX9_arm_18 : decode cX9_arm 18 = .ok (.ireturn, 1) := by decide +kernel
theorem dX9_arm_19 : decode cX9_arm 19 = .ok (.aload_n 0, 1) := by decide +kernel
theorem dX9_arm_20 : decode cX9_arm 20 = .ok (.iload_n 1, 1) := by decide +kernel
theorem dX9_arm_21 : decode cX9_arm 21 = .ok (.invokevirtual 269, 3) := by decide +kernel
theorem dX9_arm_24 : decode cX9_arm 24 = .ok (.ifCond .ne 8, 3) := by decide +kernel
theorem dX9_arm_27 : decode cX9_arm 27 = .ok (.bipush (-9), 2) := by decide +kernel
theorem dX9_arm_29 : decode cX9_arm 29 = .ok (.goto 18, 3) := by decide +kernel
theorem dX9_arm_32 : decode cX9_arm 32 = .ok (.iload_n 2, 1) := by decide +kernel
theorem dX9_arm_33 : decode cX9_arm 33 = .ok (.ifCond .eq 10, 3) := by decide +kernel
theorem dX9_arm_36 : decode cX9_arm 36 = .ok (.aload_n 0, 1) := by decide +kernel
theorem dX9_arm_37 : decode cX9_arm 37 = .ok (.getfield 263, 3) := by decide +kernel
theorem dX9_arm_40 : decode cX9_arm 40 = .ok (.goto 7, 3) := by decide +kernel
theorem dX9_arm_43 : decode cX9_arm 43 = .ok (.aload_n 0, 1) := by decide +kernel
theorem dX9_arm_44 : decode cX9_arm 44 = .ok (.getfield 260, 3) := by decide +kernel
theorem dX9_arm_47 : decode cX9_arm 47 = .ok (.ireturn, 1) := by decide +kernel
theorem dX9_keep_0 : decode cX9_keep 0 = .ok (.aload_n 0, 1) := by decide +kernel
theorem dX9_keep_1 : decode cX9_keep 1 = .ok (.iconst 0, 1) := by decide +kernel
theorem dX9_keep_2 : decode cX9_keep 2 = .ok (.putfield 117, 3) := by decide +kernel
theorem dX9_keep_5 : decode cX9_keep 5 = .ok (.iload_n 1, 1) := by decide +kernel
theorem dX9_keep_6 : decode cX9_keep 6 = .ok (.i2l, 1) := by decide +kernel
theorem dX9_keep_7 : decode cX9_keep 7 = .ok (.lconst 0, 1) := by decide +kernel
theorem dX9_keep_8 : decode cX9_keep 8 = .ok (.lconst 1, 1) := by decide +kernel
theorem dX9_keep_9 : decode cX9_keep 9 = .ok (.invokestatic 123, 3) := by decide +kernel
theorem dX9_keep_12 : decode cX9_keep 12 = .ok (.ifCond .ne 5, 3) := by decide +kernel
theorem dX9_keep_15 : decode cX9_keep 15 = .ok (.iconst (-1), 1) := by decide +kernel
theorem dX9_keep_16 : decode cX9_keep 16 = .ok (.ireturn, 1) := by decide +kernel
theorem dX9_keep_17 : decode cX9_keep 17 = .ok (.aload_n 0, 1) := by decide +kernel
theorem dX9_keep_18 : decode cX9_keep 18 = .ok (.getfield 99, 3) := by decide +kernel
theorem dX9_keep_21 : decode cX9_keep 21 = .ok (.iload_n 1, 1) := by decide +kernel
theorem dX9_keep_22 : decode cX9_keep 22 = .ok (.iconst 1, 1) := by decide +kernel
theorem dX9_keep_23 : decode cX9_keep 23 = .ok (.bastore, 1) := by decide +kernel
theorem dX9_keep_24 : decode cX9_keep 24 = .ok (.iconst 0, 1) := by decide +kernel
theorem dX9_keep_25 : decode cX9_keep 25 = .ok (.istore_n 2, 1) := by decide +kernel
theorem dX9_keep_26 : decode cX9_keep 26 = .ok (.iload_n 2, 1) := by decide +kernel
theorem dX9_keep_27 : decode cX9_keep 27 = .ok (.bipush 6, 2) := by decide +kernel
theorem dX9_keep_29 : decode cX9_keep 29 = .ok (.if_icmp .ge 26, 3) := by decide +kernel
theorem dX9_keep_32 : decode cX9_keep 32 = .ok (.aload_n 0, 1) := by decide +kernel
theorem dX9_keep_33 : decode cX9_keep 33 = .ok (.getfield 96, 3) := by decide +kernel
theorem dX9_keep_36 : decode cX9_keep 36 = .ok (.bipush 60, 2) := by decide +kernel
theorem dX9_keep_38 : decode cX9_keep 38 = .ok (.iload_n 1, 1) := by decide +kernel
theorem dX9_keep_39 : decode cX9_keep 39 = .ok (.imul, 1) := by decide +kernel
theorem dX9_keep_40 : decode cX9_keep 40 = .ok (.iload_n 2, 1) := by decide +kernel
theorem dX9_keep_41 : decode cX9_keep 41 = .ok (.iadd, 1) := by decide +kernel
theorem dX9_keep_42 : decode cX9_keep 42 = .ok (.aload_n 0, 1) := by decide +kernel
theorem dX9_keep_43 : decode cX9_keep 43 = .ok (.getfield 13, 3) := by decide +kernel
theorem dX9_keep_46 : decode cX9_keep 46 = .ok (.iload_n 2, 1) := by decide +kernel
theorem dX9_keep_47 : decode cX9_keep 47 = .ok (.iaload, 1) := by decide +kernel
theorem dX9_keep_48 : decode cX9_keep 48 = .ok (.iastore, 1) := by decide +kernel
theorem dX9_keep_49 : decode cX9_keep 49 = .ok (.iinc 2 1, 3) := by decide +kernel
theorem dX9_keep_52 : decode cX9_keep 52 = .ok (.goto (-26), 3) := by decide +kernel
theorem dX9_keep_55 : decode cX9_keep 55 = .ok (.iconst 0, 1) := by decide +kernel
theorem dX9_keep_56 : decode cX9_keep 56 = .ok (.istore_n 2, 1) := by decide +kernel
theorem dX9_keep_57 : decode cX9_keep 57 = .ok (.iload_n 2, 1) := by decide +kernel
theorem dX9_keep_58 : decode cX9_keep 58 = .ok (.iconst 4, 1) := by decide +kernel
theorem dX9_keep_59 : decode cX9_keep 59 = .ok (.if_icmp .ge 29, 3) := by decide +kernel
theorem dX9_keep_62 : decode cX9_keep 62 = .ok (.aload_n 0, 1) := by decide +kernel
theorem dX9_keep_63 : decode cX9_keep 63 = .ok (.getfield 96, 3) := by decide +kernel
theorem dX9_keep_66 : decode cX9_keep 66 = .ok (.bipush 60, 2) := by decide +kernel
theorem dX9_keep_68 : decode cX9_keep 68 = .ok (.iload_n 1, 1) := by decide +kernel
theorem dX9_keep_69 : decode cX9_keep 69 = .ok (.imul, 1) := by decide +kernel
theorem dX9_keep_70 : decode cX9_keep 70 = .ok (.bipush 6, 2) := by decide +kernel
theorem dX9_keep_72 : decode cX9_keep 72 = .ok (.iadd, 1) := by decide +kernel
theorem dX9_keep_73 : decode cX9_keep 73 = .ok (.iload_n 2, 1) := by decide +kernel
theorem dX9_keep_74 : decode cX9_keep 74 = .ok (.iadd, 1) := by decide +kernel
theorem dX9_keep_75 : decode cX9_keep 75 = .ok (.aload_n 0, 1) := by decide +kernel
theorem dX9_keep_76 : decode cX9_keep 76 = .ok (.getfield 22, 3) := by decide +kernel
theorem dX9_keep_79 : decode cX9_keep 79 = .ok (.iload_n 2, 1) := by decide +kernel
theorem dX9_keep_80 : decode cX9_keep 80 = .ok (.iaload, 1) := by decide +kernel
theorem dX9_keep_81 : decode cX9_keep 81 = .ok (.iastore, 1) := by decide +kernel
theorem dX9_keep_82 : decode cX9_keep 82 = .ok (.iinc 2 1, 3) := by decide +kernel
theorem dX9_keep_85 : decode cX9_keep 85 = .ok (.goto (-28), 3) := by decide +kernel
theorem dX9_keep_88 : decode cX9_keep 88 = .ok (.iconst 0, 1) := by decide +kernel
theorem dX9_keep_89 : decode cX9_keep 89 = .ok (.istore_n 2, 1) := by decide +kernel
theorem dX9_keep_90 : decode cX9_keep 90 = .ok (.iload_n 2, 1) := by decide +kernel
theorem dX9_keep_91 : decode cX9_keep 91 = .ok (.bipush 12, 2) := by decide +kernel
theorem dX9_keep_93 : decode cX9_keep 93 = .ok (.if_icmp .ge 79, 3) := by decide +kernel
theorem dX9_keep_96 : decode cX9_keep 96 = .ok (.aload_n 0, 1) := by decide +kernel
theorem dX9_keep_97 : decode cX9_keep 97 = .ok (.getfield 96, 3) := by decide +kernel
theorem dX9_keep_100 : decode cX9_keep 100 = .ok (.bipush 60, 2) := by decide +kernel
theorem dX9_keep_102 : decode cX9_keep 102 = .ok (.iload_n 1, 1) := by decide +kernel
theorem dX9_keep_103 : decode cX9_keep 103 = .ok (.imul, 1) := by decide +kernel
theorem dX9_keep_104 : decode cX9_keep 104 = .ok (.bipush 10, 2) := by decide +kernel
theorem dX9_keep_106 : decode cX9_keep 106 = .ok (.iadd, 1) := by decide +kernel
theorem dX9_keep_107 : decode cX9_keep 107 = .ok (.iload_n 2, 1) := by decide +kernel
theorem dX9_keep_108 : decode cX9_keep 108 = .ok (.iadd, 1) := by decide +kernel
theorem dX9_keep_109 : decode cX9_keep 109 = .ok (.bipush 10, 2) := by decide +kernel
theorem dX9_keep_111 : decode cX9_keep 111 = .ok (.aload_n 0, 1) := by decide +kernel
theorem dX9_keep_112 : decode cX9_keep 112 = .ok (.getfield 54, 3) := by decide +kernel
theorem dX9_keep_115 : decode cX9_keep 115 = .ok (.iload_n 2, 1) := by decide +kernel
theorem dX9_keep_116 : decode cX9_keep 116 = .ok (.iaload, 1) := by decide +kernel
theorem dX9_keep_117 : decode cX9_keep 117 = .ok (.imul, 1) := by decide +kernel
theorem dX9_keep_118 : decode cX9_keep 118 = .ok (.aload_n 0, 1) := by decide +kernel
theorem dX9_keep_119 : decode cX9_keep 119 = .ok (.getfield 57, 3) := by decide +kernel
theorem dX9_keep_122 : decode cX9_keep 122 = .ok (.iload_n 2, 1) := by decide +kernel
