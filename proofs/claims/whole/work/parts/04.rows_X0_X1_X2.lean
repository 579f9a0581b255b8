theorem dX0_init_0 : decode cX0_init 0 = .ok (.aload_n 0, 1) := by decide +kernel
theorem dX0_init_1 : decode cX0_init 1 = .ok (.invokespecial 3, 3) := by decide +kernel
theorem dX0_init_4 : decode cX0_init 4 = .ok (.aload_n 0, 1) := by decide +kernel
theorem dX0_init_5 : decode cX0_init 5 = .ok (.bipush 8, 2) := by decide +kernel
theorem dX0_init_7 : decode cX0_init 7 = .ok (.newarray .int, 2) := by decide +kernel
theorem dX0_init_9 : decode cX0_init 9 = .ok (.putfield 9, 3) := by decide +kernel
theorem dX0_init_12 : decode cX0_init 12 = .ok (.aload_n 0, 1) := by decide +kernel
theorem dX0_init_13 : decode cX0_init 13 = .ok (.bipush 8, 2) := by decide +kernel
theorem dX0_init_15 : decode cX0_init 15 = .ok (.newarray .int, 2) := by decide +kernel
theorem dX0_init_17 : decode cX0_init 17 = .ok (.putfield 15, 3) := by decide +kernel
theorem dX0_init_20 : decode cX0_init 20 = .ok (.aload_n 0, 1) := by decide +kernel
theorem dX0_init_21 : decode cX0_init 21 = .ok (.bipush 8, 2) := by decide +kernel
theorem dX0_init_23 : decode cX0_init 23 = .ok (.newarray .int, 2) := by decide +kernel
theorem dX0_init_25 : decode cX0_init 25 = .ok (.putfield 18, 3) := by decide +kernel
theorem dX0_init_28 : decode cX0_init 28 = .ok (.aload_n 0, 1) := by decide +kernel
theorem dX0_init_29 : decode cX0_init 29 = .ok (.bipush 8, 2) := by decide +kernel
theorem dX0_init_31 : decode cX0_init 31 = .ok (.newarray .int, 2) := by decide +kernel
theorem dX0_init_33 : decode cX0_init 33 = .ok (.putfield 21, 3) := by decide +kernel
theorem dX0_init_36 : decode cX0_init 36 = .ok (.aload_n 0, 1) := by decide +kernel
theorem dX0_init_37 : decode cX0_init 37 = .ok (.bipush 8, 2) := by decide +kernel
theorem dX0_init_39 : decode cX0_init 39 = .ok (.newarray .int, 2) := by decide +kernel
theorem dX0_init_41 : decode cX0_init 41 = .ok (.putfield 24, 3) := by decide +kernel
theorem dX0_init_44 : decode cX0_init 44 = .ok (.aload_n 0, 1) := by decide +kernel
theorem dX0_init_45 : decode cX0_init 45 = .ok (.iconst 3, 1) := by decide +kernel
theorem dX0_init_46 : decode cX0_init 46 = .ok (.newarray .int, 2) := by decide +kernel
theorem dX0_init_48 : decode cX0_init 48 = .ok (.putfield 27, 3) := by decide +kernel
theorem dX0_init_51 : decode cX0_init 51 = .ok (.return_, 1) := by decide +kernel
theorem dX0_add_0 : decode cX0_add 0 = .ok (.aload_n 0, 1) := by decide +kernel
theorem dX0_add_1 : decode cX0_add 1 = .ok (.getfield 9, 3) := by decide +kernel
theorem dX0_add_4 : decode cX0_add 4 = .ok (.aload_n 0, 1) := by decide +kernel
theorem dX0_add_5 : decode cX0_add 5 = .ok (.getfield 30, 3) := by decide +kernel
theorem dX0_add_8 : decode cX0_add 8 = .ok (.iload_n 1, 1) := by decide +kernel
theorem dX0_add_9 : decode cX0_add 9 = .ok (.iastore, 1) := by decide +kernel
theorem dX0_add_10 : decode cX0_add 10 = .ok (.aload_n 0, 1) := by decide +kernel
theorem dX0_add_11 : decode cX0_add 11 = .ok (.getfield 15, 3) := by decide +kernel
theorem dX0_add_14 : decode cX0_add 14 = .ok (.aload_n 0, 1) := by decide +kernel
theorem dX0_add_15 : decode cX0_add 15 = .ok (.getfield 30, 3) := by decide +kernel
theorem dX0_add_18 : decode cX0_add 18 = .ok (.iload_n 2, 1) := by decide +kernel
theorem dX0_add_19 : decode cX0_add 19 = .ok (.iastore, 1) := by decide +kernel
theorem dX0_add_20 : decode cX0_add 20 = .ok (.aload_n 0, 1) := by decide +kernel
theorem dX0_add_21 : decode cX0_add 21 = .ok (.getfield 18, 3) := by decide +kernel
theorem dX0_add_24 : decode cX0_add 24 = .ok (.aload_n 0, 1) := by decide +kernel
theorem dX0_add_25 : decode cX0_add 25 = .ok (.getfield 30, 3) := by decide +kernel
theorem dX0_add_28 : decode cX0_add 28 = .ok (.iload_n 3, 1) := by decide +kernel
theorem dX0_add_29 : decode cX0_add 29 = .ok (.iastore, 1) := by decide +kernel
theorem dX0_add_30 : decode cX0_add 30 = .ok (.aload_n 0, 1) := by decide +kernel
theorem dX0_add_31 : decode cX0_add 31 = .ok (.getfield 21, 3) := by decide +kernel
theorem dX0_add_34 : decode cX0_add 34 = .ok (.aload_n 0, 1) := by decide +kernel
theorem dX0_add_35 : decode cX0_add 35 = .ok (.getfield 30, 3) := by decide +kernel
theorem dX0_add_38 : decode cX0_add 38 = .ok (.iload 4, 2) := by decide +kernel
theorem dX0_add_40 : decode cX0_add 40 = .ok (.iastore, 1) := by decide +kernel
theorem dX0_add_41 : decode cX0_add 41 = .ok (.aload_n 0, 1) := by decide +kernel
theorem dX0_add_42 : decode cX0_add 42 = .ok (.getfield 24, 3) := by decide +kernel
theorem dX0_add_45 : decode cX0_add 45 = .ok (.aload_n 0, 1) := by decide +kernel
theorem dX0_add_46 : decode cX0_add 46 = .ok (.getfield 30, 3) := by decide +kernel
theorem dX0_add_49 : decode cX0_add 49 = .ok (.iload 5, 2) := by decide +kernel
theorem dX0_add_51 : decode cX0_add 51 = .ok (.iastore, 1) := by decide +kernel
theorem dX0_add_52 : decode cX0_add 52 = .ok (.aload_n 0, 1) := by decide +kernel
theorem dX0_add_53 : decode cX0_add 53 = .ok (.dup, 1) := by decide +kernel
theorem dX0_add_54 : decode cX0_add 54 = .ok (.getfield 30, 3) := by decide +kernel
theorem dX0_add_57 : decode cX0_add 57 = .ok (.iconst 1, 1) := by decide +kernel
theorem dX0_add_58 : decode cX0_add 58 = .ok (.iadd, 1) := by decide +kernel
theorem dX0_add_59 : decode cX0_add 59 = .ok (.putfield 30, 3) := by decide +kernel
theorem dX0_add_62 : decode cX0_add 62 = .ok (.return_, 1) := by decide +kernel
theorem dX0_seekBest_0 : decode cX0_seekBest 0 = .ok (.aload_n 0, 1) := by decide +kernel
theorem dX0_seekBest_1 : decode cX0_seekBest 1 = .ok (.iconst 0, 1) := by decide +kernel
theorem dX0_seekBest_2 : decode cX0_seekBest 2 = .ok (.putfield 34, 3) := by decide +kernel
theorem dX0_seekBest_5 : decode cX0_seekBest 5 = .ok (.aload_n 0, 1) := by decide +kernel
theorem dX0_seekBest_6 : decode cX0_seekBest 6 = .ok (.lconst 0, 1) := by decide +kernel
theorem dX0_seekBest_7 : decode cX0_seekBest 7 = .ok (.putfield 37, 3) := by decide +kernel
theorem dX0_seekBest_10 : decode cX0_seekBest 10 = .ok (.aload_n 0, 1) := by decide +kernel
theorem dX0_seekBest_11 : decode cX0_seekBest 11 = .ok (.lconst 1, 1) := by decide +kernel
theorem dX0_seekBest_12 : decode cX0_seekBest 12 = .ok (.putfield 41, 3) := by decide +kernel
theorem dX0_seekBest_15 : decode cX0_seekBest 15 = .ok (.iconst 0, 1) := by decide +kernel
theorem dX0_seekBest_16 : decode cX0_seekBest 16 = .ok (.istore_n 2, 1) := by decide +kernel
theorem dX0_seekBest_17 : decode cX0_seekBest 17 = .ok (.iload_n 2, 1) := by decide +kernel
theorem dX0_seekBest_18 : decode cX0_seekBest 18 = .ok (.aload_n 0, 1) := by decide +kernel
theorem dX0_seekBest_19 : decode cX0_seekBest 19 = .ok (.getfield 30, 3) := by decide +kernel
theorem dX0_seekBest_22 : decode cX0_seekBest 22 = .ok (.if_icmp .ge 52, 3) := by decide +kernel
theorem dX0_seekBest_25 : decode cX0_seekBest 25 = .ok (.iconst 0, 1) := by decide +kernel
theorem dX0_seekBest_26 : decode cX0_seekBest 26 = .ok (.istore_n 3, 1) := by decide +kernel
theorem dX0_seekBest_27 : decode cX0_seekBest 27 = .ok (.iload_n 3, 1) := by decide +kernel
theorem dX0_seekBest_28 : decode cX0_seekBest 28 = .ok (.aload_n 0, 1) := by decide +kernel
theorem dX0_seekBest_29 : decode cX0_seekBest 29 = .ok (.getfield 30, 3) := by decide +kernel
theorem dX0_seekBest_32 : decode cX0_seekBest 32 = .ok (.if_icmp .ge 36, 3) := by decide +kernel
theorem dX0_seekBest_35 : decode cX0_seekBest 35 = .ok (.aload_n 0, 1) := by decide +kernel
theorem dX0_seekBest_36 : decode cX0_seekBest 36 = .ok (.iload_n 2, 1) := by decide +kernel
theorem dX0_seekBest_37 : decode cX0_seekBest 37 = .ok (.iload_n 3, 1) := by decide +kernel
theorem dX0_seekBest_38 : decode cX0_seekBest 38 = .ok (.invokevirtual 44, 3) := by decide +kernel
theorem dX0_seekBest_41 : decode cX0_seekBest 41 = .ok (.ifCond .eq 21, 3) := by decide +kernel
theorem dX0_seekBest_44 : decode cX0_seekBest 44 = .ok (.aload_n 0, 1) := by decide +kernel
theorem dX0_seekBest_45 : decode cX0_seekBest 45 = .ok (.iload_n 3, 1) := by decide +kernel
theorem dX0_seekBest_46 : decode cX0_seekBest 46 = .ok (.iload_n 2, 1) := by decide +kernel
theorem dX0_seekBest_47 : decode cX0_seekBest 47 = .ok (.invokevirtual 44, 3) := by decide +kernel
theorem dX0_seekBest_50 : decode cX0_seekBest 50 = .ok (.ifCond .eq 12, 3) := by decide +kernel
theorem dX0_seekBest_53 : decode cX0_seekBest 53 = .ok (.aload_n 0, 1) := by decide +kernel
theorem dX0_seekBest_54 : decode cX0_seekBest 54 = .ok (.iconst 2, 1) := by decide +kernel
theorem dX0_seekBest_55 : decode cX0_seekBest 55 = .ok (.iload_n 2, 1) := by decide +kernel
theorem dX0_seekBest_56 : decode cX0_seekBest 56 = .ok (.iload_n 3, 1) := by decide +kernel
theorem dX0_seekBest_57 : decode cX0_seekBest 57 = .ok (.iload_n 3, 1) := by decide +kernel
theorem dX0_seekBest_58 : decode cX0_seekBest 58 = .ok (.iload_n 1, 1) := by decide +kernel
theorem dX0_seekBest_59 : decode cX0_seekBest 59 = .ok (.invokevirtual 48, 3) := by decide +kernel
theorem dX0_seekBest_62 : decode cX0_seekBest 62 = .ok (.iinc 3 1, 3) := by decide +kernel
theorem dX0_seekBest_65 : decode cX0_seekBest 65 = .ok (.goto (-38), 3) := by decide +kernel
theorem dX0_seekBest_68 : decode cX0_seekBest 68 = .ok (.iinc 2 1, 3) := by decide +kernel
theorem dX0_seekBest_71 : decode cX0_seekBest 71 = .ok (.goto (-54), 3) := by decide +kernel
theorem dX0_seekBest_74 : decode cX0_seekBest 74 = .ok (.iconst 0, 1) := by decide +kernel
theorem dX0_seekBest_75 : decode cX0_seekBest 75 = .ok (.istore_n 2, 1) := by decide +kernel
theorem dX0_seekBest_76 : decode cX0_seekBest 76 = .ok (.iload_n 2, 1) := by decide +kernel
theorem dX0_seekBest_77 : decode cX0_seekBest 77 = .ok (.aload_n 0, 1) := by decide +kernel
theorem dX0_seekBest_78 : decode cX0_seekBest 78 = .ok (.getfield 30, 3) := by decide +kernel
theorem dX0_seekBest_81 : decode cX0_seekBest 81 = .ok (.if_icmp .ge 41, 3) := by decide +kernel
theorem dX0_seekBest_84 : decode cX0_seekBest 84 = .ok (.iconst 0, 1) := by decide +kernel
theorem dX0_seekBest_85 : decode cX0_seekBest 85 = .ok (.istore_n 3, 1) := by decide +kernel
theorem dX0_seekBest_86 : decode cX0_seekBest 86 = .ok (.iload_n 3, 1) := by decide +kernel
theorem dX0_seekBest_87 : decode cX0_seekBest 87 = .ok (.aload_n 0, 1) := by decide +kernel
theorem dX0_seekBest_88 : decode cX0_seekBest 88 = .ok (.getfield 30, 3) := by decide +kernel
theorem dX0_seekBest_91 : decode cX0_seekBest 91 = .ok (.if_icmp .ge 25, 3) := by decide +kernel
theorem dX0_seekBest_94 : decode cX0_seekBest 94 = .ok (.aload_n 0, 1) := by decide +kernel
theorem dX0_seekBest_95 : decode cX0_seekBest 95 = .ok (.iload_n 2, 1) := by decide +kernel
theorem dX0_seekBest_96 : decode cX0_seekBest 96 = .ok (.iload_n 3, 1) := by decide +kernel
theorem dX0_seekBest_97 : decode cX0_seekBest 97 = .ok (.invokevirtual 44, 3) := by decide +kernel
theorem dX0_seekBest_100 : decode cX0_seekBest 100 = .ok (.ifCond .eq 10, 3) := by decide +kernel
theorem dX0_seekBest_103 : decode cX0_seekBest 103 = .ok (.aload_n 0, 1) := by decide +kernel
theorem dX0_seekBest_104 : decode cX0_seekBest 104 = .ok (.iload_n 2, 1) := by decide +kernel
theorem dX0_seekBest_105 : decode cX0_seekBest 105 = .ok (.iload_n 3, 1) := by decide +kernel
theorem dX0_seekBest_106 : decode cX0_seekBest 106 = .ok (.iload_n 1, 1) := by decide +kernel
theorem dX0_seekBest_107 : decode cX0_seekBest 107 = .ok (.invokevirtual 52, 3) := by decide +kernel
theorem dX0_seekBest_110 : decode cX0_seekBest 110 = .ok (.iinc 3 1, 3) := by decide +kernel
theorem dX0_seekBest_113 : decode cX0_seekBest 113 = .ok (.goto (-27), 3) := by decide +kernel
theorem dX0_seekBest_116 : decode cX0_seekBest 116 = .ok (.iinc 2 1, 3) := by decide +kernel
theorem dX0_seekBest_119 : decode cX0_seekBest 119 = .ok (.goto (-43), 3) := by decide +kernel
theorem dX0_seekBest_122 : decode cX0_seekBest 122 = .ok (.return_, 1) := by decide +kernel
theorem dX0_seekThird_0 : decode cX0_seekThird 0 = .ok (.iconst 0, 1) := by decide +kernel
theorem dX0_seekThird_1 : decode cX0_seekThird 1 = .ok (.istore 4, 2) := by decide +kernel
theorem dX0_seekThird_3 : decode cX0_seekThird 3 = .ok (.iload 4, 2) := by decide +kernel
theorem dX0_seekThird_5 : decode cX0_seekThird 5 = .ok (.aload_n 0, 1) := by decide +kernel
theorem dX0_seekThird_6 : decode cX0_seekThird 6 = .ok (.getfield 30, 3) := by decide +kernel
theorem dX0_seekThird_9 : decode cX0_seekThird 9 = .ok (.if_icmp .ge 39, 3) := by decide +kernel
theorem dX0_seekThird_12 : decode cX0_seekThird 12 = .ok (.aload_n 0, 1) := by decide +kernel
theorem dX0_seekThird_13 : decode cX0_seekThird 13 = .ok (.iload_n 2, 1) := by decide +kernel
theorem dX0_seekThird_14 : decode cX0_seekThird 14 = .ok (.iload 4, 2) := by decide +kernel
theorem dX0_seekThird_16 : decode cX0_seekThird 16 = .ok (.invokevirtual 44, 3) := by decide +kernel
theorem dX0_seekThird_19 : decode cX0_seekThird 19 = .ok (.ifCond .eq 23, 3) := by decide +kernel
theorem dX0_seekThird_22 : decode cX0_seekThird 22 = .ok (.aload_n 0, 1) := by decide +kernel
theorem dX0_seekThird_23 : decode cX0_seekThird 23 = .ok (.iload 4, 2) := by decide +kernel
theorem dX0_seekThird_25 : decode cX0_seekThird 25 = .ok (.iload_n 1, 1) := by decide +kernel
theorem dX0_seekThird_26 : decode cX0_seekThird 26 = .ok (.invokevirtual 44, 3) := by decide +kernel
theorem dX0_seekThird_29 : decode cX0_seekThird 29 = .ok (.ifCond .eq 13, 3) := by decide +kernel
theorem dX0_seekThird_32 : decode cX0_seekThird 32 = .ok (.aload_n 0, 1) := by decide +kernel
theorem dX0_seekThird_33 : decode cX0_seekThird 33 = .ok (.iconst 3, 1) := by decide +kernel
theorem dX0_seekThird_34 : decode cX0_seekThird 34 = .ok (.iload_n 1, 1) := by decide +kernel
theorem dX0_seekThird_35 : decode cX0_seekThird 35 = .ok (.iload_n 2, 1) := by decide +kernel
theorem dX0_seekThird_36 : decode cX0_seekThird 36 = .ok (.iload 4, 2) := by decide +kernel
theorem dX0_seekThird_38 : decode cX0_seekThird 38 = .ok (.iload_n 3, 1) := by decide +kernel
theorem dX0_seekThird_39 : decode cX0_seekThird 39 = .ok (.invokevirtual 48, 3) := by decide +kernel
theorem dX0_seekThird_42 : decode cX0_seekThird 42 = .ok (.iinc 4 1, 3) := by decide +kernel
theorem dX0_seekThird_45 : decode cX0_seekThird 45 = .ok (.goto (-42), 3) := by decide +kernel
theorem dX0_seekThird_48 : decode cX0_seekThird 48 = .ok (.return_, 1) := by decide +kernel
theorem dX0_follows_0 : decode cX0_follows 0 = .ok (.aload_n 0, 1) := by decide +kernel
theorem dX0_follows_1 : decode cX0_follows 1 = .ok (.getfield 15, 3) := by decide +kernel
theorem dX0_follows_4 : decode cX0_follows 4 = .ok (.iload_n 1, 1) := by decide +kernel
theorem dX0_follows_5 : decode cX0_follows 5 = .ok (.iaload, 1) := by decide +kernel
theorem dX0_follows_6 : decode cX0_follows 6 = .ok (.aload_n 0, 1) := by decide +kernel
theorem dX0_follows_7 : decode cX0_follows 7 = .ok (.getfield 9, 3) := by decide +kernel
theorem dX0_follows_10 : decode cX0_follows 10 = .ok (.iload_n 2, 1) := by decide +kernel
theorem dX0_follows_11 : decode cX0_follows 11 = .ok (.iaload, 1) := by decide +kernel
theorem dX0_follows_12 : decode cX0_follows 12 = .ok (.if_icmp .ne 7, 3) := by decide +kernel
theorem dX0_follows_15 : decode cX0_follows 15 = .ok (.iconst 1, 1) := by decide +kernel
theorem dX0_follows_16 : decode cX0_follows 16 = .ok (.goto 4, 3) := by decide +kernel
theorem dX0_follows_19 : decode cX0_follows 19 = .ok (.iconst 0, 1) := by decide +kernel
theorem dX0_follows_20 : decode cX0_follows 20 = .ok (.ireturn, 1) := by decide +kernel
theorem dX0_offer_0 : decode cX0_offer 0 = .ok (.aload_n 0, 1) := by decide +kernel
theorem dX0_offer_1 : decode cX0_offer 1 = .ok (.iload_n 2, 1) := by decide +kernel
theorem dX0_offer_2 : decode cX0_offer 2 = .ok (.iload 5, 2) := by decide +kernel
theorem dX0_offer_4 : decode cX0_offer 4 = .ok (.invokevirtual 56, 3) := by decide +kernel
theorem dX0_offer_7 : decode cX0_offer 7 = .ok (.aload_n 0, 1) := by decide +kernel
theorem dX0_offer_8 : decode cX0_offer 8 = .ok (.iload_n 3, 1) := by decide +kernel
theorem dX0_offer_9 : decode cX0_offer 9 = .ok (.iload 5, 2) := by decide +kernel
theorem dX0_offer_11 : decode cX0_offer 11 = .ok (.invokevirtual 56, 3) := by decide +kernel
theorem dX0_offer_14 : decode cX0_offer 14 = .ok (.lmul, 1) := by decide +kernel
theorem dX0_offer_15 : decode cX0_offer 15 = .ok (.lstore 6, 2) := by decide +kernel
theorem dX0_offer_17 : decode cX0_offer 17 = .ok (.aload_n 0, 1) := by decide +kernel
theorem dX0_offer_18 : decode cX0_offer 18 = .ok (.iload_n 2, 1) := by decide +kernel
theorem dX0_offer_19 : decode cX0_offer 19 = .ok (.invokevirtual 60, 3) := by decide +kernel
theorem dX0_offer_22 : decode cX0_offer 22 = .ok (.aload_n 0, 1) := by decide +kernel
theorem dX0_offer_23 : decode cX0_offer 23 = .ok (.iload_n 3, 1) := by decide +kernel
theorem dX0_offer_24 : decode cX0_offer 24 = .ok (.invokevirtual 60, 3) := by decide +kernel
theorem dX0_offer_27 : decode cX0_offer 27 = .ok (.lmul, 1) := by decide +kernel
theorem dX0_offer_28 : decode cX0_offer 28 = .ok (.lstore 8, 2) := by decide +kernel
theorem dX0_offer_30 : decode cX0_offer 30 = .ok (.iload_n 1, 1) := by decide +kernel
theorem dX0_offer_31 : decode cX0_offer 31 = .ok (.iconst 3, 1) := by decide +kernel
theorem dX0_offer_32 : decode cX0_offer 32 = .ok (.if_icmp .ne 27, 3) := by decide +kernel
theorem dX0_offer_35 : decode cX0_offer 35 = .ok (.lload 6, 2) := by decide +kernel
theorem dX0_offer_37 : decode cX0_offer 37 = .ok (.aload_n 0, 1) := by decide +kernel
theorem dX0_offer_38 : decode cX0_offer 38 = .ok (.iload 4, 2) := by decide +kernel
theorem dX0_offer_40 : decode cX0_offer 40 = .ok (.iload 5, 2) := by decide +kernel
theorem dX0_offer_42 : decode cX0_offer 42 = .ok (.invokevirtual 56, 3) := by decide +kernel
theorem dX0_offer_45 : decode cX0_offer 45 = .ok (.lmul, 1) := by decide +kernel
theorem dX0_offer_46 : decode cX0_offer 46 = .ok (.lstore 6, 2) := by decide +kernel
theorem dX0_offer_48 : decode cX0_offer 48 = .ok (.lload 8, 2) := by decide +kernel
theorem dX0_offer_50 : decode cX0_offer 50 = .ok (.aload_n 0, 1) := by decide +kernel
theorem dX0_offer_51 : decode cX0_offer 51 = .ok (.iload 4, 2) := by decide +kernel
theorem dX0_offer_53 : decode cX0_offer 53 = .ok (.invokevirtual 60, 3) := by decide +kernel
theorem dX0_offer_56 : decode cX0_offer 56 = .ok (.lmul, 1) := by decide +kernel
theorem dX0_offer_57 : decode cX0_offer 57 = .ok (.lstore 8, 2) := by decide +kernel
theorem dX0_offer_59 : decode cX0_offer 59 = .ok (.lload 6, 2) := by decide +kernel
theorem dX0_offer_61 : decode cX0_offer 61 = .ok (.aload_n 0, 1) := by decide +kernel
theorem dX0_offer_62 : decode cX0_offer 62 = .ok (.getfield 41, 3) := by decide +kernel
theorem dX0_offer_65 : decode cX0_offer 65 = .ok (.lmul, 1) := by decide +kernel
theorem dX0_offer_66 : decode cX0_offer 66 = .ok (.aload_n 0, 1) := by decide +kernel
theorem dX0_offer_67 : decode cX0_offer 67 = .ok (.getfield 37, 3) := by decide +kernel
theorem dX0_offer_70 : decode cX0_offer 70 = .ok (.lload 8, 2) := by decide +kernel
theorem dX0_offer_72 : decode cX0_offer 72 = .ok (.lmul, 1) := by decide +kernel
theorem dX0_offer_73 : decode cX0_offer 73 = .ok (.lcmp, 1) := by decide +kernel
theorem dX0_offer_74 : decode cX0_offer 74 = .ok (.ifCond .le 42, 3) := by decide +kernel
theorem dX0_offer_77 : decode cX0_offer 77 = .ok (.aload_n 0, 1) := by decide +kernel
theorem dX0_offer_78 : decode cX0_offer 78 = .ok (.iload_n 1, 1) := by decide +kernel
theorem dX0_offer_79 : decode cX0_offer 79 = .ok (.putfield 34, 3) := by decide +kernel
theorem dX0_offer_82 : decode cX0_offer 82 = .ok (.aload_n 0, 1) := by decide +kernel
theorem dX0_offer_83 : decode cX0_offer 83 = .ok (.getfield 27, 3) := by decide +kernel
theorem dX0_offer_86 : decode cX0_offer 86 = .ok (.iconst 0, 1) := by decide +kernel
theorem dX0_offer_87 : decode cX0_offer 87 = .ok (.iload_n 2, 1) := by decide +kernel
theorem dX0_offer_88 : decode cX0_offer 88 = .ok (.iastore, 1) := by decide +kernel
theorem dX0_offer_89 : decode cX0_offer 89 = .ok (.aload_n 0, 1) := by decide +kernel
theorem dX0_offer_90 : decode cX0_offer 90 = .ok (.getfield 27, 3) := by decide +kernel
theorem dX0_offer_93 : decode cX0_offer 93 = .ok (.iconst 1, 1) := by decide +kernel
theorem dX0_offer_94 : decode cX0_offer 94 = .ok (.iload_n 3, 1) := by decide +kernel
theorem dX0_offer_95 : decode cX0_offer 95 = .ok (.iastore, 1) := by decide +kernel
theorem dX0_offer_96 : decode cX0_offer 96 = .ok (.aload_n 0, 1) := by decide +kernel
theorem dX0_offer_97 : decode cX0_offer 97 = .ok (.getfield 27, 3) := by decide +kernel
theorem dX0_offer_100 : decode cX0_offer 100 = .ok (.iconst 2, 1) := by decide +kernel
theorem dX0_offer_101 : decode cX0_offer 101 = .ok (.iload 4, 2) := by decide +kernel
theorem dX0_offer_103 : decode cX0_offer 103 = .ok (.iastore, 1) := by decide +kernel
theorem dX0_offer_104 : decode cX0_offer 104 = .ok (.aload_n 0, 1) := by decide +kernel
theorem dX0_offer_105 : decode cX0_offer 105 = .ok (.lload 6, 2) := by decide +kernel
theorem dX0_offer_107 : decode cX0_offer 107 = .ok (.putfield 37, 3) := by decide +kernel
theorem dX0_offer_110 : decode cX0_offer 110 = .ok (.aload_n 0, 1) := by decide +kernel
theorem dX0_offer_111 : decode cX0_offer 111 = .ok (.lload 8, 2) := by decide +kernel
theorem dX0_offer_113 : decode cX0_offer 113 = .ok (.putfield 41, 3) := by decide +kernel
theorem dX0_offer_116 : decode cX0_offer 116 = .ok (.return_, 1) := by decide +kernel
theorem dX0_got_0 : decode cX0_got 0 = .ok (.aload_n 0, 1) := by decide +kernel
theorem dX0_got_1 : decode cX0_got 1 = .ok (.getfield 15, 3) := by decide +kernel
theorem dX0_got_4 : decode cX0_got 4 = .ok (.iload_n 1, 1) := by decide +kernel
theorem dX0_got_5 : decode cX0_got 5 = .ok (.iaload, 1) := by decide +kernel
theorem dX0_got_6 : decode cX0_got 6 = .ok (.ifCond .ne 13, 3) := by decide +kernel
theorem dX0_got_9 : decode cX0_got 9 = .ok (.aload_n 0, 1) := by decide +kernel
theorem dX0_got_10 : decode cX0_got 10 = .ok (.getfield 21, 3) := by decide +kernel
theorem dX0_got_13 : decode cX0_got 13 = .ok (.iload_n 1, 1) := by decide +kernel
theorem dX0_got_14 : decode cX0_got 14 = .ok (.iaload, 1) := by decide +kernel
theorem dX0_got_15 : decode cX0_got 15 = .ok (.i2l, 1) := by decide +kernel
theorem dX0_got_16 : decode cX0_got 16 = .ok (.goto 12, 3) := by decide +kernel
theorem dX0_got_19 : decode cX0_got 19 = .ok (.aload_n 0, 1) := by decide +kernel
theorem dX0_got_20 : decode cX0_got 20 = .ok (.getfield 21, 3) := by decide +kernel
theorem dX0_got_23 : decode cX0_got 23 = .ok (.iload_n 1, 1) := by decide +kernel
theorem dX0_got_24 : decode cX0_got 24 = .ok (.iaload, 1) := by decide +kernel
theorem dX0_got_25 : decode cX0_got 25 = .ok (.iload_n 2, 1) := by decide +kernel
theorem dX0_got_26 : decode cX0_got 26 = .ok (.imul, 1) := by decide +kernel
theorem dX0_got_27 : decode cX0_got 27 = .ok (.i2l, 1) := by decide +kernel
theorem dX0_got_28 : decode cX0_got 28 = .ok (.lreturn, 1) := by decide +kernel
theorem dX0_paid_0 : decode cX0_paid 0 = .ok (.aload_n 0, 1) := by decide +kernel
theorem dX0_paid_1 : decode cX0_paid 1 = .ok (.getfield 9, 3) := by decide +kernel
theorem dX0_paid_4 : decode cX0_paid 4 = .ok (.iload_n 1, 1) := by decide +kernel
theorem dX0_paid_5 : decode cX0_paid 5 = .ok (.iaload, 1) := by decide +kernel
theorem dX0_paid_6 : decode cX0_paid 6 = .ok (.ifCond .ne 13, 3) := by decide +kernel
theorem dX0_paid_9 : decode cX0_paid 9 = .ok (.aload_n 0, 1) := by decide +kernel
theorem dX0_paid_10 : decode cX0_paid 10 = .ok (.getfield 18, 3) := by decide +kernel
theorem dX0_paid_13 : decode cX0_paid 13 = .ok (.iload_n 1, 1) := by decide +kernel
theorem dX0_paid_14 : decode cX0_paid 14 = .ok (.iaload, 1) := by decide +kernel
theorem dX0_paid_15 : decode cX0_paid 15 = .ok (.i2l, 1) := by decide +kernel
theorem dX0_paid_16 : decode cX0_paid 16 = .ok (.goto 17, 3) := by decide +kernel
theorem dX0_paid_19 : decode cX0_paid 19 = .ok (.aload_n 0, 1) := by decide +kernel
theorem dX0_paid_20 : decode cX0_paid 20 = .ok (.getfield 18, 3) := by decide +kernel
theorem dX0_paid_23 : decode cX0_paid 23 = .ok (.iload_n 1, 1) := by decide +kernel
theorem dX0_paid_24 : decode cX0_paid 24 = .ok (.iaload, 1) := by decide +kernel
theorem dX0_paid_25 : decode cX0_paid 25 = .ok (.aload_n 0, 1) := by decide +kernel
theorem dX0_paid_26 : decode cX0_paid 26 = .ok (.getfield 24, 3) := by decide +kernel
theorem dX0_paid_29 : decode cX0_paid 29 = .ok (.iload_n 1, 1) := by decide +kernel
theorem dX0_paid_30 : decode cX0_paid 30 = .ok (.iaload, 1) := by decide +kernel
theorem dX0_paid_31 : decode cX0_paid 31 = .ok (.imul, 1) := by decide +kernel
theorem dX0_paid_32 : decode cX0_paid 32 = .ok (.i2l, 1) := by decide +kernel
theorem dX0_paid_33 : decode cX0_paid 33 = .ok (.lreturn, 1) := by decide +kernel
theorem dX1_init_0 : decode cX1_init 0 = .ok (.aload_n 0, 1) := by decide +kernel
theorem dX1_init_1 : decode cX1_init 1 = .ok (.invokespecial 3, 3) := by decide +kernel
theorem dX1_init_4 : decode cX1_init 4 = .ok (.aload_n 0, 1) := by decide +kernel
theorem dX1_init_5 : decode cX1_init 5 = .ok (.bipush 60, 2) := by decide +kernel
theorem dX1_init_7 : decode cX1_init 7 = .ok (.newarray .int, 2) := by decide +kernel
theorem dX1_init_9 : decode cX1_init 9 = .ok (.putfield 9, 3) := by decide +kernel
theorem dX1_init_12 : decode cX1_init 12 = .ok (.aload_n 0, 1) := by decide +kernel
theorem dX1_init_13 : decode cX1_init 13 = .ok (.iconst 3, 1) := by decide +kernel
theorem dX1_init_14 : decode cX1_init 14 = .ok (.newarray .int, 2) := by decide +kernel
theorem dX1_init_16 : decode cX1_init 16 = .ok (.putfield 15, 3) := by decide +kernel
theorem dX1_init_19 : decode cX1_init 19 = .ok (.return_, 1) := by decide +kernel
theorem dX1_forget_0 : decode cX1_forget 0 = .ok (.aload_n 0, 1) := by decide +kernel
theorem dX1_forget_1 : decode cX1_forget 1 = .ok (.iconst 0, 1) := by decide +kernel
theorem dX1_forget_2 : decode cX1_forget 2 = .ok (.putfield 18, 3) := by decide +kernel
theorem dX1_forget_5 : decode cX1_forget 5 = .ok (.aload_n 0, 1) := by decide +kernel
theorem dX1_forget_6 : decode cX1_forget 6 = .ok (.getfield 9, 3) := by decide +kernel
theorem dX1_forget_9 : decode cX1_forget 9 = .ok (.iconst 0, 1) := by decide +kernel
theorem dX1_forget_10 : decode cX1_forget 10 = .ok (.invokestatic 22, 3) := by decide +kernel
theorem dX1_forget_13 : decode cX1_forget 13 = .ok (.return_, 1) := by decide +kernel
theorem dX1_hold_0 : decode cX1_hold 0 = .ok (.iload_n 1, 1) := by decide +kernel
theorem dX1_hold_1 : decode cX1_hold 1 = .ok (.iload_n 3, 1) := by decide +kernel
theorem dX1_hold_2 : decode cX1_hold 2 = .ok (.iadd, 1) := by decide +kernel
theorem dX1_hold_3 : decode cX1_hold 3 = .ok (.iconst 1, 1) := by decide +kernel
theorem dX1_hold_4 : decode cX1_hold 4 = .ok (.isub, 1) := by decide +kernel
theorem dX1_hold_5 : decode cX1_hold 5 = .ok (.bipush 20, 2) := by decide +kernel
theorem dX1_hold_7 : decode cX1_hold 7 = .ok (.imul, 1) := by decide +kernel
theorem dX1_hold_8 : decode cX1_hold 8 = .ok (.istore 6, 2) := by decide +kernel
theorem dX1_hold_10 : decode cX1_hold 10 = .ok (.iconst 0, 1) := by decide +kernel
theorem dX1_hold_11 : decode cX1_hold 11 = .ok (.istore 7, 2) := by decide +kernel
theorem dX1_hold_13 : decode cX1_hold 13 = .ok (.iload 7, 2) := by decide +kernel
theorem dX1_hold_15 : decode cX1_hold 15 = .ok (.bipush 20, 2) := by decide +kernel
theorem dX1_hold_17 : decode cX1_hold 17 = .ok (.if_icmp .ge 64, 3) := by decide +kernel
theorem dX1_hold_20 : decode cX1_hold 20 = .ok (.iconst 0, 1) := by decide +kernel
theorem dX1_hold_21 : decode cX1_hold 21 = .ok (.istore 8, 2) := by decide +kernel
theorem dX1_hold_23 : decode cX1_hold 23 = .ok (.iload 8, 2) := by decide +kernel
theorem dX1_hold_25 : decode cX1_hold 25 = .ok (.bipush 20, 2) := by decide +kernel
theorem dX1_hold_27 : decode cX1_hold 27 = .ok (.if_icmp .ge 48, 3) := by decide +kernel
theorem dX1_hold_30 : decode cX1_hold 30 = .ok (.iload_n 2, 1) := by decide +kernel
theorem dX1_hold_31 : decode cX1_hold 31 = .ok (.iload 7, 2) := by decide +kernel
theorem dX1_hold_33 : decode cX1_hold 33 = .ok (.iconst 1, 1) := by decide +kernel
theorem dX1_hold_34 : decode cX1_hold 34 = .ok (.iadd, 1) := by decide +kernel
theorem dX1_hold_35 : decode cX1_hold 35 = .ok (.imul, 1) := by decide +kernel
theorem dX1_hold_36 : decode cX1_hold 36 = .ok (.iload 4, 2) := by decide +kernel
theorem dX1_hold_38 : decode cX1_hold 38 = .ok (.iload 8, 2) := by decide +kernel
theorem dX1_hold_40 : decode cX1_hold 40 = .ok (.iconst 1, 1) := by decide +kernel
theorem dX1_hold_41 : decode cX1_hold 41 = .ok (.iadd, 1) := by decide +kernel
theorem dX1_hold_42 : decode cX1_hold 42 = .ok (.imul, 1) := by decide +kernel
theorem dX1_hold_43 : decode cX1_hold 43 = .ok (.isub, 1) := by decide +kernel
theorem dX1_hold_44 : decode cX1_hold 44 = .ok (.invokestatic 28, 3) := by decide +kernel
theorem dX1_hold_47 : decode cX1_hold 47 = .ok (.iload 5, 2) := by decide +kernel
theorem dX1_hold_49 : decode cX1_hold 49 = .ok (.if_icmp .eq 20, 3) := by decide +kernel
theorem dX1_hold_52 : decode cX1_hold 52 = .ok (.aload_n 0, 1) := by decide +kernel
theorem dX1_hold_53 : decode cX1_hold 53 = .ok (.getfield 9, 3) := by decide +kernel
theorem dX1_hold_56 : decode cX1_hold 56 = .ok (.iload 6, 2) := by decide +kernel
theorem dX1_hold_58 : decode cX1_hold 58 = .ok (.iload 7, 2) := by decide +kernel
theorem dX1_hold_60 : decode cX1_hold 60 = .ok (.iadd, 1) := by decide +kernel
theorem dX1_hold_61 : decode cX1_hold 61 = .ok (.dup2, 1) := by decide +kernel
theorem dX1_hold_62 : decode cX1_hold 62 = .ok (.iaload, 1) := by decide +kernel
theorem dX1_hold_63 : decode cX1_hold 63 = .ok (.iconst 1, 1) := by decide +kernel
theorem dX1_hold_64 : decode cX1_hold 64 = .ok (.iload 8, 2) := by decide +kernel
theorem dX1_hold_66 : decode cX1_hold 66 = .ok (.ishl, 1) := by decide +kernel
theorem dX1_hold_67 : decode cX1_hold 67 = .ok (.ior, 1) := by decide +kernel
theorem dX1_hold_68 : decode cX1_hold 68 = .ok (.iastore, 1) := by decide +kernel
theorem dX1_hold_69 : decode cX1_hold 69 = .ok (.iinc 8 1, 3) := by decide +kernel
theorem dX1_hold_72 : decode cX1_hold 72 = .ok (.goto (-49), 3) := by decide +kernel
theorem dX1_hold_75 : decode cX1_hold 75 = .ok (.iinc 7 1, 3) := by decide +kernel
theorem dX1_hold_78 : decode cX1_hold 78 = .ok (.goto (-65), 3) := by decide +kernel
theorem dX1_hold_81 : decode cX1_hold 81 = .ok (.aload_n 0, 1) := by decide +kernel
theorem dX1_hold_82 : decode cX1_hold 82 = .ok (.dup, 1) := by decide +kernel
theorem dX1_hold_83 : decode cX1_hold 83 = .ok (.getfield 18, 3) := by decide +kernel
theorem dX1_hold_86 : decode cX1_hold 86 = .ok (.iconst 1, 1) := by decide +kernel
theorem dX1_hold_87 : decode cX1_hold 87 = .ok (.iadd, 1) := by decide +kernel
theorem dX1_hold_88 : decode cX1_hold 88 = .ok (.putfield 18, 3) := by decide +kernel
theorem dX1_hold_91 : decode cX1_hold 91 = .ok (.return_, 1) := by decide +kernel
theorem dX1_reckon_0 : decode cX1_reckon 0 = .ok (.aload_n 0, 1) := by decide +kernel
theorem dX1_reckon_1 : decode cX1_reckon 1 = .ok (.iconst 0, 1) := by decide +kernel
theorem dX1_reckon_2 : decode cX1_reckon 2 = .ok (.putfield 32, 3) := by decide +kernel
theorem dX1_reckon_5 : decode cX1_reckon 5 = .ok (.aload_n 0, 1) := by decide +kernel
theorem dX1_reckon_6 : decode cX1_reckon 6 = .ok (.getfield 15, 3) := by decide +kernel
theorem dX1_reckon_9 : decode cX1_reckon 9 = .ok (.iconst 0, 1) := by decide +kernel
theorem dX1_reckon_10 : decode cX1_reckon 10 = .ok (.invokestatic 22, 3) := by decide +kernel
theorem dX1_reckon_13 : decode cX1_reckon 13 = .ok (.iconst 0, 1) := by decide +kernel
theorem dX1_reckon_14 : decode cX1_reckon 14 = .ok (.istore_n 1, 1) := by decide +kernel
theorem dX1_reckon_15 : decode cX1_reckon 15 = .ok (.iload_n 1, 1) := by decide +kernel
theorem dX1_reckon_16 : decode cX1_reckon 16 = .ok (.bipush 20, 2) := by decide +kernel
theorem dX1_reckon_18 : decode cX1_reckon 18 = .ok (.if_icmp .ge 114, 3) := by decide +kernel
theorem dX1_reckon_21 : decode cX1_reckon 21 = .ok (.iconst 0, 1) := by decide +kernel
theorem dX1_reckon_22 : decode cX1_reckon 22 = .ok (.istore_n 2, 1) := by decide +kernel
theorem dX1_reckon_23 : decode cX1_reckon 23 = .ok (.iload_n 2, 1) := by decide +kernel
theorem dX1_reckon_24 : decode cX1_reckon 24 = .ok (.bipush 20, 2) := by decide +kernel
theorem dX1_reckon_26 : decode cX1_reckon 26 = .ok (.if_icmp .ge 100, 3) := by decide +kernel
theorem dX1_reckon_29 : decode cX1_reckon 29 = .ok (.ldc 35, 2) := by decide +kernel
theorem dX1_reckon_31 : decode cX1_reckon 31 = .ok (.aload_n 0, 1) := by decide +kernel
theorem dX1_reckon_32 : decode cX1_reckon 32 = .ok (.getfield 9, 3) := by decide +kernel
theorem dX1_reckon_35 : decode cX1_reckon 35 = .ok (.bipush 20, 2) := by decide +kernel
theorem dX1_reckon_37 : decode cX1_reckon 37 = .ok (.iload_n 1, 1) := by decide +kernel
theorem dX1_reckon_38 : decode cX1_reckon 38 = .ok (.iadd, 1) := by decide +kernel
theorem dX1_reckon_39 : decode cX1_reckon 39 = .ok (.iaload, 1) := by decide +kernel
theorem dX1_reckon_40 : decode cX1_reckon 40 = .ok (.aload_n 0, 1) := by decide +kernel
theorem dX1_reckon_41 : decode cX1_reckon 41 = .ok (.getfield 9, 3) := by decide +kernel
theorem dX1_reckon_44 : decode cX1_reckon 44 = .ok (.bipush 40, 2) := by decide +kernel
theorem dX1_reckon_46 : decode cX1_reckon 46 = .ok (.iload_n 2, 1) := by decide +kernel
theorem dX1_reckon_47 : decode cX1_reckon 47 = .ok (.iadd, 1) := by decide +kernel
theorem dX1_reckon_48 : decode cX1_reckon 48 = .ok (.iaload, 1) := by decide +kernel
theorem dX1_reckon_49 : decode cX1_reckon 49 = .ok (.ior, 1) := by decide +kernel
theorem dX1_reckon_50 : decode cX1_reckon 50 = .ok (.iconst (-1), 1) := by decide +kernel
theorem dX1_reckon_51 : decode cX1_reckon 51 = .ok (.ixor, 1) := by decide +kernel
theorem dX1_reckon_52 : decode cX1_reckon 52 = .ok (.iand, 1) := by decide +kernel
theorem dX1_reckon_53 : decode cX1_reckon 53 = .ok (.istore_n 3, 1) := by decide +kernel
theorem dX1_reckon_54 : decode cX1_reckon 54 = .ok (.aload_n 0, 1) := by decide +kernel
theorem dX1_reckon_55 : decode cX1_reckon 55 = .ok (.getfield 9, 3) := by decide +kernel
theorem dX1_reckon_58 : decode cX1_reckon 58 = .ok (.iconst 0, 1) := by decide +kernel
theorem dX1_reckon_59 : decode cX1_reckon 59 = .ok (.iload_n 1, 1) := by decide +kernel
theorem dX1_reckon_60 : decode cX1_reckon 60 = .ok (.iadd, 1) := by decide +kernel
theorem dX1_reckon_61 : decode cX1_reckon 61 = .ok (.iaload, 1) := by decide +kernel
theorem dX1_reckon_62 : decode cX1_reckon 62 = .ok (.iload_n 2, 1) := by decide +kernel
theorem dX1_reckon_63 : decode cX1_reckon 63 = .ok (.ishr, 1) := by decide +kernel
theorem dX1_reckon_64 : decode cX1_reckon 64 = .ok (.iconst 1, 1) := by decide +kernel
theorem dX1_reckon_65 : decode cX1_reckon 65 = .ok (.iand, 1) := by decide +kernel
theorem dX1_reckon_66 : decode cX1_reckon 66 = .ok (.ifCond .ne 54, 3) := by decide +kernel
theorem dX1_reckon_69 : decode cX1_reckon 69 = .ok (.iload_n 3, 1) := by decide +kernel
theorem dX1_reckon_70 : decode cX1_reckon 70 = .ok (.ifCond .eq 50, 3) := by decide +kernel
theorem dX1_reckon_73 : decode cX1_reckon 73 = .ok (.aload_n 0, 1) := by decide +kernel
theorem dX1_reckon_74 : decode cX1_reckon 74 = .ok (.dup, 1) := by decide +kernel
theorem dX1_reckon_75 : decode cX1_reckon 75 = .ok (.getfield 32, 3) := by decide +kernel
theorem dX1_reckon_78 : decode cX1_reckon 78 = .ok (.iload_n 3, 1) := by decide +kernel
theorem dX1_reckon_79 : decode cX1_reckon 79 = .ok (.invokestatic 36, 3) := by decide +kernel
theorem dX1_reckon_82 : decode cX1_reckon 82 = .ok (.iadd, 1) := by decide +kernel
theorem dX1_reckon_83 : decode cX1_reckon 83 = .ok (.putfield 32, 3) := by decide +kernel
theorem dX1_reckon_86 : decode cX1_reckon 86 = .ok (.aload_n 0, 1) := by decide +kernel
theorem dX1_reckon_87 : decode cX1_reckon 87 = .ok (.getfield 15, 3) := by decide +kernel
theorem dX1_reckon_90 : decode cX1_reckon 90 = .ok (.iconst 0, 1) := by decide +kernel
theorem dX1_reckon_91 : decode cX1_reckon 91 = .ok (.dup2, 1) := by decide +kernel
theorem dX1_reckon_92 : decode cX1_reckon 92 = .ok (.iaload, 1) := by decide +kernel
theorem dX1_reckon_93 : decode cX1_reckon 93 = .ok (.iconst 1, 1) := by decide +kernel
theorem dX1_reckon_94 : decode cX1_reckon 94 = .ok (.iload_n 1, 1) := by decide +kernel
theorem dX1_reckon_95 : decode cX1_reckon 95 = .ok (.ishl, 1) := by decide +kernel
theorem dX1_reckon_96 : decode cX1_reckon 96 = .ok (.ior, 1) := by decide +kernel
theorem dX1_reckon_97 : decode cX1_reckon 97 = .ok (.iastore, 1) := by decide +kernel
theorem dX1_reckon_98 : decode cX1_reckon 98 = .ok (.aload_n 0, 1) := by decide +kernel
theorem dX1_reckon_99 : decode cX1_reckon 99 = .ok (.getfield 15, 3) := by decide +kernel
theorem dX1_reckon_102 : decode cX1_reckon 102 = .ok (.iconst 1, 1) := by decide +kernel
theorem dX1_reckon_103 : decode cX1_reckon 103 = .ok (.dup2, 1) := by decide +kernel
theorem dX1_reckon_104 : decode cX1_reckon 104 = .ok (.iaload, 1) := by decide +kernel
theorem dX1_reckon_105 : decode cX1_reckon 105 = .ok (.iconst 1, 1) := by decide +kernel
theorem dX1_reckon_106 : decode cX1_reckon 106 = .ok (.iload_n 2, 1) := by decide +kernel
theorem dX1_reckon_107 : decode cX1_reckon 107 = .ok (.ishl, 1) := by decide +kernel
theorem dX1_reckon_108 : decode cX1_reckon 108 = .ok (.ior, 1) := by decide +kernel
theorem dX1_reckon_109 : decode cX1_reckon 109 = .ok (.iastore, 1) := by decide +kernel
theorem dX1_reckon_110 : decode cX1_reckon 110 = .ok (.aload_n 0, 1) := by decide +kernel
theorem dX1_reckon_111 : decode cX1_reckon 111 = .ok (.getfield 15, 3) := by decide +kernel
theorem dX1_reckon_114 : decode cX1_reckon 114 = .ok (.iconst 2, 1) := by decide +kernel
theorem dX1_reckon_115 : decode cX1_reckon 115 = .ok (.dup2, 1) := by decide +kernel
theorem dX1_reckon_116 : decode cX1_reckon 116 = .ok (.iaload, 1) := by decide +kernel
theorem dX1_reckon_117 : decode cX1_reckon 117 = .ok (.iload_n 3, 1) := by decide +kernel
theorem dX1_reckon_118 : decode cX1_reckon 118 = .ok (.ior, 1) := by decide +kernel
theorem dX1_reckon_119 : decode cX1_reckon 119 = .ok (.iastore, 1) := by decide +kernel
theorem dX1_reckon_120 : decode cX1_reckon 120 = .ok (.iinc 2 1, 3) := by decide +kernel
theorem dX1_reckon_123 : decode cX1_reckon 123 = .ok (.goto (-100), 3) := by decide +kernel
theorem dX1_reckon_126 : decode cX1_reckon 126 = .ok (.iinc 1 1, 3) := by decide +kernel
theorem dX1_reckon_129 : decode cX1_reckon 129 = .ok (.goto (-114), 3) := by decide +kernel
theorem dX1_reckon_132 : decode cX1_reckon 132 = .ok (.return_, 1) := by decide +kernel
theorem dX1_leastOf_0 : decode cX1_leastOf 0 = .ok (.iconst 1, 1) := by decide +kernel
theorem dX1_leastOf_1 : decode cX1_leastOf 1 = .ok (.istore_n 2, 1) := by decide +kernel
theorem dX1_leastOf_2 : decode cX1_leastOf 2 = .ok (.iload_n 2, 1) := by decide +kernel
theorem dX1_leastOf_3 : decode cX1_leastOf 3 = .ok (.bipush 20, 2) := by decide +kernel
theorem dX1_leastOf_5 : decode cX1_leastOf 5 = .ok (.if_icmp .gt 27, 3) := by decide +kernel
theorem dX1_leastOf_8 : decode cX1_leastOf 8 = .ok (.aload_n 0, 1) := by decide +kernel
theorem dX1_leastOf_9 : decode cX1_leastOf 9 = .ok (.getfield 15, 3) := by decide +kernel
theorem dX1_leastOf_12 : decode cX1_leastOf 12 = .ok (.iload_n 1, 1) := by decide +kernel
theorem dX1_leastOf_13 : decode cX1_leastOf 13 = .ok (.iaload, 1) := by decide +kernel
theorem dX1_leastOf_14 : decode cX1_leastOf 14 = .ok (.iload_n 2, 1) := by decide +kernel
theorem dX1_leastOf_15 : decode cX1_leastOf 15 = .ok (.iconst 1, 1) := by decide +kernel
theorem dX1_leastOf_16 : decode cX1_leastOf 16 = .ok (.isub, 1) := by decide +kernel
theorem dX1_leastOf_17 : decode cX1_leastOf 17 = .ok (.ishr, 1) := by decide +kernel
theorem dX1_leastOf_18 : decode cX1_leastOf 18 = .ok (.iconst 1, 1) := by decide +kernel
theorem dX1_leastOf_19 : decode cX1_leastOf 19 = .ok (.iand, 1) := by decide +kernel
theorem dX1_leastOf_20 : decode cX1_leastOf 20 = .ok (.iconst 1, 1) := by decide +kernel
theorem dX1_leastOf_21 : decode cX1_leastOf 21 = .ok (.if_icmp .ne 5, 3) := by decide +kernel
theorem dX1_leastOf_24 : decode cX1_leastOf 24 = .ok (.iload_n 2, 1) := by decide +kernel
theorem dX1_leastOf_25 : decode cX1_leastOf 25 = .ok (.ireturn, 1) := by decide +kernel
theorem dX1_leastOf_26 : decode cX1_leastOf 26 = .ok (.iinc 2 1, 3) := by decide +kernel
theorem dX1_leastOf_29 : decode cX1_leastOf 29 = .ok (.goto (-27), 3) := by decide +kernel
theorem dX1_leastOf_32 : decode cX1_leastOf 32 = .ok (.bipush (-9), 2) := by decide +kernel
theorem dX1_leastOf_34 : decode cX1_leastOf 34 = .ok (.ireturn, 1) := by decide +kernel
theorem dX1_greatestOf_0 : decode cX1_greatestOf 0 = .ok (.bipush 20, 2) := by decide +kernel
theorem dX1_greatestOf_2 : decode cX1_greatestOf 2 = .ok (.istore_n 2, 1) := by decide +kernel
theorem dX1_greatestOf_3 : decode cX1_greatestOf 3 = .ok (.iload_n 2, 1) := by decide +kernel
theorem dX1_greatestOf_4 : decode cX1_greatestOf 4 = .ok (.iconst 1, 1) := by decide +kernel
theorem dX1_greatestOf_5 : decode cX1_greatestOf 5 = .ok (.if_icmp .lt 27, 3) := by decide +kernel
theorem dX1_greatestOf_8 : decode cX1_greatestOf 8 = .ok (.aload_n 0, 1) := by decide +kernel
theorem dX1_greatestOf_9 : decode cX1_greatestOf 9 = .ok (.getfield 15, 3) := by decide +kernel
theorem dX1_greatestOf_12 : decode cX1_greatestOf 12 = .ok (.iload_n 1, 1) := by decide +kernel
theorem dX1_greatestOf_13 : decode cX1_greatestOf 13 = .ok (.iaload, 1) := by decide +kernel
theorem dX1_greatestOf_14 : decode cX1_greatestOf 14 = .ok (.iload_n 2, 1) := by decide +kernel
theorem dX1_greatestOf_15 : decode cX1_greatestOf 15 = .ok (.iconst 1, 1) := by decide +kernel
theorem dX1_greatestOf_16 : decode cX1_greatestOf 16 = .ok (.isub, 1) := by decide +kernel
theorem dX1_greatestOf_17 : decode cX1_greatestOf 17 = .ok (.ishr, 1) := by decide +kernel
theorem dX1_greatestOf_18 : decode cX1_greatestOf 18 = .ok (.iconst 1, 1) := by decide +kernel
theorem dX1_greatestOf_19 : decode cX1_greatestOf 19 = .ok (.iand, 1) := by decide +kernel
theorem dX1_greatestOf_20 : decode cX1_greatestOf 20 = .ok (.iconst 1, 1) := by decide +kernel
theorem dX1_greatestOf_21 : decode cX1_greatestOf 21 = .ok (.if_icmp .ne 5, 3) := by decide +kernel
theorem dX1_greatestOf_24 : decode cX1_greatestOf 24 = .ok (.iload_n 2, 1) := by decide +kernel
theorem dX1_greatestOf_25 : decode cX1_greatestOf 25 = .ok (.ireturn, 1) := by decide +kernel
theorem dX1_greatestOf_26 : decode cX1_greatestOf 26 = .ok (.iinc 2 (-1), 3) := by decide +kernel
theorem dX1_greatestOf_29 : decode cX1_greatestOf 29 = .ok (.goto (-26), 3) := by decide +kernel
theorem dX1_greatestOf_32 : decode cX1_greatestOf 32 = .ok (.bipush (-9), 2) := by decide +kernel
theorem dX1_greatestOf_34 : decode cX1_greatestOf 34 = .ok (.ireturn, 1) := by decide +kernel
theorem dX2_init_0 : decode cX2_init 0 = .ok (.aload_n 0, 1) := by decide +kernel
theorem dX2_init_1 : decode cX2_init 1 = .ok (.invokespecial 3, 3) := by decide +kernel
theorem dX2_init_4 : decode cX2_init 4 = .ok (.aload_n 0, 1) := by decide +kernel
theorem dX2_init_5 : decode cX2_init 5 = .ok (.sipush 1000, 3) := by decide +kernel
theorem dX2_init_8 : decode cX2_init 8 = .ok (.newarray .int, 2) := by decide +kernel
theorem dX2_init_10 : decode cX2_init 10 = .ok (.putfield 9, 3) := by decide +kernel
theorem dX2_init_13 : decode cX2_init 13 = .ok (.return_, 1) := by decide +kernel
theorem dX2_reckon_0 : decode cX2_reckon 0 = .ok (.iconst 0, 1) := by decide +kernel
theorem dX2_reckon_1 : decode cX2_reckon 1 = .ok (.istore 4, 2) := by decide +kernel
theorem dX2_reckon_3 : decode cX2_reckon 3 = .ok (.aload_n 0, 1) := by decide +kernel
theorem dX2_reckon_4 : decode cX2_reckon 4 = .ok (.getfield 9, 3) := by decide +kernel
theorem dX2_reckon_7 : decode cX2_reckon 7 = .ok (.iconst 0, 1) := by decide +kernel
theorem dX2_reckon_8 : decode cX2_reckon 8 = .ok (.iconst 0, 1) := by decide +kernel
theorem dX2_reckon_9 : decode cX2_reckon 9 = .ok (.iastore, 1) := by decide +kernel
theorem dX2_reckon_10 : decode cX2_reckon 10 = .ok (.iconst 1, 1) := by decide +kernel
theorem dX2_reckon_11 : decode cX2_reckon 11 = .ok (.istore 5, 2) := by decide +kernel
theorem dX2_reckon_13 : decode cX2_reckon 13 = .ok (.iload 5, 2) := by decide +kernel
theorem dX2_reckon_15 : decode cX2_reckon 15 = .ok (.iload_n 1, 1) := by decide +kernel
theorem dX2_reckon_16 : decode cX2_reckon 16 = .ok (.if_icmp .gt 40, 3) := by decide +kernel
theorem dX2_reckon_19 : decode cX2_reckon 19 = .ok (.aload_n 0, 1) := by decide +kernel
theorem dX2_reckon_20 : decode cX2_reckon 20 = .ok (.getfield 9, 3) := by decide +kernel
theorem dX2_reckon_23 : decode cX2_reckon 23 = .ok (.iload 5, 2) := by decide +kernel
theorem dX2_reckon_25 : decode cX2_reckon 25 = .ok (.aload_n 0, 1) := by decide +kernel
theorem dX2_reckon_26 : decode cX2_reckon 26 = .ok (.iload 5, 2) := by decide +kernel
theorem dX2_reckon_28 : decode cX2_reckon 28 = .ok (.iload_n 2, 1) := by decide +kernel
theorem dX2_reckon_29 : decode cX2_reckon 29 = .ok (.aload_n 3, 1) := by decide +kernel
theorem dX2_reckon_30 : decode cX2_reckon 30 = .ok (.invokevirtual 15, 3) := by decide +kernel
theorem dX2_reckon_33 : decode cX2_reckon 33 = .ok (.iastore, 1) := by decide +kernel
theorem dX2_reckon_34 : decode cX2_reckon 34 = .ok (.aload_n 0, 1) := by decide +kernel
theorem dX2_reckon_35 : decode cX2_reckon 35 = .ok (.getfield 9, 3) := by decide +kernel
theorem dX2_reckon_38 : decode cX2_reckon 38 = .ok (.iload 5, 2) := by decide +kernel
theorem dX2_reckon_40 : decode cX2_reckon 40 = .ok (.iaload, 1) := by decide +kernel
theorem dX2_reckon_41 : decode cX2_reckon 41 = .ok (.ldc 19, 2) := by decide +kernel
theorem dX2_reckon_43 : decode cX2_reckon 43 = .ok (.if_icmp .ge 7, 3) := by decide +kernel
theorem dX2_reckon_46 : decode cX2_reckon 46 = .ok (.iload 5, 2) := by decide +kernel
theorem dX2_reckon_48 : decode cX2_reckon 48 = .ok (.istore 4, 2) := by decide +kernel
theorem dX2_reckon_50 : decode cX2_reckon 50 = .ok (.iinc 5 1, 3) := by decide +kernel
theorem dX2_reckon_53 : decode cX2_reckon 53 = .ok (.goto (-40), 3) := by decide +kernel
theorem dX2_reckon_56 : decode cX2_reckon 56 = .ok (.aload_n 0, 1) := by decide +kernel
theorem dX2_reckon_57 : decode cX2_reckon 57 = .ok (.iload_n 1, 1) := by decide +kernel
theorem dX2_reckon_58 : decode cX2_reckon 58 = .ok (.iload 4, 2) := by decide +kernel
theorem dX2_reckon_60 : decode cX2_reckon 60 = .ok (.isub, 1) := by decide +kernel
theorem dX2_reckon_61 : decode cX2_reckon 61 = .ok (.putfield 20, 3) := by decide +kernel
theorem dX2_reckon_64 : decode cX2_reckon 64 = .ok (.aload_n 0, 1) := by decide +kernel
theorem dX2_reckon_65 : decode cX2_reckon 65 = .ok (.aload_n 0, 1) := by decide +kernel
theorem dX2_reckon_66 : decode cX2_reckon 66 = .ok (.getfield 9, 3) := by decide +kernel
theorem dX2_reckon_69 : decode cX2_reckon 69 = .ok (.iload 4, 2) := by decide +kernel
theorem dX2_reckon_71 : decode cX2_reckon 71 = .ok (.iaload, 1) := by decide +kernel
theorem dX2_reckon_72 : decode cX2_reckon 72 = .ok (.putfield 24, 3) := by decide +kernel
theorem dX2_reckon_75 : decode cX2_reckon 75 = .ok (.return_, 1) := by decide +kernel
theorem dX2_fewestTo_0 : decode cX2_fewestTo 0 = .ok (.ldc 19, 2) := by decide +kernel
theorem dX2_fewestTo_2 : decode cX2_fewestTo 2 = .ok (.istore 4, 2) := by decide +kernel
theorem dX2_fewestTo_4 : decode cX2_fewestTo 4 = .ok (.iconst 0, 1) := by decide +kernel
theorem dX2_fewestTo_5 : decode cX2_fewestTo 5 = .ok (.istore 5, 2) := by decide +kernel
theorem dX2_fewestTo_7 : decode cX2_fewestTo 7 = .ok (.iload 5, 2) := by decide +kernel
theorem dX2_fewestTo_9 : decode cX2_fewestTo 9 = .ok (.bipush 6, 2) := by decide +kernel
theorem dX2_fewestTo_11 : decode cX2_fewestTo 11 = .ok (.if_icmp .ge 47, 3) := by decide +kernel
theorem dX2_fewestTo_14 : decode cX2_fewestTo 14 = .ok (.iload_n 2, 1) := by decide +kernel
theorem dX2_fewestTo_15 : decode cX2_fewestTo 15 = .ok (.iload 5, 2) := by decide +kernel
theorem dX2_fewestTo_17 : decode cX2_fewestTo 17 = .ok (.ishr, 1) := by decide +kernel
theorem dX2_fewestTo_18 : decode cX2_fewestTo 18 = .ok (.iconst 1, 1) := by decide +kernel
theorem dX2_fewestTo_19 : decode cX2_fewestTo 19 = .ok (.iand, 1) := by decide +kernel
theorem dX2_fewestTo_20 : decode cX2_fewestTo 20 = .ok (.iconst 1, 1) := by decide +kernel
theorem dX2_fewestTo_21 : decode cX2_fewestTo 21 = .ok (.if_icmp .ne 31, 3) := by decide +kernel
theorem dX2_fewestTo_24 : decode cX2_fewestTo 24 = .ok (.aload_n 3, 1) := by decide +kernel
theorem dX2_fewestTo_25 : decode cX2_fewestTo 25 = .ok (.iload 5, 2) := by decide +kernel
theorem dX2_fewestTo_27 : decode cX2_fewestTo 27 = .ok (.iaload, 1) := by decide +kernel
theorem dX2_fewestTo_28 : decode cX2_fewestTo 28 = .ok (.iload_n 1, 1) := by decide +kernel
theorem dX2_fewestTo_29 : decode cX2_fewestTo 29 = .ok (.if_icmp .gt 23, 3) := by decide +kernel
theorem dX2_fewestTo_32 : decode cX2_fewestTo 32 = .ok (.iload 4, 2) := by decide +kernel
theorem dX2_fewestTo_34 : decode cX2_fewestTo 34 = .ok (.aload_n 0, 1) := by decide +kernel
theorem dX2_fewestTo_35 : decode cX2_fewestTo 35 = .ok (.getfield 9, 3) := by decide +kernel
theorem dX2_fewestTo_38 : decode cX2_fewestTo 38 = .ok (.iload_n 1, 1) := by decide +kernel
theorem dX2_fewestTo_39 : decode cX2_fewestTo 39 = .ok (.aload_n 3, 1) := by decide +kernel
theorem dX2_fewestTo_40 : decode cX2_fewestTo 40 = .ok (.iload 5, 2) := by decide +kernel
theorem dX2_fewestTo_42 : decode cX2_fewestTo 42 = .ok (.iaload, 1) := by decide +kernel
theorem dX2_fewestTo_43 : decode cX2_fewestTo 43 = .ok (.isub, 1) := by decide +kernel
theorem dX2_fewestTo_44 : decode cX2_fewestTo 44 = .ok (.iaload, 1) := by decide +kernel
theorem dX2_fewestTo_45 : decode cX2_fewestTo 45 = .ok (.iconst 1, 1) := by decide +kernel
theorem dX2_fewestTo_46 : decode cX2_fewestTo 46 = .ok (.iadd, 1) := by decide +kernel
theorem dX2_fewestTo_47 : decode cX2_fewestTo 47 = .ok (.invokestatic 27, 3) := by decide +kernel
theorem dX2_fewestTo_50 : decode cX2_fewestTo 50 = .ok (.istore 4, 2) := by decide +kernel
theorem dX2_fewestTo_52 : decode cX2_fewestTo 52 = .ok (.iinc 5 1, 3) := by decide +kernel
theorem dX2_fewestTo_55 : decode cX2_fewestTo 55 = .ok (.goto (-48), 3) := by decide +kernel
theorem dX2_fewestTo_58 : decode cX2_fewestTo 58 = .ok (.iload 4, 2) := by decide +kernel
theorem dX2_fewestTo_60 : decode cX2_fewestTo 60 = .ok (.ireturn, 1) := by decide +kernel
