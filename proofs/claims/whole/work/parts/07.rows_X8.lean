theorem dX8_init_0 : decode cX8_init 0 = .ok (.aload_n 0, 1) := by decide +kernel
theorem dX8_init_1 : decode cX8_init 1 = .ok (.invokespecial 3, 3) := by decide +kernel
theorem dX8_init_4 : decode cX8_init 4 = .ok (.aload_n 0, 1) := by decide +kernel
theorem dX8_init_5 : decode cX8_init 5 = .ok (.new 9, 3) := by decide +kernel
theorem dX8_init_8 : decode cX8_init 8 = .ok (.dup, 1) := by decide +kernel
theorem dX8_init_9 : decode cX8_init 9 = .ok (.invokespecial 11, 3) := by decide +kernel
theorem dX8_init_12 : decode cX8_init 12 = .ok (.putfield 12, 3) := by decide +kernel
theorem dX8_init_15 : decode cX8_init 15 = .ok (.aload_n 0, 1) := by decide +kernel
theorem dX8_init_16 : decode cX8_init 16 = .ok (.new 16, 3) := by decide +kernel
theorem dX8_init_19 : decode cX8_init 19 = .ok (.dup, 1) := by decide +kernel
theorem dX8_init_20 : decode cX8_init 20 = .ok (.invokespecial 18, 3) := by decide +kernel
theorem dX8_init_23 : decode cX8_init 23 = .ok (.putfield 19, 3) := by decide +kernel
theorem dX8_init_26 : decode cX8_init 26 = .ok (.aload_n 0, 1) := by decide +kernel
theorem dX8_init_27 : decode cX8_init 27 = .ok (.new 23, 3) := by decide +kernel
theorem dX8_init_30 : decode cX8_init 30 = .ok (.dup, 1) := by decide +kernel
theorem dX8_init_31 : decode cX8_init 31 = .ok (.invokespecial 25, 3) := by decide +kernel
theorem dX8_init_34 : decode cX8_init 34 = .ok (.putfield 26, 3) := by decide +kernel
theorem dX8_init_37 : decode cX8_init 37 = .ok (.aload_n 0, 1) := by decide +kernel
theorem dX8_init_38 : decode cX8_init 38 = .ok (.new 23, 3) := by decide +kernel
theorem dX8_init_41 : decode cX8_init 41 = .ok (.dup, 1) := by decide +kernel
theorem dX8_init_42 : decode cX8_init 42 = .ok (.invokespecial 25, 3) := by decide +kernel
theorem dX8_init_45 : decode cX8_init 45 = .ok (.putfield 30, 3) := by decide +kernel
theorem dX8_init_48 : decode cX8_init 48 = .ok (.aload_n 0, 1) := by decide +kernel
theorem dX8_init_49 : decode cX8_init 49 = .ok (.new 33, 3) := by decide +kernel
theorem dX8_init_52 : decode cX8_init 52 = .ok (.dup, 1) := by decide +kernel
theorem dX8_init_53 : decode cX8_init 53 = .ok (.invokespecial 35, 3) := by decide +kernel
theorem dX8_init_56 : decode cX8_init 56 = .ok (.putfield 36, 3) := by decide +kernel
theorem dX8_init_59 : decode cX8_init 59 = .ok (.aload_n 0, 1) := by decide +kernel
theorem dX8_init_60 : decode cX8_init 60 = .ok (.iconst 2, 1) := by decide +kernel
theorem dX8_init_61 : decode cX8_init 61 = .ok (.anewarray 33, 3) := by decide +kernel
theorem dX8_init_64 : decode cX8_init 64 = .ok (.dup, 1) := by decide +kernel
theorem dX8_init_65 : decode cX8_init 65 = .ok (.iconst 0, 1) := by decide +kernel
theorem dX8_init_66 : decode cX8_init 66 = .ok (.new 33, 3) := by decide +kernel
theorem dX8_init_69 : decode cX8_init 69 = .ok (.dup, 1) := by decide +kernel
theorem dX8_init_70 : decode cX8_init 70 = .ok (.invokespecial 35, 3) := by decide +kernel
theorem dX8_init_73 : decode cX8_init 73 = .ok (.aastore, 1) := by decide +kernel
theorem dX8_init_74 : decode cX8_init 74 = .ok (.dup, 1) := by decide +kernel
theorem dX8_init_75 : decode cX8_init 75 = .ok (.iconst 1, 1) := by decide +kernel
theorem dX8_init_76 : decode cX8_init 76 = .ok (.new 33, 3) := by decide +kernel
theorem dX8_init_79 : decode cX8_init 79 = .ok (.dup, 1) := by decide +kernel
theorem dX8_init_80 : decode cX8_init 80 = .ok (.invokespecial 35, 3) := by decide +kernel
theorem dX8_init_83 : decode cX8_init 83 = .ok (.aastore, 1) := by decide +kernel
theorem dX8_init_84 : decode cX8_init 84 = .ok (.putfield 40, 3) := by decide +kernel
theorem dX8_init_87 : decode cX8_init 87 = .ok (.aload_n 0, 1) := by decide +kernel
theorem dX8_init_88 : decode cX8_init 88 = .ok (.new 44, 3) := by decide +kernel
theorem dX8_init_91 : decode cX8_init 91 = .ok (.dup, 1) := by decide +kernel
theorem dX8_init_92 : decode cX8_init 92 = .ok (.invokespecial 46, 3) := by decide +kernel
theorem dX8_init_95 : decode cX8_init 95 = .ok (.putfield 47, 3) := by decide +kernel
theorem dX8_init_98 : decode cX8_init 98 = .ok (.aload_n 0, 1) := by decide +kernel
theorem dX8_init_99 : decode cX8_init 99 = .ok (.new 51, 3) := by decide +kernel
theorem dX8_init_102 : decode cX8_init 102 = .ok (.dup, 1) := by decide +kernel
theorem dX8_init_103 : decode cX8_init 103 = .ok (.invokespecial 53, 3) := by decide +kernel
theorem dX8_init_106 : decode cX8_init 106 = .ok (.putfield 54, 3) := by decide +kernel
theorem dX8_init_109 : decode cX8_init 109 = .ok (.aload_n 0, 1) := by decide +kernel
theorem dX8_init_110 : decode cX8_init 110 = .ok (.new 58, 3) := by decide +kernel
theorem dX8_init_113 : decode cX8_init 113 = .ok (.dup, 1) := by decide +kernel
theorem dX8_init_114 : decode cX8_init 114 = .ok (.invokespecial 60, 3) := by decide +kernel
theorem dX8_init_117 : decode cX8_init 117 = .ok (.putfield 61, 3) := by decide +kernel
theorem dX8_init_120 : decode cX8_init 120 = .ok (.aload_n 0, 1) := by decide +kernel
theorem dX8_init_121 : decode cX8_init 121 = .ok (.new 65, 3) := by decide +kernel
theorem dX8_init_124 : decode cX8_init 124 = .ok (.dup, 1) := by decide +kernel
theorem dX8_init_125 : decode cX8_init 125 = .ok (.invokespecial 67, 3) := by decide +kernel
theorem dX8_init_128 : decode cX8_init 128 = .ok (.putfield 68, 3) := by decide +kernel
theorem dX8_init_131 : decode cX8_init 131 = .ok (.return_, 1) := by decide +kernel
theorem dX8_write_0 : decode cX8_write 0 = .ok (.iload_n 1, 1) := by decide +kernel
theorem dX8_write_1 : decode cX8_write 1 = .ok (.iconst 1, 1) := by decide +kernel
theorem dX8_write_2 : decode cX8_write 2 = .ok (.bipush 8, 2) := by decide +kernel
theorem dX8_write_4 : decode cX8_write 4 = .ok (.invokestatic 72, 3) := by decide +kernel
theorem dX8_write_7 : decode cX8_write 7 = .ok (.ifCond .ne 6, 3) := by decide +kernel
theorem dX8_write_10 : decode cX8_write 10 = .ok (.bipush (-2), 2) := by decide +kernel
theorem dX8_write_12 : decode cX8_write 12 = .ok (.ireturn, 1) := by decide +kernel
theorem dX8_write_13 : decode cX8_write 13 = .ok (.aload_n 0, 1) := by decide +kernel
theorem dX8_write_14 : decode cX8_write 14 = .ok (.getfield 12, 3) := by decide +kernel
theorem dX8_write_17 : decode cX8_write 17 = .ok (.getfield 76, 3) := by decide +kernel
theorem dX8_write_20 : decode cX8_write 20 = .ok (.iload_n 1, 1) := by decide +kernel
theorem dX8_write_21 : decode cX8_write 21 = .ok (.iadd, 1) := by decide +kernel
theorem dX8_write_22 : decode cX8_write 22 = .ok (.bipush 72, 2) := by decide +kernel
theorem dX8_write_24 : decode cX8_write 24 = .ok (.if_icmp .le 6, 3) := by decide +kernel
theorem dX8_write_27 : decode cX8_write 27 = .ok (.bipush (-4), 2) := by decide +kernel
theorem dX8_write_29 : decode cX8_write 29 = .ok (.ireturn, 1) := by decide +kernel
theorem dX8_write_30 : decode cX8_write 30 = .ok (.aload_n 0, 1) := by decide +kernel
theorem dX8_write_31 : decode cX8_write 31 = .ok (.getfield 12, 3) := by decide +kernel
theorem dX8_write_34 : decode cX8_write 34 = .ok (.iload_n 1, 1) := by decide +kernel
theorem dX8_write_35 : decode cX8_write 35 = .ok (.lload_n 2, 1) := by decide +kernel
theorem dX8_write_36 : decode cX8_write 36 = .ok (.invokevirtual 80, 3) := by decide +kernel
theorem dX8_write_39 : decode cX8_write 39 = .ok (.aload_n 0, 1) := by decide +kernel
theorem dX8_write_40 : decode cX8_write 40 = .ok (.getfield 12, 3) := by decide +kernel
theorem dX8_write_43 : decode cX8_write 43 = .ok (.getfield 76, 3) := by decide +kernel
theorem dX8_write_46 : decode cX8_write 46 = .ok (.ireturn, 1) := by decide +kernel
theorem dX8_wipe_0 : decode cX8_wipe 0 = .ok (.aload_n 0, 1) := by decide +kernel
theorem dX8_wipe_1 : decode cX8_wipe 1 = .ok (.getfield 12, 3) := by decide +kernel
theorem dX8_wipe_4 : decode cX8_wipe 4 = .ok (.getfield 76, 3) := by decide +kernel
theorem dX8_wipe_7 : decode cX8_wipe 7 = .ok (.istore_n 1, 1) := by decide +kernel
theorem dX8_wipe_8 : decode cX8_wipe 8 = .ok (.aload_n 0, 1) := by decide +kernel
theorem dX8_wipe_9 : decode cX8_wipe 9 = .ok (.getfield 12, 3) := by decide +kernel
theorem dX8_wipe_12 : decode cX8_wipe 12 = .ok (.iconst 0, 1) := by decide +kernel
theorem dX8_wipe_13 : decode cX8_wipe 13 = .ok (.putfield 76, 3) := by decide +kernel
theorem dX8_wipe_16 : decode cX8_wipe 16 = .ok (.iload_n 1, 1) := by decide +kernel
theorem dX8_wipe_17 : decode cX8_wipe 17 = .ok (.ireturn, 1) := by decide +kernel
theorem dX8_fault_0 : decode cX8_fault 0 = .ok (.aload_n 0, 1) := by decide +kernel
theorem dX8_fault_1 : decode cX8_fault 1 = .ok (.getfield 19, 3) := by decide +kernel
theorem dX8_fault_4 : decode cX8_fault 4 = .ok (.aload_n 0, 1) := by decide +kernel
theorem dX8_fault_5 : decode cX8_fault 5 = .ok (.getfield 12, 3) := by decide +kernel
theorem dX8_fault_8 : decode cX8_fault 8 = .ok (.aload_n 0, 1) := by decide +kernel
theorem dX8_fault_9 : decode cX8_fault 9 = .ok (.getfield 30, 3) := by decide +kernel
theorem dX8_fault_12 : decode cX8_fault 12 = .ok (.invokevirtual 84, 3) := by decide +kernel
theorem dX8_fault_15 : decode cX8_fault 15 = .ok (.ireturn, 1) := by decide +kernel
theorem dX8_market_0 : decode cX8_market 0 = .ok (.aload_n 0, 1) := by decide +kernel
theorem dX8_market_1 : decode cX8_market 1 = .ok (.getfield 19, 3) := by decide +kernel
theorem dX8_market_4 : decode cX8_market 4 = .ok (.aload_n 0, 1) := by decide +kernel
theorem dX8_market_5 : decode cX8_market 5 = .ok (.getfield 12, 3) := by decide +kernel
theorem dX8_market_8 : decode cX8_market 8 = .ok (.aload_n 0, 1) := by decide +kernel
theorem dX8_market_9 : decode cX8_market 9 = .ok (.getfield 30, 3) := by decide +kernel
theorem dX8_market_12 : decode cX8_market 12 = .ok (.invokevirtual 84, 3) := by decide +kernel
theorem dX8_market_15 : decode cX8_market 15 = .ok (.bipush (-9), 2) := by decide +kernel
theorem dX8_market_17 : decode cX8_market 17 = .ok (.if_icmp .eq 6, 3) := by decide +kernel
theorem dX8_market_20 : decode cX8_market 20 = .ok (.bipush (-3), 2) := by decide +kernel
theorem dX8_market_22 : decode cX8_market 22 = .ok (.ireturn, 1) := by decide +kernel
theorem dX8_market_23 : decode cX8_market 23 = .ok (.aload_n 0, 1) := by decide +kernel
theorem dX8_market_24 : decode cX8_market 24 = .ok (.getfield 26, 3) := by decide +kernel
theorem dX8_market_27 : decode cX8_market 27 = .ok (.astore_n 1, 1) := by decide +kernel
theorem dX8_market_28 : decode cX8_market 28 = .ok (.aload_n 0, 1) := by decide +kernel
theorem dX8_market_29 : decode cX8_market 29 = .ok (.aload_n 0, 1) := by decide +kernel
theorem dX8_market_30 : decode cX8_market 30 = .ok (.getfield 30, 3) := by decide +kernel
theorem dX8_market_33 : decode cX8_market 33 = .ok (.putfield 26, 3) := by decide +kernel
theorem dX8_market_36 : decode cX8_market 36 = .ok (.aload_n 0, 1) := by decide +kernel
theorem dX8_market_37 : decode cX8_market 37 = .ok (.aload_n 1, 1) := by decide +kernel
theorem dX8_market_38 : decode cX8_market 38 = .ok (.putfield 30, 3) := by decide +kernel
theorem dX8_market_41 : decode cX8_market 41 = .ok (.aload_n 0, 1) := by decide +kernel
theorem dX8_market_42 : decode cX8_market 42 = .ok (.getfield 36, 3) := by decide +kernel
theorem dX8_market_45 : decode cX8_market 45 = .ok (.aload_n 0, 1) := by decide +kernel
theorem dX8_market_46 : decode cX8_market 46 = .ok (.getfield 26, 3) := by decide +kernel
theorem dX8_market_49 : decode cX8_market 49 = .ok (.invokevirtual 88, 3) := by decide +kernel
theorem dX8_market_52 : decode cX8_market 52 = .ok (.iconst 0, 1) := by decide +kernel
theorem dX8_market_53 : decode cX8_market 53 = .ok (.istore_n 2, 1) := by decide +kernel
theorem dX8_market_54 : decode cX8_market 54 = .ok (.iload_n 2, 1) := by decide +kernel
theorem dX8_market_55 : decode cX8_market 55 = .ok (.iconst 2, 1) := by decide +kernel
theorem dX8_market_56 : decode cX8_market 56 = .ok (.if_icmp .ge 19, 3) := by decide +kernel
theorem dX8_market_59 : decode cX8_market 59 = .ok (.aload_n 0, 1) := by decide +kernel
theorem dX8_market_60 : decode cX8_market 60 = .ok (.getfield 40, 3) := by decide +kernel
theorem dX8_market_63 : decode cX8_market 63 = .ok (.iload_n 2, 1) := by decide +kernel
theorem dX8_market_64 : decode cX8_market 64 = .ok (.aaload, 1) := by decide +kernel
theorem dX8_market_65 : decode cX8_market 65 = .ok (.iconst 0, 1) := by decide +kernel
theorem dX8_market_66 : decode cX8_market 66 = .ok (.putfield 92, 3) := by decide +kernel
theorem dX8_market_69 : decode cX8_market 69 = .ok (.iinc 2 1, 3) := by decide +kernel
theorem dX8_market_72 : decode cX8_market 72 = .ok (.goto (-18), 3) := by decide +kernel
theorem dX8_market_75 : decode cX8_market 75 = .ok (.aload_n 0, 1) := by decide +kernel
theorem dX8_market_76 : decode cX8_market 76 = .ok (.getfield 26, 3) := by decide +kernel
theorem dX8_market_79 : decode cX8_market 79 = .ok (.getfield 96, 3) := by decide +kernel
theorem dX8_market_82 : decode cX8_market 82 = .ok (.ireturn, 1) := by decide +kernel
theorem dX8_person_0 : decode cX8_person 0 = .ok (.aload_n 0, 1) := by decide +kernel
theorem dX8_person_1 : decode cX8_person 1 = .ok (.getfield 26, 3) := by decide +kernel
theorem dX8_person_4 : decode cX8_person 4 = .ok (.iload_n 1, 1) := by decide +kernel
theorem dX8_person_5 : decode cX8_person 5 = .ok (.invokevirtual 99, 3) := by decide +kernel
theorem dX8_person_8 : decode cX8_person 8 = .ok (.ifCond .ne 5, 3) := by decide +kernel
theorem dX8_person_11 : decode cX8_person 11 = .ok (.iconst (-1), 1) := by decide +kernel
theorem dX8_person_12 : decode cX8_person 12 = .ok (.ireturn, 1) := by decide +kernel
theorem dX8_person_13 : decode cX8_person 13 = .ok (.iload_n 2, 1) := by decide +kernel
theorem dX8_person_14 : decode cX8_person 14 = .ok (.tableswitch 97 0 5 #[38, 48, 58, 64, 70, 80], 38) := by decide +kernel
theorem dX8_person_52 : decode cX8_person 52 = .ok (.aload_n 0, 1) := by decide +kernel
theorem dX8_person_53 : decode cX8_person 53 = .ok (.getfield 36, 3) := by decide +kernel
theorem dX8_person_56 : decode cX8_person 56 = .ok (.getfield 103, 3) := by decide +kernel
theorem dX8_person_59 : decode cX8_person 59 = .ok (.iload_n 1, 1) := by decide +kernel
theorem dX8_person_60 : decode cX8_person 60 = .ok (.iaload, 1) := by decide +kernel
theorem dX8_person_61 : decode cX8_person 61 = .ok (.ireturn, 1) := by decide +kernel
theorem dX8_person_62 : decode cX8_person 62 = .ok (.aload_n 0, 1) := by decide +kernel
theorem dX8_person_63 : decode cX8_person 63 = .ok (.getfield 26, 3) := by decide +kernel
theorem dX8_person_66 : decode cX8_person 66 = .ok (.getfield 107, 3) := by decide +kernel
theorem dX8_person_69 : decode cX8_person 69 = .ok (.iload_n 1, 1) := by decide +kernel
theorem dX8_person_70 : decode cX8_person 70 = .ok (.iaload, 1) := by decide +kernel
theorem dX8_person_71 : decode cX8_person 71 = .ok (.ireturn, 1) := by decide +kernel
theorem dX8_person_72 : decode cX8_person 72 = .ok (.aload_n 0, 1) := by decide +kernel
theorem dX8_person_73 : decode cX8_person 73 = .ok (.iload_n 1, 1) := by decide +kernel
theorem dX8_person_74 : decode cX8_person 74 = .ok (.invokevirtual 110, 3) := by decide +kernel
theorem dX8_person_77 : decode cX8_person 77 = .ok (.ireturn, 1) := by decide +kernel
theorem dX8_person_78 : decode cX8_person 78 = .ok (.aload_n 0, 1) := by decide +kernel
theorem dX8_person_79 : decode cX8_person 79 = .ok (.iload_n 1, 1) := by decide +kernel
theorem dX8_person_80 : decode cX8_person 80 = .ok (.invokevirtual 114, 3) := by decide +kernel
theorem dX8_person_83 : decode cX8_person 83 = .ok (.ireturn, 1) := by decide +kernel
theorem dX8_person_84 : decode cX8_person 84 = .ok (.aload_n 0, 1) := by decide +kernel
theorem dX8_person_85 : decode cX8_person 85 = .ok (.getfield 26, 3) := by decide +kernel
theorem dX8_person_88 : decode cX8_person 88 = .ok (.getfield 117, 3) := by decide +kernel
theorem dX8_person_91 : decode cX8_person 91 = .ok (.iload_n 1, 1) := by decide +kernel
theorem dX8_person_92 : decode cX8_person 92 = .ok (.iaload, 1) := by decide +kernel
theorem dX8_person_93 : decode cX8_person 93 = .ok (.ireturn, 1) := by decide +kernel
theorem dX8_person_94 : decode cX8_person 94 = .ok (.aload_n 0, 1) := by decide +kernel
theorem dX8_person_95 : decode cX8_person 95 = .ok (.getfield 26, 3) := by decide +kernel
theorem dX8_person_98 : decode cX8_person 98 = .ok (.iload_n 1, 1) := by decide +kernel
theorem dX8_person_99 : decode cX8_person 99 = .ok (.invokevirtual 120, 3) := by decide +kernel
theorem dX8_person_102 : decode cX8_person 102 = .ok (.ifCond .eq 7, 3) := by decide +kernel
theorem dX8_person_105 : decode cX8_person 105 = .ok (.iconst 1, 1) := by decide +kernel
theorem dX8_person_106 : decode cX8_person 106 = .ok (.goto 4, 3) := by decide +kernel
theorem dX8_person_109 : decode cX8_person 109 = .ok (.iconst 0, 1) := by decide +kernel
theorem dX8_person_110 : decode cX8_person 110 = .ok (.ireturn, 1) := by decide +kernel
theorem dX8_person_111 : decode cX8_person 111 = .ok (.bipush (-2), 2) := by decide +kernel
theorem dX8_person_113 : decode cX8_person 113 = .ok (.ireturn, 1) := by decide +kernel
theorem dX8_counter_0 : decode cX8_counter 0 = .ok (.aload_n 0, 1) := by decide +kernel
theorem dX8_counter_1 : decode cX8_counter 1 = .ok (.getfield 26, 3) := by decide +kernel
theorem dX8_counter_4 : decode cX8_counter 4 = .ok (.iload_n 1, 1) := by decide +kernel
theorem dX8_counter_5 : decode cX8_counter 5 = .ok (.invokevirtual 123, 3) := by decide +kernel
theorem dX8_counter_8 : decode cX8_counter 8 = .ok (.ifCond .ne 5, 3) := by decide +kernel
theorem dX8_counter_11 : decode cX8_counter 11 = .ok (.iconst (-1), 1) := by decide +kernel
theorem dX8_counter_12 : decode cX8_counter 12 = .ok (.ireturn, 1) := by decide +kernel
theorem dX8_counter_13 : decode cX8_counter 13 = .ok (.iload_n 2, 1) := by decide +kernel
theorem dX8_counter_14 : decode cX8_counter 14 = .ok (.tableswitch 94 0 4 #[34, 44, 54, 73, 82], 34) := by decide +kernel
theorem dX8_counter_48 : decode cX8_counter 48 = .ok (.aload_n 0, 1) := by decide +kernel
theorem dX8_counter_49 : decode cX8_counter 49 = .ok (.getfield 26, 3) := by decide +kernel
theorem dX8_counter_52 : decode cX8_counter 52 = .ok (.getfield 126, 3) := by decide +kernel
theorem dX8_counter_55 : decode cX8_counter 55 = .ok (.iload_n 1, 1) := by decide +kernel
theorem dX8_counter_56 : decode cX8_counter 56 = .ok (.iaload, 1) := by decide +kernel
theorem dX8_counter_57 : decode cX8_counter 57 = .ok (.ireturn, 1) := by decide +kernel
theorem dX8_counter_58 : decode cX8_counter 58 = .ok (.aload_n 0, 1) := by decide +kernel
theorem dX8_counter_59 : decode cX8_counter 59 = .ok (.getfield 36, 3) := by decide +kernel
theorem dX8_counter_62 : decode cX8_counter 62 = .ok (.getfield 129, 3) := by decide +kernel
theorem dX8_counter_65 : decode cX8_counter 65 = .ok (.iload_n 1, 1) := by decide +kernel
theorem dX8_counter_66 : decode cX8_counter 66 = .ok (.iaload, 1) := by decide +kernel
theorem dX8_counter_67 : decode cX8_counter 67 = .ok (.ireturn, 1) := by decide +kernel
theorem dX8_counter_68 : decode cX8_counter 68 = .ok (.aload_n 0, 1) := by decide +kernel
theorem dX8_counter_69 : decode cX8_counter 69 = .ok (.getfield 36, 3) := by decide +kernel
theorem dX8_counter_72 : decode cX8_counter 72 = .ok (.iload_n 1, 1) := by decide +kernel
theorem dX8_counter_73 : decode cX8_counter 73 = .ok (.invokevirtual 132, 3) := by decide +kernel
theorem dX8_counter_76 : decode cX8_counter 76 = .ok (.aload_n 0, 1) := by decide +kernel
theorem dX8_counter_77 : decode cX8_counter 77 = .ok (.getfield 26, 3) := by decide +kernel
theorem dX8_counter_80 : decode cX8_counter 80 = .ok (.getfield 126, 3) := by decide +kernel
theorem dX8_counter_83 : decode cX8_counter 83 = .ok (.iload_n 1, 1) := by decide +kernel
theorem dX8_counter_84 : decode cX8_counter 84 = .ok (.iaload, 1) := by decide +kernel
theorem dX8_counter_85 : decode cX8_counter 85 = .ok (.imul, 1) := by decide +kernel
theorem dX8_counter_86 : decode cX8_counter 86 = .ok (.ireturn, 1) := by decide +kernel
theorem dX8_counter_87 : decode cX8_counter 87 = .ok (.aload_n 0, 1) := by decide +kernel
theorem dX8_counter_88 : decode cX8_counter 88 = .ok (.getfield 36, 3) := by decide +kernel
theorem dX8_counter_91 : decode cX8_counter 91 = .ok (.iload_n 1, 1) := by decide +kernel
theorem dX8_counter_92 : decode cX8_counter 92 = .ok (.invokevirtual 132, 3) := by decide +kernel
theorem dX8_counter_95 : decode cX8_counter 95 = .ok (.ireturn, 1) := by decide +kernel
theorem dX8_counter_96 : decode cX8_counter 96 = .ok (.aload_n 0, 1) := by decide +kernel
theorem dX8_counter_97 : decode cX8_counter 97 = .ok (.getfield 36, 3) := by decide +kernel
theorem dX8_counter_100 : decode cX8_counter 100 = .ok (.iload_n 1, 1) := by decide +kernel
theorem dX8_counter_101 : decode cX8_counter 101 = .ok (.invokevirtual 135, 3) := by decide +kernel
theorem dX8_counter_104 : decode cX8_counter 104 = .ok (.ldc 138, 2) := by decide +kernel
theorem dX8_counter_106 : decode cX8_counter 106 = .ok (.iadd, 1) := by decide +kernel
theorem dX8_counter_107 : decode cX8_counter 107 = .ok (.ireturn, 1) := by decide +kernel
theorem dX8_counter_108 : decode cX8_counter 108 = .ok (.bipush (-2), 2) := by decide +kernel
theorem dX8_counter_110 : decode cX8_counter 110 = .ok (.ireturn, 1) := by decide +kernel
theorem dX8_barred_0 : decode cX8_barred 0 = .ok (.aload_n 0, 1) := by decide +kernel
theorem dX8_barred_1 : decode cX8_barred 1 = .ok (.getfield 26, 3) := by decide +kernel
theorem dX8_barred_4 : decode cX8_barred 4 = .ok (.iload_n 1, 1) := by decide +kernel
theorem dX8_barred_5 : decode cX8_barred 5 = .ok (.invokevirtual 99, 3) := by decide +kernel
theorem dX8_barred_8 : decode cX8_barred 8 = .ok (.ifCond .eq 14, 3) := by decide +kernel
theorem dX8_barred_11 : decode cX8_barred 11 = .ok (.aload_n 0, 1) := by decide +kernel
theorem dX8_barred_12 : decode cX8_barred 12 = .ok (.getfield 26, 3) := by decide +kernel
theorem dX8_barred_15 : decode cX8_barred 15 = .ok (.iload_n 2, 1) := by decide +kernel
theorem dX8_barred_16 : decode cX8_barred 16 = .ok (.invokevirtual 123, 3) := by decide +kernel
theorem dX8_barred_19 : decode cX8_barred 19 = .ok (.ifCond .ne 5, 3) := by decide +kernel
theorem dX8_barred_22 : decode cX8_barred 22 = .ok (.iconst (-1), 1) := by decide +kernel
theorem dX8_barred_23 : decode cX8_barred 23 = .ok (.ireturn, 1) := by decide +kernel
theorem dX8_barred_24 : decode cX8_barred 24 = .ok (.aload_n 0, 1) := by decide +kernel
theorem dX8_barred_25 : decode cX8_barred 25 = .ok (.getfield 26, 3) := by decide +kernel
theorem dX8_barred_28 : decode cX8_barred 28 = .ok (.iload_n 1, 1) := by decide +kernel
theorem dX8_barred_29 : decode cX8_barred 29 = .ok (.iload_n 2, 1) := by decide +kernel
theorem dX8_barred_30 : decode cX8_barred 30 = .ok (.invokevirtual 139, 3) := by decide +kernel
theorem dX8_barred_33 : decode cX8_barred 33 = .ok (.ifCond .eq 7, 3) := by decide +kernel
theorem dX8_barred_36 : decode cX8_barred 36 = .ok (.iconst 1, 1) := by decide +kernel
theorem dX8_barred_37 : decode cX8_barred 37 = .ok (.goto 4, 3) := by decide +kernel
theorem dX8_barred_40 : decode cX8_barred 40 = .ok (.iconst 0, 1) := by decide +kernel
theorem dX8_barred_41 : decode cX8_barred 41 = .ok (.ireturn, 1) := by decide +kernel
theorem dX8_plaster_0 : decode cX8_plaster 0 = .ok (.aload_n 0, 1) := by decide +kernel
theorem dX8_plaster_1 : decode cX8_plaster 1 = .ok (.getfield 26, 3) := by decide +kernel
theorem dX8_plaster_4 : decode cX8_plaster 4 = .ok (.iload_n 1, 1) := by decide +kernel
theorem dX8_plaster_5 : decode cX8_plaster 5 = .ok (.invokevirtual 99, 3) := by decide +kernel
theorem dX8_plaster_8 : decode cX8_plaster 8 = .ok (.ifCond .ne 5, 3) := by decide +kernel
theorem dX8_plaster_11 : decode cX8_plaster 11 = .ok (.iconst (-1), 1) := by decide +kernel
theorem dX8_plaster_12 : decode cX8_plaster 12 = .ok (.ireturn, 1) := by decide +kernel
theorem dX8_plaster_13 : decode cX8_plaster 13 = .ok (.iload_n 2, 1) := by decide +kernel
theorem dX8_plaster_14 : decode cX8_plaster 14 = .ok (.iconst 1, 1) := by decide +kernel
theorem dX8_plaster_15 : decode cX8_plaster 15 = .ok (.bipush 99, 2) := by decide +kernel
theorem dX8_plaster_17 : decode cX8_plaster 17 = .ok (.invokestatic 72, 3) := by decide +kernel
theorem dX8_plaster_20 : decode cX8_plaster 20 = .ok (.ifCond .ne 6, 3) := by decide +kernel
theorem dX8_plaster_23 : decode cX8_plaster 23 = .ok (.bipush (-2), 2) := by decide +kernel
theorem dX8_plaster_25 : decode cX8_plaster 25 = .ok (.ireturn, 1) := by decide +kernel
theorem dX8_plaster_26 : decode cX8_plaster 26 = .ok (.aload_n 0, 1) := by decide +kernel
theorem dX8_plaster_27 : decode cX8_plaster 27 = .ok (.getfield 36, 3) := by decide +kernel
theorem dX8_plaster_30 : decode cX8_plaster 30 = .ok (.getfield 103, 3) := by decide +kernel
theorem dX8_plaster_33 : decode cX8_plaster 33 = .ok (.iload_n 1, 1) := by decide +kernel
theorem dX8_plaster_34 : decode cX8_plaster 34 = .ok (.iaload, 1) := by decide +kernel
theorem dX8_plaster_35 : decode cX8_plaster 35 = .ok (.istore_n 3, 1) := by decide +kernel
theorem dX8_plaster_36 : decode cX8_plaster 36 = .ok (.aload_n 0, 1) := by decide +kernel
theorem dX8_plaster_37 : decode cX8_plaster 37 = .ok (.getfield 36, 3) := by decide +kernel
theorem dX8_plaster_40 : decode cX8_plaster 40 = .ok (.getfield 103, 3) := by decide +kernel
theorem dX8_plaster_43 : decode cX8_plaster 43 = .ok (.iload_n 1, 1) := by decide +kernel
theorem dX8_plaster_44 : decode cX8_plaster 44 = .ok (.iload_n 2, 1) := by decide +kernel
theorem dX8_plaster_45 : decode cX8_plaster 45 = .ok (.iastore, 1) := by decide +kernel
theorem dX8_plaster_46 : decode cX8_plaster 46 = .ok (.iload_n 3, 1) := by decide +kernel
theorem dX8_plaster_47 : decode cX8_plaster 47 = .ok (.ireturn, 1) := by decide +kernel
theorem dX8_common_0 : decode cX8_common 0 = .ok (.iload_n 1, 1) := by decide +kernel
theorem dX8_common_1 : decode cX8_common 1 = .ok (.iconst 1, 1) := by decide +kernel
theorem dX8_common_2 : decode cX8_common 2 = .ok (.bipush 99, 2) := by decide +kernel
theorem dX8_common_4 : decode cX8_common 4 = .ok (.invokestatic 72, 3) := by decide +kernel
theorem dX8_common_7 : decode cX8_common 7 = .ok (.ifCond .ne 6, 3) := by decide +kernel
theorem dX8_common_10 : decode cX8_common 10 = .ok (.bipush (-2), 2) := by decide +kernel
theorem dX8_common_12 : decode cX8_common 12 = .ok (.ireturn, 1) := by decide +kernel
theorem dX8_common_13 : decode cX8_common 13 = .ok (.aload_n 0, 1) := by decide +kernel
theorem dX8_common_14 : decode cX8_common 14 = .ok (.getfield 36, 3) := by decide +kernel
theorem dX8_common_17 : decode cX8_common 17 = .ok (.getfield 143, 3) := by decide +kernel
theorem dX8_common_20 : decode cX8_common 20 = .ok (.istore_n 2, 1) := by decide +kernel
theorem dX8_common_21 : decode cX8_common 21 = .ok (.aload_n 0, 1) := by decide +kernel
theorem dX8_common_22 : decode cX8_common 22 = .ok (.getfield 36, 3) := by decide +kernel
theorem dX8_common_25 : decode cX8_common 25 = .ok (.iload_n 1, 1) := by decide +kernel
theorem dX8_common_26 : decode cX8_common 26 = .ok (.putfield 143, 3) := by decide +kernel
theorem dX8_common_29 : decode cX8_common 29 = .ok (.iload_n 2, 1) := by decide +kernel
theorem dX8_common_30 : decode cX8_common 30 = .ok (.ireturn, 1) := by decide +kernel
theorem dX8_buy_0 : decode cX8_buy 0 = .ok (.aload_n 0, 1) := by decide +kernel
theorem dX8_buy_1 : decode cX8_buy 1 = .ok (.getfield 26, 3) := by decide +kernel
theorem dX8_buy_4 : decode cX8_buy 4 = .ok (.iload_n 1, 1) := by decide +kernel
theorem dX8_buy_5 : decode cX8_buy 5 = .ok (.invokevirtual 99, 3) := by decide +kernel
theorem dX8_buy_8 : decode cX8_buy 8 = .ok (.ifCond .eq 14, 3) := by decide +kernel
theorem dX8_buy_11 : decode cX8_buy 11 = .ok (.aload_n 0, 1) := by decide +kernel
theorem dX8_buy_12 : decode cX8_buy 12 = .ok (.getfield 26, 3) := by decide +kernel
theorem dX8_buy_15 : decode cX8_buy 15 = .ok (.iload_n 2, 1) := by decide +kernel
theorem dX8_buy_16 : decode cX8_buy 16 = .ok (.invokevirtual 123, 3) := by decide +kernel
theorem dX8_buy_19 : decode cX8_buy 19 = .ok (.ifCond .ne 5, 3) := by decide +kernel
theorem dX8_buy_22 : decode cX8_buy 22 = .ok (.iconst (-1), 1) := by decide +kernel
theorem dX8_buy_23 : decode cX8_buy 23 = .ok (.ireturn, 1) := by decide +kernel
theorem dX8_buy_24 : decode cX8_buy 24 = .ok (.iload_n 3, 1) := by decide +kernel
theorem dX8_buy_25 : decode cX8_buy 25 = .ok (.iconst 1, 1) := by decide +kernel
theorem dX8_buy_26 : decode cX8_buy 26 = .ok (.bipush 99, 2) := by decide +kernel
theorem dX8_buy_28 : decode cX8_buy 28 = .ok (.invokestatic 72, 3) := by decide +kernel
theorem dX8_buy_31 : decode cX8_buy 31 = .ok (.ifCond .ne 6, 3) := by decide +kernel
theorem dX8_buy_34 : decode cX8_buy 34 = .ok (.bipush (-2), 2) := by decide +kernel
theorem dX8_buy_36 : decode cX8_buy 36 = .ok (.ireturn, 1) := by decide +kernel
theorem dX8_buy_37 : decode cX8_buy 37 = .ok (.iload_n 3, 1) := by decide +kernel
theorem dX8_buy_38 : decode cX8_buy 38 = .ok (.aload_n 0, 1) := by decide +kernel
theorem dX8_buy_39 : decode cX8_buy 39 = .ok (.getfield 36, 3) := by decide +kernel
theorem dX8_buy_42 : decode cX8_buy 42 = .ok (.getfield 103, 3) := by decide +kernel
theorem dX8_buy_45 : decode cX8_buy 45 = .ok (.iload_n 1, 1) := by decide +kernel
theorem dX8_buy_46 : decode cX8_buy 46 = .ok (.iaload, 1) := by decide +kernel
theorem dX8_buy_47 : decode cX8_buy 47 = .ok (.imul, 1) := by decide +kernel
theorem dX8_buy_48 : decode cX8_buy 48 = .ok (.istore 4, 2) := by decide +kernel
theorem dX8_buy_50 : decode cX8_buy 50 = .ok (.aload_n 0, 1) := by decide +kernel
theorem dX8_buy_51 : decode cX8_buy 51 = .ok (.getfield 26, 3) := by decide +kernel
theorem dX8_buy_54 : decode cX8_buy 54 = .ok (.iload_n 1, 1) := by decide +kernel
theorem dX8_buy_55 : decode cX8_buy 55 = .ok (.iload_n 2, 1) := by decide +kernel
theorem dX8_buy_56 : decode cX8_buy 56 = .ok (.invokevirtual 139, 3) := by decide +kernel
theorem dX8_buy_59 : decode cX8_buy 59 = .ok (.ifCond .ne 17, 3) := by decide +kernel
theorem dX8_buy_62 : decode cX8_buy 62 = .ok (.iload 4, 2) := by decide +kernel
theorem dX8_buy_64 : decode cX8_buy 64 = .ok (.aload_n 0, 1) := by decide +kernel
theorem dX8_buy_65 : decode cX8_buy 65 = .ok (.getfield 36, 3) := by decide +kernel
theorem dX8_buy_68 : decode cX8_buy 68 = .ok (.getfield 129, 3) := by decide +kernel
theorem dX8_buy_71 : decode cX8_buy 71 = .ok (.iload_n 2, 1) := by decide +kernel
theorem dX8_buy_72 : decode cX8_buy 72 = .ok (.iaload, 1) := by decide +kernel
theorem dX8_buy_73 : decode cX8_buy 73 = .ok (.if_icmp .le 6, 3) := by decide +kernel
theorem dX8_buy_76 : decode cX8_buy 76 = .ok (.bipush (-3), 2) := by decide +kernel
theorem dX8_buy_78 : decode cX8_buy 78 = .ok (.ireturn, 1) := by decide +kernel
theorem dX8_buy_79 : decode cX8_buy 79 = .ok (.aload_n 0, 1) := by decide +kernel
theorem dX8_buy_80 : decode cX8_buy 80 = .ok (.getfield 36, 3) := by decide +kernel
theorem dX8_buy_83 : decode cX8_buy 83 = .ok (.getfield 146, 3) := by decide +kernel
theorem dX8_buy_86 : decode cX8_buy 86 = .ok (.bipush 12, 2) := by decide +kernel
theorem dX8_buy_88 : decode cX8_buy 88 = .ok (.if_icmp .lt 6, 3) := by decide +kernel
theorem dX8_buy_91 : decode cX8_buy 91 = .ok (.bipush (-4), 2) := by decide +kernel
theorem dX8_buy_93 : decode cX8_buy 93 = .ok (.ireturn, 1) := by decide +kernel
theorem dX8_buy_94 : decode cX8_buy 94 = .ok (.aload_n 0, 1) := by decide +kernel
theorem dX8_buy_95 : decode cX8_buy 95 = .ok (.getfield 36, 3) := by decide +kernel
theorem dX8_buy_98 : decode cX8_buy 98 = .ok (.iload_n 1, 1) := by decide +kernel
theorem dX8_buy_99 : decode cX8_buy 99 = .ok (.iload_n 2, 1) := by decide +kernel
theorem dX8_buy_100 : decode cX8_buy 100 = .ok (.iload_n 3, 1) := by decide +kernel
theorem dX8_buy_101 : decode cX8_buy 101 = .ok (.invokevirtual 149, 3) := by decide +kernel
theorem dX8_buy_104 : decode cX8_buy 104 = .ok (.iload 4, 2) := by decide +kernel
theorem dX8_buy_106 : decode cX8_buy 106 = .ok (.ireturn, 1) := by decide +kernel
theorem dX8_undo_0 : decode cX8_undo 0 = .ok (.aload_n 0, 1) := by decide +kernel
theorem dX8_undo_1 : decode cX8_undo 1 = .ok (.getfield 36, 3) := by decide +kernel
theorem dX8_undo_4 : decode cX8_undo 4 = .ok (.getfield 146, 3) := by decide +kernel
theorem dX8_undo_7 : decode cX8_undo 7 = .ok (.ifCond .gt 6, 3) := by decide +kernel
theorem dX8_undo_10 : decode cX8_undo 10 = .ok (.bipush (-3), 2) := by decide +kernel
theorem dX8_undo_12 : decode cX8_undo 12 = .ok (.ireturn, 1) := by decide +kernel
theorem dX8_undo_13 : decode cX8_undo 13 = .ok (.aload_n 0, 1) := by decide +kernel
theorem dX8_undo_14 : decode cX8_undo 14 = .ok (.getfield 36, 3) := by decide +kernel
theorem dX8_undo_17 : decode cX8_undo 17 = .ok (.invokevirtual 153, 3) := by decide +kernel
theorem dX8_undo_20 : decode cX8_undo 20 = .ok (.aload_n 0, 1) := by decide +kernel
theorem dX8_undo_21 : decode cX8_undo 21 = .ok (.getfield 36, 3) := by decide +kernel
theorem dX8_undo_24 : decode cX8_undo 24 = .ok (.getfield 146, 3) := by decide +kernel
theorem dX8_undo_27 : decode cX8_undo 27 = .ok (.ireturn, 1) := by decide +kernel
theorem dX8_sale_0 : decode cX8_sale 0 = .ok (.iload_n 2, 1) := by decide +kernel
theorem dX8_sale_1 : decode cX8_sale 1 = .ok (.iconst 0, 1) := by decide +kernel
theorem dX8_sale_2 : decode cX8_sale 2 = .ok (.iconst 3, 1) := by decide +kernel
theorem dX8_sale_3 : decode cX8_sale 3 = .ok (.invokestatic 72, 3) := by decide +kernel
theorem dX8_sale_6 : decode cX8_sale 6 = .ok (.ifCond .ne 6, 3) := by decide +kernel
theorem dX8_sale_9 : decode cX8_sale 9 = .ok (.bipush (-2), 2) := by decide +kernel
theorem dX8_sale_11 : decode cX8_sale 11 = .ok (.ireturn, 1) := by decide +kernel
theorem dX8_sale_12 : decode cX8_sale 12 = .ok (.iload_n 1, 1) := by decide +kernel
theorem dX8_sale_13 : decode cX8_sale 13 = .ok (.ifCond .lt 14, 3) := by decide +kernel
theorem dX8_sale_16 : decode cX8_sale 16 = .ok (.iload_n 1, 1) := by decide +kernel
theorem dX8_sale_17 : decode cX8_sale 17 = .ok (.aload_n 0, 1) := by decide +kernel
theorem dX8_sale_18 : decode cX8_sale 18 = .ok (.getfield 36, 3) := by decide +kernel
theorem dX8_sale_21 : decode cX8_sale 21 = .ok (.getfield 146, 3) := by decide +kernel
theorem dX8_sale_24 : decode cX8_sale 24 = .ok (.if_icmp .lt 6, 3) := by decide +kernel
theorem dX8_sale_27 : decode cX8_sale 27 = .ok (.bipush (-9), 2) := by decide +kernel
theorem dX8_sale_29 : decode cX8_sale 29 = .ok (.ireturn, 1) := by decide +kernel
theorem dX8_sale_30 : decode cX8_sale 30 = .ok (.iload_n 2, 1) := by decide +kernel
theorem dX8_sale_31 : decode cX8_sale 31 = .ok (.tableswitch 55 0 2 #[25, 35, 45], 25) := by decide +kernel
theorem dX8_sale_56 : decode cX8_sale 56 = .ok (.aload_n 0, 1) := by decide +kernel
theorem dX8_sale_57 : decode cX8_sale 57 = .ok (.getfield 36, 3) := by decide +kernel
theorem dX8_sale_60 : decode cX8_sale 60 = .ok (.getfield 156, 3) := by decide +kernel
theorem dX8_sale_63 : decode cX8_sale 63 = .ok (.iload_n 1, 1) := by decide +kernel
theorem dX8_sale_64 : decode cX8_sale 64 = .ok (.iaload, 1) := by decide +kernel
theorem dX8_sale_65 : decode cX8_sale 65 = .ok (.ireturn, 1) := by decide +kernel
theorem dX8_sale_66 : decode cX8_sale 66 = .ok (.aload_n 0, 1) := by decide +kernel
theorem dX8_sale_67 : decode cX8_sale 67 = .ok (.getfield 36, 3) := by decide +kernel
theorem dX8_sale_70 : decode cX8_sale 70 = .ok (.getfield 159, 3) := by decide +kernel
theorem dX8_sale_73 : decode cX8_sale 73 = .ok (.iload_n 1, 1) := by decide +kernel
theorem dX8_sale_74 : decode cX8_sale 74 = .ok (.iaload, 1) := by decide +kernel
theorem dX8_sale_75 : decode cX8_sale 75 = .ok (.ireturn, 1) := by decide +kernel
theorem dX8_sale_76 : decode cX8_sale 76 = .ok (.aload_n 0, 1) := by decide +kernel
theorem dX8_sale_77 : decode cX8_sale 77 = .ok (.getfield 36, 3) := by decide +kernel
theorem dX8_sale_80 : decode cX8_sale 80 = .ok (.getfield 162, 3) := by decide +kernel
theorem dX8_sale_83 : decode cX8_sale 83 = .ok (.iload_n 1, 1) := by decide +kernel
theorem dX8_sale_84 : decode cX8_sale 84 = .ok (.iaload, 1) := by decide +kernel
theorem dX8_sale_85 : decode cX8_sale 85 = .ok (.ireturn, 1) := by decide +kernel
theorem dX8_sale_86 : decode cX8_sale 86 = .ok (.aload_n 0, 1) := by decide +kernel
theorem dX8_sale_87 : decode cX8_sale 87 = .ok (.getfield 36, 3) := by decide +kernel
theorem dX8_sale_90 : decode cX8_sale 90 = .ok (.getfield 165, 3) := by decide +kernel
theorem dX8_sale_93 : decode cX8_sale 93 = .ok (.iload_n 1, 1) := by decide +kernel
theorem dX8_sale_94 : decode cX8_sale 94 = .ok (.iaload, 1) := by decide +kernel
theorem dX8_sale_95 : decode cX8_sale 95 = .ok (.ireturn, 1) := by decide +kernel
theorem dX8_truly_0 : decode cX8_truly 0 = .ok (.aload_n 0, 1) := by decide +kernel
theorem dX8_truly_1 : decode cX8_truly 1 = .ok (.getfield 26, 3) := by decide +kernel
theorem dX8_truly_4 : decode cX8_truly 4 = .ok (.iload_n 1, 1) := by decide +kernel
theorem dX8_truly_5 : decode cX8_truly 5 = .ok (.invokevirtual 99, 3) := by decide +kernel
theorem dX8_truly_8 : decode cX8_truly 8 = .ok (.ifCond .eq 14, 3) := by decide +kernel
theorem dX8_truly_11 : decode cX8_truly 11 = .ok (.aload_n 0, 1) := by decide +kernel
theorem dX8_truly_12 : decode cX8_truly 12 = .ok (.getfield 26, 3) := by decide +kernel
theorem dX8_truly_15 : decode cX8_truly 15 = .ok (.iload_n 2, 1) := by decide +kernel
theorem dX8_truly_16 : decode cX8_truly 16 = .ok (.invokevirtual 123, 3) := by decide +kernel
theorem dX8_truly_19 : decode cX8_truly 19 = .ok (.ifCond .ne 5, 3) := by decide +kernel
theorem dX8_truly_22 : decode cX8_truly 22 = .ok (.iconst (-1), 1) := by decide +kernel
theorem dX8_truly_23 : decode cX8_truly 23 = .ok (.ireturn, 1) := by decide +kernel
theorem dX8_truly_24 : decode cX8_truly 24 = .ok (.aload_n 0, 1) := by decide +kernel
theorem dX8_truly_25 : decode cX8_truly 25 = .ok (.getfield 26, 3) := by decide +kernel
theorem dX8_truly_28 : decode cX8_truly 28 = .ok (.getfield 126, 3) := by decide +kernel
theorem dX8_truly_31 : decode cX8_truly 31 = .ok (.iload_n 2, 1) := by decide +kernel
theorem dX8_truly_32 : decode cX8_truly 32 = .ok (.iaload, 1) := by decide +kernel
theorem dX8_truly_33 : decode cX8_truly 33 = .ok (.i2l, 1) := by decide +kernel
theorem dX8_truly_34 : decode cX8_truly 34 = .ok (.aload_n 0, 1) := by decide +kernel
theorem dX8_truly_35 : decode cX8_truly 35 = .ok (.getfield 36, 3) := by decide +kernel
theorem dX8_truly_38 : decode cX8_truly 38 = .ok (.getfield 103, 3) := by decide +kernel
theorem dX8_truly_41 : decode cX8_truly 41 = .ok (.iload_n 1, 1) := by decide +kernel
theorem dX8_truly_42 : decode cX8_truly 42 = .ok (.iaload, 1) := by decide +kernel
theorem dX8_truly_43 : decode cX8_truly 43 = .ok (.i2l, 1) := by decide +kernel
theorem dX8_truly_44 : decode cX8_truly 44 = .ok (.iload_n 3, 1) := by decide +kernel
theorem dX8_truly_45 : decode cX8_truly 45 = .ok (.invokestatic 168, 3) := by decide +kernel
theorem dX8_truly_48 : decode cX8_truly 48 = .ok (.l2i, 1) := by decide +kernel
theorem dX8_truly_49 : decode cX8_truly 49 = .ok (.ireturn, 1) := by decide +kernel
theorem dX8_cheapest_0 : decode cX8_cheapest 0 = .ok (.aload_n 0, 1) := by decide +kernel
theorem dX8_cheapest_1 : decode cX8_cheapest 1 = .ok (.getfield 26, 3) := by decide +kernel
theorem dX8_cheapest_4 : decode cX8_cheapest 4 = .ok (.iload_n 1, 1) := by decide +kernel
theorem dX8_cheapest_5 : decode cX8_cheapest 5 = .ok (.invokevirtual 123, 3) := by decide +kernel
theorem dX8_cheapest_8 : decode cX8_cheapest 8 = .ok (.ifCond .ne 5, 3) := by decide +kernel
theorem dX8_cheapest_11 : decode cX8_cheapest 11 = .ok (.iconst (-1), 1) := by decide +kernel
theorem dX8_cheapest_12 : decode cX8_cheapest 12 = .ok (.ireturn, 1) := by decide +kernel
theorem dX8_cheapest_13 : decode cX8_cheapest 13 = .ok (.iload_n 2, 1) := by decide +kernel
theorem dX8_cheapest_14 : decode cX8_cheapest 14 = .ok (.iconst 1, 1) := by decide +kernel
theorem dX8_cheapest_15 : decode cX8_cheapest 15 = .ok (.sipush 999, 3) := by decide +kernel
theorem dX8_cheapest_18 : decode cX8_cheapest 18 = .ok (.invokestatic 72, 3) := by decide +kernel
theorem dX8_cheapest_21 : decode cX8_cheapest 21 = .ok (.ifCond .ne 6, 3) := by decide +kernel
theorem dX8_cheapest_24 : decode cX8_cheapest 24 = .ok (.bipush (-2), 2) := by decide +kernel
theorem dX8_cheapest_26 : decode cX8_cheapest 26 = .ok (.ireturn, 1) := by decide +kernel
theorem dX8_cheapest_27 : decode cX8_cheapest 27 = .ok (.aload_n 0, 1) := by decide +kernel
theorem dX8_cheapest_28 : decode cX8_cheapest 28 = .ok (.getfield 47, 3) := by decide +kernel
theorem dX8_cheapest_31 : decode cX8_cheapest 31 = .ok (.aload_n 0, 1) := by decide +kernel
theorem dX8_cheapest_32 : decode cX8_cheapest 32 = .ok (.getfield 26, 3) := by decide +kernel
theorem dX8_cheapest_35 : decode cX8_cheapest 35 = .ok (.aload_n 0, 1) := by decide +kernel
theorem dX8_cheapest_36 : decode cX8_cheapest 36 = .ok (.getfield 36, 3) := by decide +kernel
theorem dX8_cheapest_39 : decode cX8_cheapest 39 = .ok (.iload_n 1, 1) := by decide +kernel
theorem dX8_cheapest_40 : decode cX8_cheapest 40 = .ok (.iload_n 2, 1) := by decide +kernel
theorem dX8_cheapest_41 : decode cX8_cheapest 41 = .ok (.invokevirtual 172, 3) := by decide +kernel
theorem dX8_cheapest_44 : decode cX8_cheapest 44 = .ok (.ifCond .eq 13, 3) := by decide +kernel
theorem dX8_cheapest_47 : decode cX8_cheapest 47 = .ok (.aload_n 0, 1) := by decide +kernel
theorem dX8_cheapest_48 : decode cX8_cheapest 48 = .ok (.getfield 47, 3) := by decide +kernel
theorem dX8_cheapest_51 : decode cX8_cheapest 51 = .ok (.invokevirtual 176, 3) := by decide +kernel
theorem dX8_cheapest_54 : decode cX8_cheapest 54 = .ok (.goto 5, 3) := by decide +kernel
theorem dX8_cheapest_57 : decode cX8_cheapest 57 = .ok (.bipush (-9), 2) := by decide +kernel
theorem dX8_cheapest_59 : decode cX8_cheapest 59 = .ok (.ireturn, 1) := by decide +kernel
theorem dX8_cheapestBy_0 : decode cX8_cheapestBy 0 = .ok (.aload_n 0, 1) := by decide +kernel
theorem dX8_cheapestBy_1 : decode cX8_cheapestBy 1 = .ok (.getfield 26, 3) := by decide +kernel
theorem dX8_cheapestBy_4 : decode cX8_cheapestBy 4 = .ok (.iload_n 1, 1) := by decide +kernel
theorem dX8_cheapestBy_5 : decode cX8_cheapestBy 5 = .ok (.invokevirtual 123, 3) := by decide +kernel
theorem dX8_cheapestBy_8 : decode cX8_cheapestBy 8 = .ok (.ifCond .eq 14, 3) := by decide +kernel
theorem dX8_cheapestBy_11 : decode cX8_cheapestBy 11 = .ok (.aload_n 0, 1) := by decide +kernel
theorem dX8_cheapestBy_12 : decode cX8_cheapestBy 12 = .ok (.getfield 26, 3) := by decide +kernel
theorem dX8_cheapestBy_15 : decode cX8_cheapestBy 15 = .ok (.iload_n 3, 1) := by decide +kernel
theorem dX8_cheapestBy_16 : decode cX8_cheapestBy 16 = .ok (.invokevirtual 99, 3) := by decide +kernel
theorem dX8_cheapestBy_19 : decode cX8_cheapestBy 19 = .ok (.ifCond .ne 5, 3) := by decide +kernel
theorem dX8_cheapestBy_22 : decode cX8_cheapestBy 22 = .ok (.iconst (-1), 1) := by decide +kernel
theorem dX8_cheapestBy_23 : decode cX8_cheapestBy 23 = .ok (.ireturn, 1) := by decide +kernel
theorem dX8_cheapestBy_24 : decode cX8_cheapestBy 24 = .ok (.iload_n 2, 1) := by decide +kernel
theorem dX8_cheapestBy_25 : decode cX8_cheapestBy 25 = .ok (.iconst 1, 1) := by decide +kernel
theorem dX8_cheapestBy_26 : decode cX8_cheapestBy 26 = .ok (.sipush 999, 3) := by decide +kernel
theorem dX8_cheapestBy_29 : decode cX8_cheapestBy 29 = .ok (.invokestatic 72, 3) := by decide +kernel
theorem dX8_cheapestBy_32 : decode cX8_cheapestBy 32 = .ok (.ifCond .ne 6, 3) := by decide +kernel
theorem dX8_cheapestBy_35 : decode cX8_cheapestBy 35 = .ok (.bipush (-2), 2) := by decide +kernel
theorem dX8_cheapestBy_37 : decode cX8_cheapestBy 37 = .ok (.ireturn, 1) := by decide +kernel
theorem dX8_cheapestBy_38 : decode cX8_cheapestBy 38 = .ok (.aload_n 0, 1) := by decide +kernel
theorem dX8_cheapestBy_39 : decode cX8_cheapestBy 39 = .ok (.getfield 47, 3) := by decide +kernel
theorem dX8_cheapestBy_42 : decode cX8_cheapestBy 42 = .ok (.aload_n 0, 1) := by decide +kernel
theorem dX8_cheapestBy_43 : decode cX8_cheapestBy 43 = .ok (.getfield 26, 3) := by decide +kernel
theorem dX8_cheapestBy_46 : decode cX8_cheapestBy 46 = .ok (.aload_n 0, 1) := by decide +kernel
theorem dX8_cheapestBy_47 : decode cX8_cheapestBy 47 = .ok (.getfield 36, 3) := by decide +kernel
theorem dX8_cheapestBy_50 : decode cX8_cheapestBy 50 = .ok (.iload_n 1, 1) := by decide +kernel
theorem dX8_cheapestBy_51 : decode cX8_cheapestBy 51 = .ok (.iload_n 2, 1) := by decide +kernel
theorem dX8_cheapestBy_52 : decode cX8_cheapestBy 52 = .ok (.invokevirtual 172, 3) := by decide +kernel
theorem dX8_cheapestBy_55 : decode cX8_cheapestBy 55 = .ok (.ifCond .ne 6, 3) := by decide +kernel
theorem dX8_cheapestBy_58 : decode cX8_cheapestBy 58 = .ok (.bipush (-9), 2) := by decide +kernel
theorem dX8_cheapestBy_60 : decode cX8_cheapestBy 60 = .ok (.ireturn, 1) := by decide +kernel
theorem dX8_cheapestBy_61 : decode cX8_cheapestBy 61 = .ok (.aload_n 0, 1) := by decide +kernel
theorem dX8_cheapestBy_62 : decode cX8_cheapestBy 62 = .ok (.getfield 47, 3) := by decide +kernel
theorem dX8_cheapestBy_65 : decode cX8_cheapestBy 65 = .ok (.aload_n 0, 1) := by decide +kernel
theorem dX8_cheapestBy_66 : decode cX8_cheapestBy 66 = .ok (.getfield 26, 3) := by decide +kernel
theorem dX8_cheapestBy_69 : decode cX8_cheapestBy 69 = .ok (.aload_n 0, 1) := by decide +kernel
theorem dX8_cheapestBy_70 : decode cX8_cheapestBy 70 = .ok (.getfield 36, 3) := by decide +kernel
theorem dX8_cheapestBy_73 : decode cX8_cheapestBy 73 = .ok (.iload_n 1, 1) := by decide +kernel
theorem dX8_cheapestBy_74 : decode cX8_cheapestBy 74 = .ok (.iload_n 2, 1) := by decide +kernel
theorem dX8_cheapestBy_75 : decode cX8_cheapestBy 75 = .ok (.invokevirtual 180, 3) := by decide +kernel
theorem dX8_cheapestBy_78 : decode cX8_cheapestBy 78 = .ok (.aload_n 0, 1) := by decide +kernel
theorem dX8_cheapestBy_79 : decode cX8_cheapestBy 79 = .ok (.getfield 47, 3) := by decide +kernel
theorem dX8_cheapestBy_82 : decode cX8_cheapestBy 82 = .ok (.getfield 184, 3) := by decide +kernel
theorem dX8_cheapestBy_85 : decode cX8_cheapestBy 85 = .ok (.iload_n 3, 1) := by decide +kernel
theorem dX8_cheapestBy_86 : decode cX8_cheapestBy 86 = .ok (.iaload, 1) := by decide +kernel
theorem dX8_cheapestBy_87 : decode cX8_cheapestBy 87 = .ok (.ireturn, 1) := by decide +kernel
theorem dX8_exchange_0 : decode cX8_exchange 0 = .ok (.iload_n 1, 1) := by decide +kernel
theorem dX8_exchange_1 : decode cX8_exchange 1 = .ok (.iconst 0, 1) := by decide +kernel
theorem dX8_exchange_2 : decode cX8_exchange 2 = .ok (.iconst 2, 1) := by decide +kernel
theorem dX8_exchange_3 : decode cX8_exchange 3 = .ok (.invokestatic 72, 3) := by decide +kernel
theorem dX8_exchange_6 : decode cX8_exchange 6 = .ok (.ifCond .eq 12, 3) := by decide +kernel
theorem dX8_exchange_9 : decode cX8_exchange 9 = .ok (.iload_n 2, 1) := by decide +kernel
theorem dX8_exchange_10 : decode cX8_exchange 10 = .ok (.iconst 0, 1) := by decide +kernel
theorem dX8_exchange_11 : decode cX8_exchange 11 = .ok (.iconst 2, 1) := by decide +kernel
theorem dX8_exchange_12 : decode cX8_exchange 12 = .ok (.invokestatic 72, 3) := by decide +kernel
theorem dX8_exchange_15 : decode cX8_exchange 15 = .ok (.ifCond .ne 5, 3) := by decide +kernel
theorem dX8_exchange_18 : decode cX8_exchange 18 = .ok (.iconst (-1), 1) := by decide +kernel
theorem dX8_exchange_19 : decode cX8_exchange 19 = .ok (.ireturn, 1) := by decide +kernel
theorem dX8_exchange_20 : decode cX8_exchange 20 = .ok (.iload_n 1, 1) := by decide +kernel
theorem dX8_exchange_21 : decode cX8_exchange 21 = .ok (.iload_n 2, 1) := by decide +kernel
theorem dX8_exchange_22 : decode cX8_exchange 22 = .ok (.if_icmp .eq 35, 3) := by decide +kernel
theorem dX8_exchange_25 : decode cX8_exchange 25 = .ok (.iload_n 3, 1) := by decide +kernel
theorem dX8_exchange_26 : decode cX8_exchange 26 = .ok (.iconst 1, 1) := by decide +kernel
theorem dX8_exchange_27 : decode cX8_exchange 27 = .ok (.bipush 9, 2) := by decide +kernel
theorem dX8_exchange_29 : decode cX8_exchange 29 = .ok (.invokestatic 72, 3) := by decide +kernel
theorem dX8_exchange_32 : decode cX8_exchange 32 = .ok (.ifCond .eq 25, 3) := by decide +kernel
theorem dX8_exchange_35 : decode cX8_exchange 35 = .ok (.iload 4, 2) := by decide +kernel
theorem dX8_exchange_37 : decode cX8_exchange 37 = .ok (.iconst 1, 1) := by decide +kernel
theorem dX8_exchange_38 : decode cX8_exchange 38 = .ok (.bipush 9, 2) := by decide +kernel
theorem dX8_exchange_40 : decode cX8_exchange 40 = .ok (.invokestatic 72, 3) := by decide +kernel
theorem dX8_exchange_43 : decode cX8_exchange 43 = .ok (.ifCond .eq 14, 3) := by decide +kernel
theorem dX8_exchange_46 : decode cX8_exchange 46 = .ok (.iload 5, 2) := by decide +kernel
theorem dX8_exchange_48 : decode cX8_exchange 48 = .ok (.iconst 1, 1) := by decide +kernel
theorem dX8_exchange_49 : decode cX8_exchange 49 = .ok (.bipush 99, 2) := by decide +kernel
theorem dX8_exchange_51 : decode cX8_exchange 51 = .ok (.invokestatic 72, 3) := by decide +kernel
theorem dX8_exchange_54 : decode cX8_exchange 54 = .ok (.ifCond .ne 6, 3) := by decide +kernel
theorem dX8_exchange_57 : decode cX8_exchange 57 = .ok (.bipush (-2), 2) := by decide +kernel
theorem dX8_exchange_59 : decode cX8_exchange 59 = .ok (.ireturn, 1) := by decide +kernel
theorem dX8_exchange_60 : decode cX8_exchange 60 = .ok (.aload_n 0, 1) := by decide +kernel
theorem dX8_exchange_61 : decode cX8_exchange 61 = .ok (.getfield 54, 3) := by decide +kernel
theorem dX8_exchange_64 : decode cX8_exchange 64 = .ok (.getfield 185, 3) := by decide +kernel
theorem dX8_exchange_67 : decode cX8_exchange 67 = .ok (.bipush 8, 2) := by decide +kernel
theorem dX8_exchange_69 : decode cX8_exchange 69 = .ok (.if_icmp .lt 6, 3) := by decide +kernel
theorem dX8_exchange_72 : decode cX8_exchange 72 = .ok (.bipush (-4), 2) := by decide +kernel
theorem dX8_exchange_74 : decode cX8_exchange 74 = .ok (.ireturn, 1) := by decide +kernel
theorem dX8_exchange_75 : decode cX8_exchange 75 = .ok (.aload_n 0, 1) := by decide +kernel
theorem dX8_exchange_76 : decode cX8_exchange 76 = .ok (.getfield 54, 3) := by decide +kernel
theorem dX8_exchange_79 : decode cX8_exchange 79 = .ok (.iload_n 1, 1) := by decide +kernel
theorem dX8_exchange_80 : decode cX8_exchange 80 = .ok (.iload_n 2, 1) := by decide +kernel
theorem dX8_exchange_81 : decode cX8_exchange 81 = .ok (.iload_n 3, 1) := by decide +kernel
theorem dX8_exchange_82 : decode cX8_exchange 82 = .ok (.iload 4, 2) := by decide +kernel
theorem dX8_exchange_84 : decode cX8_exchange 84 = .ok (.iload 5, 2) := by decide +kernel
theorem dX8_exchange_86 : decode cX8_exchange 86 = .ok (.invokevirtual 188, 3) := by decide +kernel
theorem dX8_exchange_89 : decode cX8_exchange 89 = .ok (.aload_n 0, 1) := by decide +kernel
theorem dX8_exchange_90 : decode cX8_exchange 90 = .ok (.getfield 54, 3) := by decide +kernel
theorem dX8_exchange_93 : decode cX8_exchange 93 = .ok (.getfield 185, 3) := by decide +kernel
theorem dX8_exchange_96 : decode cX8_exchange 96 = .ok (.ireturn, 1) := by decide +kernel
theorem dX8_unchange_0 : decode cX8_unchange 0 = .ok (.aload_n 0, 1) := by decide +kernel
theorem dX8_unchange_1 : decode cX8_unchange 1 = .ok (.getfield 54, 3) := by decide +kernel
theorem dX8_unchange_4 : decode cX8_unchange 4 = .ok (.getfield 185, 3) := by decide +kernel
theorem dX8_unchange_7 : decode cX8_unchange 7 = .ok (.istore_n 1, 1) := by decide +kernel
theorem dX8_unchange_8 : decode cX8_unchange 8 = .ok (.aload_n 0, 1) := by decide +kernel
theorem dX8_unchange_9 : decode cX8_unchange 9 = .ok (.getfield 54, 3) := by decide +kernel
theorem dX8_unchange_12 : decode cX8_unchange 12 = .ok (.iconst 0, 1) := by decide +kernel
theorem dX8_unchange_13 : decode cX8_unchange 13 = .ok (.putfield 185, 3) := by decide +kernel
theorem dX8_unchange_16 : decode cX8_unchange 16 = .ok (.iload_n 1, 1) := by decide +kernel
theorem dX8_unchange_17 : decode cX8_unchange 17 = .ok (.ireturn, 1) := by decide +kernel
theorem dX8_ring_0 : decode cX8_ring 0 = .ok (.aload_n 0, 1) := by decide +kernel
theorem dX8_ring_1 : decode cX8_ring 1 = .ok (.getfield 26, 3) := by decide +kernel
theorem dX8_ring_4 : decode cX8_ring 4 = .ok (.iload_n 1, 1) := by decide +kernel
theorem dX8_ring_5 : decode cX8_ring 5 = .ok (.invokevirtual 99, 3) := by decide +kernel
theorem dX8_ring_8 : decode cX8_ring 8 = .ok (.ifCond .ne 7, 3) := by decide +kernel
theorem dX8_ring_11 : decode cX8_ring 11 = .ok (.ldc2_w 192, 3) := by decide +kernel
theorem dX8_ring_14 : decode cX8_ring 14 = .ok (.lreturn, 1) := by decide +kernel
theorem dX8_ring_15 : decode cX8_ring 15 = .ok (.aload_n 0, 1) := by decide +kernel
theorem dX8_ring_16 : decode cX8_ring 16 = .ok (.getfield 54, 3) := by decide +kernel
theorem dX8_ring_19 : decode cX8_ring 19 = .ok (.aload_n 0, 1) := by decide +kernel
theorem dX8_ring_20 : decode cX8_ring 20 = .ok (.getfield 36, 3) := by decide +kernel
theorem dX8_ring_23 : decode cX8_ring 23 = .ok (.getfield 103, 3) := by decide +kernel
theorem dX8_ring_26 : decode cX8_ring 26 = .ok (.iload_n 1, 1) := by decide +kernel
theorem dX8_ring_27 : decode cX8_ring 27 = .ok (.iaload, 1) := by decide +kernel
theorem dX8_ring_28 : decode cX8_ring 28 = .ok (.invokevirtual 194, 3) := by decide +kernel
theorem dX8_ring_31 : decode cX8_ring 31 = .ok (.aload_n 0, 1) := by decide +kernel
theorem dX8_ring_32 : decode cX8_ring 32 = .ok (.getfield 54, 3) := by decide +kernel
theorem dX8_ring_35 : decode cX8_ring 35 = .ok (.getfield 198, 3) := by decide +kernel
theorem dX8_ring_38 : decode cX8_ring 38 = .ok (.ifCond .ne 7, 3) := by decide +kernel
theorem dX8_ring_41 : decode cX8_ring 41 = .ok (.ldc2_w 201, 3) := by decide +kernel
theorem dX8_ring_44 : decode cX8_ring 44 = .ok (.lreturn, 1) := by decide +kernel
theorem dX8_ring_45 : decode cX8_ring 45 = .ok (.aload_n 0, 1) := by decide +kernel
theorem dX8_ring_46 : decode cX8_ring 46 = .ok (.getfield 54, 3) := by decide +kernel
theorem dX8_ring_49 : decode cX8_ring 49 = .ok (.getfield 203, 3) := by decide +kernel
theorem dX8_ring_52 : decode cX8_ring 52 = .ok (.aload_n 0, 1) := by decide +kernel
theorem dX8_ring_53 : decode cX8_ring 53 = .ok (.getfield 54, 3) := by decide +kernel
theorem dX8_ring_56 : decode cX8_ring 56 = .ok (.getfield 207, 3) := by decide +kernel
theorem dX8_ring_59 : decode cX8_ring 59 = .ok (.iload_n 2, 1) := by decide +kernel
theorem dX8_ring_60 : decode cX8_ring 60 = .ok (.invokestatic 168, 3) := by decide +kernel
theorem dX8_ring_63 : decode cX8_ring 63 = .ok (.lreturn, 1) := by decide +kernel
theorem dX8_ringAt_0 : decode cX8_ringAt 0 = .ok (.aload_n 0, 1) := by decide +kernel
theorem dX8_ringAt_1 : decode cX8_ringAt 1 = .ok (.getfield 26, 3) := by decide +kernel
theorem dX8_ringAt_4 : decode cX8_ringAt 4 = .ok (.iload_n 1, 1) := by decide +kernel
theorem dX8_ringAt_5 : decode cX8_ringAt 5 = .ok (.invokevirtual 99, 3) := by decide +kernel
theorem dX8_ringAt_8 : decode cX8_ringAt 8 = .ok (.ifCond .ne 5, 3) := by decide +kernel
theorem dX8_ringAt_11 : decode cX8_ringAt 11 = .ok (.iconst (-1), 1) := by decide +kernel
theorem dX8_ringAt_12 : decode cX8_ringAt 12 = .ok (.ireturn, 1) := by decide +kernel
theorem dX8_ringAt_13 : decode cX8_ringAt 13 = .ok (.aload_n 0, 1) := by decide +kernel
theorem dX8_ringAt_14 : decode cX8_ringAt 14 = .ok (.getfield 54, 3) := by decide +kernel
theorem dX8_ringAt_17 : decode cX8_ringAt 17 = .ok (.aload_n 0, 1) := by decide +kernel
theorem dX8_ringAt_18 : decode cX8_ringAt 18 = .ok (.getfield 36, 3) := by decide +kernel
theorem dX8_ringAt_21 : decode cX8_ringAt 21 = .ok (.getfield 103, 3) := by decide +kernel
theorem dX8_ringAt_24 : decode cX8_ringAt 24 = .ok (.iload_n 1, 1) := by decide +kernel
theorem dX8_ringAt_25 : decode cX8_ringAt 25 = .ok (.iaload, 1) := by decide +kernel
theorem dX8_ringAt_26 : decode cX8_ringAt 26 = .ok (.invokevirtual 194, 3) := by decide +kernel
theorem dX8_ringAt_29 : decode cX8_ringAt 29 = .ok (.iload_n 2, 1) := by decide +kernel
theorem dX8_ringAt_30 : decode cX8_ringAt 30 = .ok (.ifCond .lt 26, 3) := by decide +kernel
theorem dX8_ringAt_33 : decode cX8_ringAt 33 = .ok (.iload_n 2, 1) := by decide +kernel
theorem dX8_ringAt_34 : decode cX8_ringAt 34 = .ok (.aload_n 0, 1) := by decide +kernel
theorem dX8_ringAt_35 : decode cX8_ringAt 35 = .ok (.getfield 54, 3) := by decide +kernel
theorem dX8_ringAt_38 : decode cX8_ringAt 38 = .ok (.getfield 198, 3) := by decide +kernel
theorem dX8_ringAt_41 : decode cX8_ringAt 41 = .ok (.if_icmp .ge 15, 3) := by decide +kernel
theorem dX8_ringAt_44 : decode cX8_ringAt 44 = .ok (.aload_n 0, 1) := by decide +kernel
theorem dX8_ringAt_45 : decode cX8_ringAt 45 = .ok (.getfield 54, 3) := by decide +kernel
theorem dX8_ringAt_48 : decode cX8_ringAt 48 = .ok (.getfield 210, 3) := by decide +kernel
theorem dX8_ringAt_51 : decode cX8_ringAt 51 = .ok (.iload_n 2, 1) := by decide +kernel
theorem dX8_ringAt_52 : decode cX8_ringAt 52 = .ok (.iaload, 1) := by decide +kernel
theorem dX8_ringAt_53 : decode cX8_ringAt 53 = .ok (.goto 5, 3) := by decide +kernel
theorem dX8_ringAt_56 : decode cX8_ringAt 56 = .ok (.bipush (-9), 2) := by decide +kernel
theorem dX8_ringAt_58 : decode cX8_ringAt 58 = .ok (.ireturn, 1) := by decide +kernel
theorem dX8_come_0 : decode cX8_come 0 = .ok (.aload_n 0, 1) := by decide +kernel
theorem dX8_come_1 : decode cX8_come 1 = .ok (.getfield 26, 3) := by decide +kernel
theorem dX8_come_4 : decode cX8_come 4 = .ok (.iload_n 1, 1) := by decide +kernel
theorem dX8_come_5 : decode cX8_come 5 = .ok (.invokevirtual 99, 3) := by decide +kernel
theorem dX8_come_8 : decode cX8_come 8 = .ok (.ifCond .ne 5, 3) := by decide +kernel
theorem dX8_come_11 : decode cX8_come 11 = .ok (.iconst (-1), 1) := by decide +kernel
theorem dX8_come_12 : decode cX8_come 12 = .ok (.ireturn, 1) := by decide +kernel
theorem dX8_come_13 : decode cX8_come 13 = .ok (.iload_n 2, 1) := by decide +kernel
theorem dX8_come_14 : decode cX8_come 14 = .ok (.iconst 0, 1) := by decide +kernel
theorem dX8_come_15 : decode cX8_come 15 = .ok (.bipush 9, 2) := by decide +kernel
theorem dX8_come_17 : decode cX8_come 17 = .ok (.invokestatic 72, 3) := by decide +kernel
theorem dX8_come_20 : decode cX8_come 20 = .ok (.ifCond .ne 6, 3) := by decide +kernel
theorem dX8_come_23 : decode cX8_come 23 = .ok (.bipush (-2), 2) := by decide +kernel
theorem dX8_come_25 : decode cX8_come 25 = .ok (.ireturn, 1) := by decide +kernel
theorem dX8_come_26 : decode cX8_come 26 = .ok (.aload_n 0, 1) := by decide +kernel
theorem dX8_come_27 : decode cX8_come 27 = .ok (.getfield 26, 3) := by decide +kernel
theorem dX8_come_30 : decode cX8_come 30 = .ok (.getfield 117, 3) := by decide +kernel
theorem dX8_come_33 : decode cX8_come 33 = .ok (.iload_n 1, 1) := by decide +kernel
theorem dX8_come_34 : decode cX8_come 34 = .ok (.iaload, 1) := by decide +kernel
theorem dX8_come_35 : decode cX8_come 35 = .ok (.istore_n 3, 1) := by decide +kernel
theorem dX8_come_36 : decode cX8_come 36 = .ok (.aload_n 0, 1) := by decide +kernel
theorem dX8_come_37 : decode cX8_come 37 = .ok (.getfield 26, 3) := by decide +kernel
theorem dX8_come_40 : decode cX8_come 40 = .ok (.getfield 117, 3) := by decide +kernel
theorem dX8_come_43 : decode cX8_come 43 = .ok (.iload_n 1, 1) := by decide +kernel
theorem dX8_come_44 : decode cX8_come 44 = .ok (.iload_n 2, 1) := by decide +kernel
theorem dX8_come_45 : decode cX8_come 45 = .ok (.iastore, 1) := by decide +kernel
theorem dX8_come_46 : decode cX8_come 46 = .ok (.iload_n 3, 1) := by decide +kernel
theorem dX8_come_47 : decode cX8_come 47 = .ok (.ireturn, 1) := by decide +kernel
theorem dX8_earned_0 : decode cX8_earned 0 = .ok (.iload_n 1, 1) := by decide +kernel
theorem dX8_earned_1 : decode cX8_earned 1 = .ok (.iconst 1, 1) := by decide +kernel
theorem dX8_earned_2 : decode cX8_earned 2 = .ok (.sipush 999, 3) := by decide +kernel
theorem dX8_earned_5 : decode cX8_earned 5 = .ok (.invokestatic 72, 3) := by decide +kernel
theorem dX8_earned_8 : decode cX8_earned 8 = .ok (.ifCond .eq 11, 3) := by decide +kernel
theorem dX8_earned_11 : decode cX8_earned 11 = .ok (.iload_n 2, 1) := by decide +kernel
theorem dX8_earned_12 : decode cX8_earned 12 = .ok (.iload_n 3, 1) := by decide +kernel
theorem dX8_earned_13 : decode cX8_earned 13 = .ok (.invokestatic 213, 3) := by decide +kernel
theorem dX8_earned_16 : decode cX8_earned 16 = .ok (.ifCond .ne 6, 3) := by decide +kernel
theorem dX8_earned_19 : decode cX8_earned 19 = .ok (.bipush (-2), 2) := by decide +kernel
theorem dX8_earned_21 : decode cX8_earned 21 = .ok (.ireturn, 1) := by decide +kernel
theorem dX8_earned_22 : decode cX8_earned 22 = .ok (.aload_n 0, 1) := by decide +kernel
theorem dX8_earned_23 : decode cX8_earned 23 = .ok (.iload_n 1, 1) := by decide +kernel
theorem dX8_earned_24 : decode cX8_earned 24 = .ok (.iload_n 2, 1) := by decide +kernel
theorem dX8_earned_25 : decode cX8_earned 25 = .ok (.iload_n 3, 1) := by decide +kernel
theorem dX8_earned_26 : decode cX8_earned 26 = .ok (.invokevirtual 216, 3) := by decide +kernel
theorem dX8_earned_29 : decode cX8_earned 29 = .ok (.ldc 220, 2) := by decide +kernel
theorem dX8_earned_31 : decode cX8_earned 31 = .ok (.iadd, 1) := by decide +kernel
theorem dX8_earned_32 : decode cX8_earned 32 = .ok (.ireturn, 1) := by decide +kernel
theorem dX8_ask_0 : decode cX8_ask 0 = .ok (.iload_n 1, 1) := by decide +kernel
theorem dX8_ask_1 : decode cX8_ask 1 = .ok (.iload_n 2, 1) := by decide +kernel
theorem dX8_ask_2 : decode cX8_ask 2 = .ok (.invokestatic 213, 3) := by decide +kernel
theorem dX8_ask_5 : decode cX8_ask 5 = .ok (.ifCond .ne 6, 3) := by decide +kernel
theorem dX8_ask_8 : decode cX8_ask 8 = .ok (.bipush (-2), 2) := by decide +kernel
theorem dX8_ask_10 : decode cX8_ask 10 = .ok (.ireturn, 1) := by decide +kernel
theorem dX8_ask_11 : decode cX8_ask 11 = .ok (.iconst 1, 1) := by decide +kernel
