theorem dX3_init_0 : decode cX3_init 0 = .ok (.aload_n 0, 1) := by decide +kernel
theorem dX3_init_1 : decode cX3_init 1 = .ok (.invokespecial 3, 3) := by decide +kernel
theorem dX3_init_4 : decode cX3_init 4 = .ok (.return_, 1) := by decide +kernel
theorem dX3_read_0 : decode cX3_read 0 = .ok (.aload_n 2, 1) := by decide +kernel
theorem dX3_read_1 : decode cX3_read 1 = .ok (.invokevirtual 9, 3) := by decide +kernel
theorem dX3_read_4 : decode cX3_read 4 = .ok (.aload_n 0, 1) := by decide +kernel
theorem dX3_read_5 : decode cX3_read 5 = .ok (.iconst 0, 1) := by decide +kernel
theorem dX3_read_6 : decode cX3_read 6 = .ok (.putfield 16, 3) := by decide +kernel
theorem dX3_read_9 : decode cX3_read 9 = .ok (.iconst 0, 1) := by decide +kernel
theorem dX3_read_10 : decode cX3_read 10 = .ok (.istore_n 3, 1) := by decide +kernel
theorem dX3_read_11 : decode cX3_read 11 = .ok (.iload_n 3, 1) := by decide +kernel
theorem dX3_read_12 : decode cX3_read 12 = .ok (.aload_n 1, 1) := by decide +kernel
theorem dX3_read_13 : decode cX3_read 13 = .ok (.getfield 20, 3) := by decide +kernel
theorem dX3_read_16 : decode cX3_read 16 = .ok (.if_icmp .ge 25, 3) := by decide +kernel
theorem dX3_read_19 : decode cX3_read 19 = .ok (.aload_n 0, 1) := by decide +kernel
theorem dX3_read_20 : decode cX3_read 20 = .ok (.aload_n 1, 1) := by decide +kernel
theorem dX3_read_21 : decode cX3_read 21 = .ok (.getfield 25, 3) := by decide +kernel
theorem dX3_read_24 : decode cX3_read 24 = .ok (.iload_n 3, 1) := by decide +kernel
theorem dX3_read_25 : decode cX3_read 25 = .ok (.iaload, 1) := by decide +kernel
theorem dX3_read_26 : decode cX3_read 26 = .ok (.aload_n 2, 1) := by decide +kernel
theorem dX3_read_27 : decode cX3_read 27 = .ok (.invokevirtual 29, 3) := by decide +kernel
theorem dX3_read_30 : decode cX3_read 30 = .ok (.ifCond .ne 5, 3) := by decide +kernel
theorem dX3_read_33 : decode cX3_read 33 = .ok (.iload_n 3, 1) := by decide +kernel
theorem dX3_read_34 : decode cX3_read 34 = .ok (.ireturn, 1) := by decide +kernel
theorem dX3_read_35 : decode cX3_read 35 = .ok (.iinc 3 1, 3) := by decide +kernel
theorem dX3_read_38 : decode cX3_read 38 = .ok (.goto (-27), 3) := by decide +kernel
theorem dX3_read_41 : decode cX3_read 41 = .ok (.aload_n 0, 1) := by decide +kernel
theorem dX3_read_42 : decode cX3_read 42 = .ok (.getfield 16, 3) := by decide +kernel
theorem dX3_read_45 : decode cX3_read 45 = .ok (.ifCond .ne 8, 3) := by decide +kernel
theorem dX3_read_48 : decode cX3_read 48 = .ok (.bipush (-9), 2) := by decide +kernel
theorem dX3_read_50 : decode cX3_read 50 = .ok (.goto 7, 3) := by decide +kernel
theorem dX3_read_53 : decode cX3_read 53 = .ok (.aload_n 1, 1) := by decide +kernel
theorem dX3_read_54 : decode cX3_read 54 = .ok (.getfield 20, 3) := by decide +kernel
theorem dX3_read_57 : decode cX3_read 57 = .ok (.ireturn, 1) := by decide +kernel
theorem dX3_takes_0 : decode cX3_takes 0 = .ok (.aload_n 0, 1) := by decide +kernel
theorem dX3_takes_1 : decode cX3_takes 1 = .ok (.getfield 16, 3) := by decide +kernel
theorem dX3_takes_4 : decode cX3_takes 4 = .ok (.ifCond .ne 10, 3) := by decide +kernel
theorem dX3_takes_7 : decode cX3_takes 7 = .ok (.aload_n 0, 1) := by decide +kernel
theorem dX3_takes_8 : decode cX3_takes 8 = .ok (.iload_n 1, 1) := by decide +kernel
theorem dX3_takes_9 : decode cX3_takes 9 = .ok (.aload_n 2, 1) := by decide +kernel
theorem dX3_takes_10 : decode cX3_takes 10 = .ok (.invokevirtual 33, 3) := by decide +kernel
theorem dX3_takes_13 : decode cX3_takes 13 = .ok (.ireturn, 1) := by decide +kernel
theorem dX3_takes_14 : decode cX3_takes 14 = .ok (.iload_n 1, 1) := by decide +kernel
theorem dX3_takes_15 : decode cX3_takes 15 = .ok (.bipush 48, 2) := by decide +kernel
theorem dX3_takes_17 : decode cX3_takes 17 = .ok (.if_icmp .lt 9, 3) := by decide +kernel
theorem dX3_takes_20 : decode cX3_takes 20 = .ok (.iload_n 1, 1) := by decide +kernel
theorem dX3_takes_21 : decode cX3_takes 21 = .ok (.bipush 57, 2) := by decide +kernel
theorem dX3_takes_23 : decode cX3_takes 23 = .ok (.if_icmp .le 5, 3) := by decide +kernel
theorem dX3_takes_26 : decode cX3_takes 26 = .ok (.iconst 0, 1) := by decide +kernel
theorem dX3_takes_27 : decode cX3_takes 27 = .ok (.ireturn, 1) := by decide +kernel
theorem dX3_takes_28 : decode cX3_takes 28 = .ok (.iload_n 1, 1) := by decide +kernel
theorem dX3_takes_29 : decode cX3_takes 29 = .ok (.bipush 48, 2) := by decide +kernel
theorem dX3_takes_31 : decode cX3_takes 31 = .ok (.isub, 1) := by decide +kernel
theorem dX3_takes_32 : decode cX3_takes 32 = .ok (.istore_n 3, 1) := by decide +kernel
theorem dX3_takes_33 : decode cX3_takes 33 = .ok (.aload_n 0, 1) := by decide +kernel
theorem dX3_takes_34 : decode cX3_takes 34 = .ok (.dup, 1) := by decide +kernel
theorem dX3_takes_35 : decode cX3_takes 35 = .ok (.getfield 36, 3) := by decide +kernel
theorem dX3_takes_38 : decode cX3_takes 38 = .ok (.iconst 1, 1) := by decide +kernel
theorem dX3_takes_39 : decode cX3_takes 39 = .ok (.iadd, 1) := by decide +kernel
theorem dX3_takes_40 : decode cX3_takes 40 = .ok (.putfield 36, 3) := by decide +kernel
theorem dX3_takes_43 : decode cX3_takes 43 = .ok (.aload_n 0, 1) := by decide +kernel
theorem dX3_takes_44 : decode cX3_takes 44 = .ok (.getfield 16, 3) := by decide +kernel
theorem dX3_takes_47 : decode cX3_takes 47 = .ok (.bipush 65, 2) := by decide +kernel
theorem dX3_takes_49 : decode cX3_takes 49 = .ok (.if_icmp .ne 10, 3) := by decide +kernel
theorem dX3_takes_52 : decode cX3_takes 52 = .ok (.aload_n 0, 1) := by decide +kernel
theorem dX3_takes_53 : decode cX3_takes 53 = .ok (.iload_n 3, 1) := by decide +kernel
theorem dX3_takes_54 : decode cX3_takes 54 = .ok (.aload_n 2, 1) := by decide +kernel
theorem dX3_takes_55 : decode cX3_takes 55 = .ok (.invokevirtual 39, 3) := by decide +kernel
theorem dX3_takes_58 : decode cX3_takes 58 = .ok (.ireturn, 1) := by decide +kernel
theorem dX3_takes_59 : decode cX3_takes 59 = .ok (.aload_n 0, 1) := by decide +kernel
theorem dX3_takes_60 : decode cX3_takes 60 = .ok (.getfield 16, 3) := by decide +kernel
theorem dX3_takes_63 : decode cX3_takes 63 = .ok (.bipush 67, 2) := by decide +kernel
theorem dX3_takes_65 : decode cX3_takes 65 = .ok (.if_icmp .ne 12, 3) := by decide +kernel
theorem dX3_takes_68 : decode cX3_takes 68 = .ok (.aload_n 0, 1) := by decide +kernel
theorem dX3_takes_69 : decode cX3_takes 69 = .ok (.iload_n 3, 1) := by decide +kernel
theorem dX3_takes_70 : decode cX3_takes 70 = .ok (.aload_n 2, 1) := by decide +kernel
theorem dX3_takes_71 : decode cX3_takes 71 = .ok (.invokevirtual 42, 3) := by decide +kernel
theorem dX3_takes_74 : decode cX3_takes 74 = .ok (.goto 9, 3) := by decide +kernel
theorem dX3_takes_77 : decode cX3_takes 77 = .ok (.aload_n 0, 1) := by decide +kernel
theorem dX3_takes_78 : decode cX3_takes 78 = .ok (.iload_n 3, 1) := by decide +kernel
theorem dX3_takes_79 : decode cX3_takes 79 = .ok (.aload_n 2, 1) := by decide +kernel
theorem dX3_takes_80 : decode cX3_takes 80 = .ok (.invokevirtual 45, 3) := by decide +kernel
theorem dX3_takes_83 : decode cX3_takes 83 = .ok (.ireturn, 1) := by decide +kernel
theorem dX3_opens_0 : decode cX3_opens 0 = .ok (.aload_n 0, 1) := by decide +kernel
theorem dX3_opens_1 : decode cX3_opens 1 = .ok (.iload_n 1, 1) := by decide +kernel
theorem dX3_opens_2 : decode cX3_opens 2 = .ok (.putfield 16, 3) := by decide +kernel
theorem dX3_opens_5 : decode cX3_opens 5 = .ok (.aload_n 0, 1) := by decide +kernel
theorem dX3_opens_6 : decode cX3_opens 6 = .ok (.iconst 0, 1) := by decide +kernel
theorem dX3_opens_7 : decode cX3_opens 7 = .ok (.putfield 36, 3) := by decide +kernel
theorem dX3_opens_10 : decode cX3_opens 10 = .ok (.aload_n 0, 1) := by decide +kernel
theorem dX3_opens_11 : decode cX3_opens 11 = .ok (.iconst 0, 1) := by decide +kernel
theorem dX3_opens_12 : decode cX3_opens 12 = .ok (.putfield 48, 3) := by decide +kernel
theorem dX3_opens_15 : decode cX3_opens 15 = .ok (.iload_n 1, 1) := by decide +kernel
theorem dX3_opens_16 : decode cX3_opens 16 = .ok (.bipush 65, 2) := by decide +kernel
theorem dX3_opens_18 : decode cX3_opens 18 = .ok (.if_icmp .ne 18, 3) := by decide +kernel
theorem dX3_opens_21 : decode cX3_opens 21 = .ok (.aload_n 2, 1) := by decide +kernel
theorem dX3_opens_22 : decode cX3_opens 22 = .ok (.getfield 51, 3) := by decide +kernel
theorem dX3_opens_25 : decode cX3_opens 25 = .ok (.bipush 6, 2) := by decide +kernel
theorem dX3_opens_27 : decode cX3_opens 27 = .ok (.if_icmp .ge 7, 3) := by decide +kernel
theorem dX3_opens_30 : decode cX3_opens 30 = .ok (.iconst 1, 1) := by decide +kernel
theorem dX3_opens_31 : decode cX3_opens 31 = .ok (.goto 4, 3) := by decide +kernel
theorem dX3_opens_34 : decode cX3_opens 34 = .ok (.iconst 0, 1) := by decide +kernel
theorem dX3_opens_35 : decode cX3_opens 35 = .ok (.ireturn, 1) := by decide +kernel
theorem dX3_opens_36 : decode cX3_opens 36 = .ok (.iload_n 1, 1) := by decide +kernel
theorem dX3_opens_37 : decode cX3_opens 37 = .ok (.bipush 67, 2) := by decide +kernel
theorem dX3_opens_39 : decode cX3_opens 39 = .ok (.if_icmp .ne 17, 3) := by decide +kernel
theorem dX3_opens_42 : decode cX3_opens 42 = .ok (.aload_n 2, 1) := by decide +kernel
theorem dX3_opens_43 : decode cX3_opens 43 = .ok (.getfield 54, 3) := by decide +kernel
theorem dX3_opens_46 : decode cX3_opens 46 = .ok (.iconst 4, 1) := by decide +kernel
theorem dX3_opens_47 : decode cX3_opens 47 = .ok (.if_icmp .ge 7, 3) := by decide +kernel
theorem dX3_opens_50 : decode cX3_opens 50 = .ok (.iconst 1, 1) := by decide +kernel
theorem dX3_opens_51 : decode cX3_opens 51 = .ok (.goto 4, 3) := by decide +kernel
theorem dX3_opens_54 : decode cX3_opens 54 = .ok (.iconst 0, 1) := by decide +kernel
theorem dX3_opens_55 : decode cX3_opens 55 = .ok (.ireturn, 1) := by decide +kernel
theorem dX3_opens_56 : decode cX3_opens 56 = .ok (.iload_n 1, 1) := by decide +kernel
theorem dX3_opens_57 : decode cX3_opens 57 = .ok (.bipush 78, 2) := by decide +kernel
theorem dX3_opens_59 : decode cX3_opens 59 = .ok (.if_icmp .ne 23, 3) := by decide +kernel
theorem dX3_opens_62 : decode cX3_opens 62 = .ok (.aload_n 2, 1) := by decide +kernel
theorem dX3_opens_63 : decode cX3_opens 63 = .ok (.getfield 57, 3) := by decide +kernel
theorem dX3_opens_66 : decode cX3_opens 66 = .ok (.aload_n 2, 1) := by decide +kernel
theorem dX3_opens_67 : decode cX3_opens 67 = .ok (.getfield 51, 3) := by decide +kernel
theorem dX3_opens_70 : decode cX3_opens 70 = .ok (.aload_n 2, 1) := by decide +kernel
theorem dX3_opens_71 : decode cX3_opens 71 = .ok (.getfield 54, 3) := by decide +kernel
theorem dX3_opens_74 : decode cX3_opens 74 = .ok (.imul, 1) := by decide +kernel
theorem dX3_opens_75 : decode cX3_opens 75 = .ok (.if_icmp .ge 7, 3) := by decide +kernel
theorem dX3_opens_78 : decode cX3_opens 78 = .ok (.iconst 1, 1) := by decide +kernel
theorem dX3_opens_79 : decode cX3_opens 79 = .ok (.goto 4, 3) := by decide +kernel
theorem dX3_opens_82 : decode cX3_opens 82 = .ok (.iconst 0, 1) := by decide +kernel
theorem dX3_opens_83 : decode cX3_opens 83 = .ok (.ireturn, 1) := by decide +kernel
theorem dX3_takesOfPerson_0 : decode cX3_takesOfPerson 0 = .ok (.aload_n 0, 1) := by decide +kernel
theorem dX3_takesOfPerson_1 : decode cX3_takesOfPerson 1 = .ok (.aload_n 0, 1) := by decide +kernel
theorem dX3_takesOfPerson_2 : decode cX3_takesOfPerson 2 = .ok (.getfield 48, 3) := by decide +kernel
theorem dX3_takesOfPerson_5 : decode cX3_takesOfPerson 5 = .ok (.bipush 10, 2) := by decide +kernel
theorem dX3_takesOfPerson_7 : decode cX3_takesOfPerson 7 = .ok (.imul, 1) := by decide +kernel
theorem dX3_takesOfPerson_8 : decode cX3_takesOfPerson 8 = .ok (.iload_n 1, 1) := by decide +kernel
theorem dX3_takesOfPerson_9 : decode cX3_takesOfPerson 9 = .ok (.iadd, 1) := by decide +kernel
theorem dX3_takesOfPerson_10 : decode cX3_takesOfPerson 10 = .ok (.putfield 48, 3) := by decide +kernel
theorem dX3_takesOfPerson_13 : decode cX3_takesOfPerson 13 = .ok (.aload_n 0, 1) := by decide +kernel
theorem dX3_takesOfPerson_14 : decode cX3_takesOfPerson 14 = .ok (.getfield 36, 3) := by decide +kernel
theorem dX3_takesOfPerson_17 : decode cX3_takesOfPerson 17 = .ok (.iconst 2, 1) := by decide +kernel
theorem dX3_takesOfPerson_18 : decode cX3_takesOfPerson 18 = .ok (.if_icmp .ne 36, 3) := by decide +kernel
theorem dX3_takesOfPerson_21 : decode cX3_takesOfPerson 21 = .ok (.aload_n 2, 1) := by decide +kernel
theorem dX3_takesOfPerson_22 : decode cX3_takesOfPerson 22 = .ok (.getfield 60, 3) := by decide +kernel
theorem dX3_takesOfPerson_25 : decode cX3_takesOfPerson 25 = .ok (.aload_n 2, 1) := by decide +kernel
theorem dX3_takesOfPerson_26 : decode cX3_takesOfPerson 26 = .ok (.getfield 51, 3) := by decide +kernel
theorem dX3_takesOfPerson_29 : decode cX3_takesOfPerson 29 = .ok (.aload_n 0, 1) := by decide +kernel
theorem dX3_takesOfPerson_30 : decode cX3_takesOfPerson 30 = .ok (.getfield 48, 3) := by decide +kernel
theorem dX3_takesOfPerson_33 : decode cX3_takesOfPerson 33 = .ok (.iastore, 1) := by decide +kernel
theorem dX3_takesOfPerson_34 : decode cX3_takesOfPerson 34 = .ok (.aload_n 0, 1) := by decide +kernel
theorem dX3_takesOfPerson_35 : decode cX3_takesOfPerson 35 = .ok (.getfield 48, 3) := by decide +kernel
theorem dX3_takesOfPerson_38 : decode cX3_takesOfPerson 38 = .ok (.ifCond .le 7, 3) := by decide +kernel
theorem dX3_takesOfPerson_41 : decode cX3_takesOfPerson 41 = .ok (.iconst 1, 1) := by decide +kernel
theorem dX3_takesOfPerson_42 : decode cX3_takesOfPerson 42 = .ok (.goto 4, 3) := by decide +kernel
theorem dX3_takesOfPerson_45 : decode cX3_takesOfPerson 45 = .ok (.iconst 0, 1) := by decide +kernel
theorem dX3_takesOfPerson_46 : decode cX3_takesOfPerson 46 = .ok (.istore_n 3, 1) := by decide +kernel
theorem dX3_takesOfPerson_47 : decode cX3_takesOfPerson 47 = .ok (.aload_n 0, 1) := by decide +kernel
theorem dX3_takesOfPerson_48 : decode cX3_takesOfPerson 48 = .ok (.iconst 0, 1) := by decide +kernel
theorem dX3_takesOfPerson_49 : decode cX3_takesOfPerson 49 = .ok (.putfield 48, 3) := by decide +kernel
theorem dX3_takesOfPerson_52 : decode cX3_takesOfPerson 52 = .ok (.iload_n 3, 1) := by decide +kernel
theorem dX3_takesOfPerson_53 : decode cX3_takesOfPerson 53 = .ok (.ireturn, 1) := by decide +kernel
theorem dX3_takesOfPerson_54 : decode cX3_takesOfPerson 54 = .ok (.aload_n 0, 1) := by decide +kernel
theorem dX3_takesOfPerson_55 : decode cX3_takesOfPerson 55 = .ok (.getfield 36, 3) := by decide +kernel
theorem dX3_takesOfPerson_58 : decode cX3_takesOfPerson 58 = .ok (.iconst 4, 1) := by decide +kernel
theorem dX3_takesOfPerson_59 : decode cX3_takesOfPerson 59 = .ok (.if_icmp .ne 31, 3) := by decide +kernel
theorem dX3_takesOfPerson_62 : decode cX3_takesOfPerson 62 = .ok (.aload_n 2, 1) := by decide +kernel
theorem dX3_takesOfPerson_63 : decode cX3_takesOfPerson 63 = .ok (.getfield 63, 3) := by decide +kernel
theorem dX3_takesOfPerson_66 : decode cX3_takesOfPerson 66 = .ok (.aload_n 2, 1) := by decide +kernel
theorem dX3_takesOfPerson_67 : decode cX3_takesOfPerson 67 = .ok (.getfield 51, 3) := by decide +kernel
theorem dX3_takesOfPerson_70 : decode cX3_takesOfPerson 70 = .ok (.aload_n 0, 1) := by decide +kernel
theorem dX3_takesOfPerson_71 : decode cX3_takesOfPerson 71 = .ok (.getfield 48, 3) := by decide +kernel
theorem dX3_takesOfPerson_74 : decode cX3_takesOfPerson 74 = .ok (.iastore, 1) := by decide +kernel
theorem dX3_takesOfPerson_75 : decode cX3_takesOfPerson 75 = .ok (.aload_n 2, 1) := by decide +kernel
theorem dX3_takesOfPerson_76 : decode cX3_takesOfPerson 76 = .ok (.dup, 1) := by decide +kernel
theorem dX3_takesOfPerson_77 : decode cX3_takesOfPerson 77 = .ok (.getfield 51, 3) := by decide +kernel
theorem dX3_takesOfPerson_80 : decode cX3_takesOfPerson 80 = .ok (.iconst 1, 1) := by decide +kernel
theorem dX3_takesOfPerson_81 : decode cX3_takesOfPerson 81 = .ok (.iadd, 1) := by decide +kernel
theorem dX3_takesOfPerson_82 : decode cX3_takesOfPerson 82 = .ok (.putfield 51, 3) := by decide +kernel
theorem dX3_takesOfPerson_85 : decode cX3_takesOfPerson 85 = .ok (.aload_n 0, 1) := by decide +kernel
theorem dX3_takesOfPerson_86 : decode cX3_takesOfPerson 86 = .ok (.iconst 0, 1) := by decide +kernel
theorem dX3_takesOfPerson_87 : decode cX3_takesOfPerson 87 = .ok (.putfield 16, 3) := by decide +kernel
theorem dX3_takesOfPerson_90 : decode cX3_takesOfPerson 90 = .ok (.iconst 1, 1) := by decide +kernel
theorem dX3_takesOfPerson_91 : decode cX3_takesOfPerson 91 = .ok (.ireturn, 1) := by decide +kernel
theorem dX3_takesOfCounter_0 : decode cX3_takesOfCounter 0 = .ok (.aload_n 0, 1) := by decide +kernel
theorem dX3_takesOfCounter_1 : decode cX3_takesOfCounter 1 = .ok (.aload_n 0, 1) := by decide +kernel
theorem dX3_takesOfCounter_2 : decode cX3_takesOfCounter 2 = .ok (.getfield 48, 3) := by decide +kernel
theorem dX3_takesOfCounter_5 : decode cX3_takesOfCounter 5 = .ok (.bipush 10, 2) := by decide +kernel
theorem dX3_takesOfCounter_7 : decode cX3_takesOfCounter 7 = .ok (.imul, 1) := by decide +kernel
theorem dX3_takesOfCounter_8 : decode cX3_takesOfCounter 8 = .ok (.iload_n 1, 1) := by decide +kernel
theorem dX3_takesOfCounter_9 : decode cX3_takesOfCounter 9 = .ok (.iadd, 1) := by decide +kernel
theorem dX3_takesOfCounter_10 : decode cX3_takesOfCounter 10 = .ok (.putfield 48, 3) := by decide +kernel
theorem dX3_takesOfCounter_13 : decode cX3_takesOfCounter 13 = .ok (.aload_n 0, 1) := by decide +kernel
theorem dX3_takesOfCounter_14 : decode cX3_takesOfCounter 14 = .ok (.getfield 36, 3) := by decide +kernel
theorem dX3_takesOfCounter_17 : decode cX3_takesOfCounter 17 = .ok (.iconst 2, 1) := by decide +kernel
theorem dX3_takesOfCounter_18 : decode cX3_takesOfCounter 18 = .ok (.if_icmp .ne 36, 3) := by decide +kernel
theorem dX3_takesOfCounter_21 : decode cX3_takesOfCounter 21 = .ok (.aload_n 2, 1) := by decide +kernel
theorem dX3_takesOfCounter_22 : decode cX3_takesOfCounter 22 = .ok (.getfield 66, 3) := by decide +kernel
theorem dX3_takesOfCounter_25 : decode cX3_takesOfCounter 25 = .ok (.aload_n 2, 1) := by decide +kernel
theorem dX3_takesOfCounter_26 : decode cX3_takesOfCounter 26 = .ok (.getfield 54, 3) := by decide +kernel
theorem dX3_takesOfCounter_29 : decode cX3_takesOfCounter 29 = .ok (.aload_n 0, 1) := by decide +kernel
theorem dX3_takesOfCounter_30 : decode cX3_takesOfCounter 30 = .ok (.getfield 48, 3) := by decide +kernel
theorem dX3_takesOfCounter_33 : decode cX3_takesOfCounter 33 = .ok (.iastore, 1) := by decide +kernel
theorem dX3_takesOfCounter_34 : decode cX3_takesOfCounter 34 = .ok (.aload_n 0, 1) := by decide +kernel
theorem dX3_takesOfCounter_35 : decode cX3_takesOfCounter 35 = .ok (.getfield 48, 3) := by decide +kernel
theorem dX3_takesOfCounter_38 : decode cX3_takesOfCounter 38 = .ok (.ifCond .le 7, 3) := by decide +kernel
theorem dX3_takesOfCounter_41 : decode cX3_takesOfCounter 41 = .ok (.iconst 1, 1) := by decide +kernel
theorem dX3_takesOfCounter_42 : decode cX3_takesOfCounter 42 = .ok (.goto 4, 3) := by decide +kernel
theorem dX3_takesOfCounter_45 : decode cX3_takesOfCounter 45 = .ok (.iconst 0, 1) := by decide +kernel
theorem dX3_takesOfCounter_46 : decode cX3_takesOfCounter 46 = .ok (.istore_n 3, 1) := by decide +kernel
theorem dX3_takesOfCounter_47 : decode cX3_takesOfCounter 47 = .ok (.aload_n 0, 1) := by decide +kernel
theorem dX3_takesOfCounter_48 : decode cX3_takesOfCounter 48 = .ok (.iconst 0, 1) := by decide +kernel
theorem dX3_takesOfCounter_49 : decode cX3_takesOfCounter 49 = .ok (.putfield 48, 3) := by decide +kernel
theorem dX3_takesOfCounter_52 : decode cX3_takesOfCounter 52 = .ok (.iload_n 3, 1) := by decide +kernel
theorem dX3_takesOfCounter_53 : decode cX3_takesOfCounter 53 = .ok (.ireturn, 1) := by decide +kernel
theorem dX3_takesOfCounter_54 : decode cX3_takesOfCounter 54 = .ok (.aload_n 0, 1) := by decide +kernel
theorem dX3_takesOfCounter_55 : decode cX3_takesOfCounter 55 = .ok (.getfield 36, 3) := by decide +kernel
theorem dX3_takesOfCounter_58 : decode cX3_takesOfCounter 58 = .ok (.bipush 6, 2) := by decide +kernel
theorem dX3_takesOfCounter_60 : decode cX3_takesOfCounter 60 = .ok (.if_icmp .ne 31, 3) := by decide +kernel
theorem dX3_takesOfCounter_63 : decode cX3_takesOfCounter 63 = .ok (.aload_n 2, 1) := by decide +kernel
theorem dX3_takesOfCounter_64 : decode cX3_takesOfCounter 64 = .ok (.getfield 69, 3) := by decide +kernel
theorem dX3_takesOfCounter_67 : decode cX3_takesOfCounter 67 = .ok (.aload_n 2, 1) := by decide +kernel
theorem dX3_takesOfCounter_68 : decode cX3_takesOfCounter 68 = .ok (.getfield 54, 3) := by decide +kernel
theorem dX3_takesOfCounter_71 : decode cX3_takesOfCounter 71 = .ok (.aload_n 0, 1) := by decide +kernel
theorem dX3_takesOfCounter_72 : decode cX3_takesOfCounter 72 = .ok (.getfield 48, 3) := by decide +kernel
theorem dX3_takesOfCounter_75 : decode cX3_takesOfCounter 75 = .ok (.iastore, 1) := by decide +kernel
theorem dX3_takesOfCounter_76 : decode cX3_takesOfCounter 76 = .ok (.aload_n 2, 1) := by decide +kernel
theorem dX3_takesOfCounter_77 : decode cX3_takesOfCounter 77 = .ok (.dup, 1) := by decide +kernel
theorem dX3_takesOfCounter_78 : decode cX3_takesOfCounter 78 = .ok (.getfield 54, 3) := by decide +kernel
theorem dX3_takesOfCounter_81 : decode cX3_takesOfCounter 81 = .ok (.iconst 1, 1) := by decide +kernel
theorem dX3_takesOfCounter_82 : decode cX3_takesOfCounter 82 = .ok (.iadd, 1) := by decide +kernel
theorem dX3_takesOfCounter_83 : decode cX3_takesOfCounter 83 = .ok (.putfield 54, 3) := by decide +kernel
theorem dX3_takesOfCounter_86 : decode cX3_takesOfCounter 86 = .ok (.aload_n 0, 1) := by decide +kernel
theorem dX3_takesOfCounter_87 : decode cX3_takesOfCounter 87 = .ok (.iconst 0, 1) := by decide +kernel
theorem dX3_takesOfCounter_88 : decode cX3_takesOfCounter 88 = .ok (.putfield 16, 3) := by decide +kernel
theorem dX3_takesOfCounter_91 : decode cX3_takesOfCounter 91 = .ok (.iconst 1, 1) := by decide +kernel
theorem dX3_takesOfCounter_92 : decode cX3_takesOfCounter 92 = .ok (.ireturn, 1) := by decide +kernel
theorem dX3_takesOfBar_0 : decode cX3_takesOfBar 0 = .ok (.aload_n 0, 1) := by decide +kernel
theorem dX3_takesOfBar_1 : decode cX3_takesOfBar 1 = .ok (.getfield 36, 3) := by decide +kernel
theorem dX3_takesOfBar_4 : decode cX3_takesOfBar 4 = .ok (.iconst 1, 1) := by decide +kernel
theorem dX3_takesOfBar_5 : decode cX3_takesOfBar 5 = .ok (.if_icmp .ne 38, 3) := by decide +kernel
theorem dX3_takesOfBar_8 : decode cX3_takesOfBar 8 = .ok (.aload_n 0, 1) := by decide +kernel
theorem dX3_takesOfBar_9 : decode cX3_takesOfBar 9 = .ok (.iload_n 1, 1) := by decide +kernel
theorem dX3_takesOfBar_10 : decode cX3_takesOfBar 10 = .ok (.putfield 72, 3) := by decide +kernel
theorem dX3_takesOfBar_13 : decode cX3_takesOfBar 13 = .ok (.aload_n 2, 1) := by decide +kernel
theorem dX3_takesOfBar_14 : decode cX3_takesOfBar 14 = .ok (.iload_n 1, 1) := by decide +kernel
theorem dX3_takesOfBar_15 : decode cX3_takesOfBar 15 = .ok (.invokevirtual 75, 3) := by decide +kernel
theorem dX3_takesOfBar_18 : decode cX3_takesOfBar 18 = .ok (.ifCond .eq 23, 3) := by decide +kernel
theorem dX3_takesOfBar_21 : decode cX3_takesOfBar 21 = .ok (.aload_n 2, 1) := by decide +kernel
theorem dX3_takesOfBar_22 : decode cX3_takesOfBar 22 = .ok (.getfield 79, 3) := by decide +kernel
theorem dX3_takesOfBar_25 : decode cX3_takesOfBar 25 = .ok (.iload_n 1, 1) := by decide +kernel
theorem dX3_takesOfBar_26 : decode cX3_takesOfBar 26 = .ok (.iaload, 1) := by decide +kernel
theorem dX3_takesOfBar_27 : decode cX3_takesOfBar 27 = .ok (.invokestatic 82, 3) := by decide +kernel
theorem dX3_takesOfBar_30 : decode cX3_takesOfBar 30 = .ok (.aload_n 2, 1) := by decide +kernel
theorem dX3_takesOfBar_31 : decode cX3_takesOfBar 31 = .ok (.getfield 54, 3) := by decide +kernel
theorem dX3_takesOfBar_34 : decode cX3_takesOfBar 34 = .ok (.if_icmp .ge 7, 3) := by decide +kernel
theorem dX3_takesOfBar_37 : decode cX3_takesOfBar 37 = .ok (.iconst 1, 1) := by decide +kernel
theorem dX3_takesOfBar_38 : decode cX3_takesOfBar 38 = .ok (.goto 4, 3) := by decide +kernel
theorem dX3_takesOfBar_41 : decode cX3_takesOfBar 41 = .ok (.iconst 0, 1) := by decide +kernel
theorem dX3_takesOfBar_42 : decode cX3_takesOfBar 42 = .ok (.ireturn, 1) := by decide +kernel
theorem dX3_takesOfBar_43 : decode cX3_takesOfBar 43 = .ok (.aload_n 2, 1) := by decide +kernel
theorem dX3_takesOfBar_44 : decode cX3_takesOfBar 44 = .ok (.iload_n 1, 1) := by decide +kernel
theorem dX3_takesOfBar_45 : decode cX3_takesOfBar 45 = .ok (.invokevirtual 88, 3) := by decide +kernel
theorem dX3_takesOfBar_48 : decode cX3_takesOfBar 48 = .ok (.ifCond .eq 15, 3) := by decide +kernel
theorem dX3_takesOfBar_51 : decode cX3_takesOfBar 51 = .ok (.aload_n 2, 1) := by decide +kernel
theorem dX3_takesOfBar_52 : decode cX3_takesOfBar 52 = .ok (.aload_n 0, 1) := by decide +kernel
theorem dX3_takesOfBar_53 : decode cX3_takesOfBar 53 = .ok (.getfield 72, 3) := by decide +kernel
theorem dX3_takesOfBar_56 : decode cX3_takesOfBar 56 = .ok (.iload_n 1, 1) := by decide +kernel
theorem dX3_takesOfBar_57 : decode cX3_takesOfBar 57 = .ok (.invokevirtual 91, 3) := by decide +kernel
theorem dX3_takesOfBar_60 : decode cX3_takesOfBar 60 = .ok (.ifCond .eq 5, 3) := by decide +kernel
theorem dX3_takesOfBar_63 : decode cX3_takesOfBar 63 = .ok (.iconst 0, 1) := by decide +kernel
theorem dX3_takesOfBar_64 : decode cX3_takesOfBar 64 = .ok (.ireturn, 1) := by decide +kernel
theorem dX3_takesOfBar_65 : decode cX3_takesOfBar 65 = .ok (.aload_n 2, 1) := by decide +kernel
theorem dX3_takesOfBar_66 : decode cX3_takesOfBar 66 = .ok (.getfield 79, 3) := by decide +kernel
theorem dX3_takesOfBar_69 : decode cX3_takesOfBar 69 = .ok (.aload_n 0, 1) := by decide +kernel
theorem dX3_takesOfBar_70 : decode cX3_takesOfBar 70 = .ok (.getfield 72, 3) := by decide +kernel
theorem dX3_takesOfBar_73 : decode cX3_takesOfBar 73 = .ok (.dup2, 1) := by decide +kernel
theorem dX3_takesOfBar_74 : decode cX3_takesOfBar 74 = .ok (.iaload, 1) := by decide +kernel
theorem dX3_takesOfBar_75 : decode cX3_takesOfBar 75 = .ok (.iconst 1, 1) := by decide +kernel
theorem dX3_takesOfBar_76 : decode cX3_takesOfBar 76 = .ok (.iload_n 1, 1) := by decide +kernel
theorem dX3_takesOfBar_77 : decode cX3_takesOfBar 77 = .ok (.ishl, 1) := by decide +kernel
theorem dX3_takesOfBar_78 : decode cX3_takesOfBar 78 = .ok (.ior, 1) := by decide +kernel
theorem dX3_takesOfBar_79 : decode cX3_takesOfBar 79 = .ok (.iastore, 1) := by decide +kernel
theorem dX3_takesOfBar_80 : decode cX3_takesOfBar 80 = .ok (.aload_n 2, 1) := by decide +kernel
theorem dX3_takesOfBar_81 : decode cX3_takesOfBar 81 = .ok (.dup, 1) := by decide +kernel
theorem dX3_takesOfBar_82 : decode cX3_takesOfBar 82 = .ok (.getfield 57, 3) := by decide +kernel
theorem dX3_takesOfBar_85 : decode cX3_takesOfBar 85 = .ok (.iconst 1, 1) := by decide +kernel
theorem dX3_takesOfBar_86 : decode cX3_takesOfBar 86 = .ok (.iadd, 1) := by decide +kernel
theorem dX3_takesOfBar_87 : decode cX3_takesOfBar 87 = .ok (.putfield 57, 3) := by decide +kernel
theorem dX3_takesOfBar_90 : decode cX3_takesOfBar 90 = .ok (.aload_n 0, 1) := by decide +kernel
theorem dX3_takesOfBar_91 : decode cX3_takesOfBar 91 = .ok (.iconst 0, 1) := by decide +kernel
theorem dX3_takesOfBar_92 : decode cX3_takesOfBar 92 = .ok (.putfield 16, 3) := by decide +kernel
theorem dX3_takesOfBar_95 : decode cX3_takesOfBar 95 = .ok (.iconst 1, 1) := by decide +kernel
theorem dX3_takesOfBar_96 : decode cX3_takesOfBar 96 = .ok (.ireturn, 1) := by decide +kernel
theorem dX4_init_0 : decode cX4_init 0 = .ok (.aload_n 0, 1) := by decide +kernel
theorem dX4_init_1 : decode cX4_init 1 = .ok (.invokespecial 3, 3) := by decide +kernel
theorem dX4_init_4 : decode cX4_init 4 = .ok (.aload_n 0, 1) := by decide +kernel
theorem dX4_init_5 : decode cX4_init 5 = .ok (.bipush 72, 2) := by decide +kernel
theorem dX4_init_7 : decode cX4_init 7 = .ok (.newarray .int, 2) := by decide +kernel
theorem dX4_init_9 : decode cX4_init 9 = .ok (.putfield 9, 3) := by decide +kernel
theorem dX4_init_12 : decode cX4_init 12 = .ok (.return_, 1) := by decide +kernel
theorem dX4_append_0 : decode cX4_append 0 = .ok (.iload_n 1, 1) := by decide +kernel
theorem dX4_append_1 : decode cX4_append 1 = .ok (.iconst 1, 1) := by decide +kernel
theorem dX4_append_2 : decode cX4_append 2 = .ok (.isub, 1) := by decide +kernel
theorem dX4_append_3 : decode cX4_append 3 = .ok (.istore 4, 2) := by decide +kernel
theorem dX4_append_5 : decode cX4_append 5 = .ok (.iload 4, 2) := by decide +kernel
theorem dX4_append_7 : decode cX4_append 7 = .ok (.ifCond .lt 49, 3) := by decide +kernel
theorem dX4_append_10 : decode cX4_append 10 = .ok (.aload_n 0, 1) := by decide +kernel
theorem dX4_append_11 : decode cX4_append 11 = .ok (.getfield 15, 3) := by decide +kernel
theorem dX4_append_14 : decode cX4_append 14 = .ok (.bipush 72, 2) := by decide +kernel
theorem dX4_append_16 : decode cX4_append 16 = .ok (.if_icmp .ge 40, 3) := by decide +kernel
theorem dX4_append_19 : decode cX4_append 19 = .ok (.aload_n 0, 1) := by decide +kernel
theorem dX4_append_20 : decode cX4_append 20 = .ok (.getfield 9, 3) := by decide +kernel
theorem dX4_append_23 : decode cX4_append 23 = .ok (.aload_n 0, 1) := by decide +kernel
theorem dX4_append_24 : decode cX4_append 24 = .ok (.getfield 15, 3) := by decide +kernel
theorem dX4_append_27 : decode cX4_append 27 = .ok (.lload_n 2, 1) := by decide +kernel
theorem dX4_append_28 : decode cX4_append 28 = .ok (.bipush 8, 2) := by decide +kernel
theorem dX4_append_30 : decode cX4_append 30 = .ok (.iload 4, 2) := by decide +kernel
theorem dX4_append_32 : decode cX4_append 32 = .ok (.imul, 1) := by decide +kernel
theorem dX4_append_33 : decode cX4_append 33 = .ok (.lushr, 1) := by decide +kernel
theorem dX4_append_34 : decode cX4_append 34 = .ok (.l2i, 1) := by decide +kernel
theorem dX4_append_35 : decode cX4_append 35 = .ok (.sipush 255, 3) := by decide +kernel
theorem dX4_append_38 : decode cX4_append 38 = .ok (.iand, 1) := by decide +kernel
theorem dX4_append_39 : decode cX4_append 39 = .ok (.iastore, 1) := by decide +kernel
theorem dX4_append_40 : decode cX4_append 40 = .ok (.aload_n 0, 1) := by decide +kernel
theorem dX4_append_41 : decode cX4_append 41 = .ok (.dup, 1) := by decide +kernel
theorem dX4_append_42 : decode cX4_append 42 = .ok (.getfield 15, 3) := by decide +kernel
theorem dX4_append_45 : decode cX4_append 45 = .ok (.iconst 1, 1) := by decide +kernel
theorem dX4_append_46 : decode cX4_append 46 = .ok (.iadd, 1) := by decide +kernel
theorem dX4_append_47 : decode cX4_append 47 = .ok (.putfield 15, 3) := by decide +kernel
theorem dX4_append_50 : decode cX4_append 50 = .ok (.iinc 4 (-1), 3) := by decide +kernel
theorem dX4_append_53 : decode cX4_append 53 = .ok (.goto (-48), 3) := by decide +kernel
theorem dX4_append_56 : decode cX4_append 56 = .ok (.return_, 1) := by decide +kernel
theorem dX5_init_0 : decode cX5_init 0 = .ok (.aload_n 0, 1) := by decide +kernel
theorem dX5_init_1 : decode cX5_init 1 = .ok (.invokespecial 3, 3) := by decide +kernel
theorem dX5_init_4 : decode cX5_init 4 = .ok (.aload_n 0, 1) := by decide +kernel
theorem dX5_init_5 : decode cX5_init 5 = .ok (.bipush 6, 2) := by decide +kernel
theorem dX5_init_7 : decode cX5_init 7 = .ok (.newarray .int, 2) := by decide +kernel
theorem dX5_init_9 : decode cX5_init 9 = .ok (.putfield 9, 3) := by decide +kernel
theorem dX5_init_12 : decode cX5_init 12 = .ok (.aload_n 0, 1) := by decide +kernel
theorem dX5_init_13 : decode cX5_init 13 = .ok (.iconst 4, 1) := by decide +kernel
theorem dX5_init_14 : decode cX5_init 14 = .ok (.newarray .int, 2) := by decide +kernel
theorem dX5_init_16 : decode cX5_init 16 = .ok (.putfield 15, 3) := by decide +kernel
theorem dX5_init_19 : decode cX5_init 19 = .ok (.aload_n 0, 1) := by decide +kernel
theorem dX5_init_20 : decode cX5_init 20 = .ok (.bipush 12, 2) := by decide +kernel
theorem dX5_init_22 : decode cX5_init 22 = .ok (.newarray .int, 2) := by decide +kernel
theorem dX5_init_24 : decode cX5_init 24 = .ok (.putfield 18, 3) := by decide +kernel
theorem dX5_init_27 : decode cX5_init 27 = .ok (.aload_n 0, 1) := by decide +kernel
theorem dX5_init_28 : decode cX5_init 28 = .ok (.bipush 12, 2) := by decide +kernel
theorem dX5_init_30 : decode cX5_init 30 = .ok (.newarray .int, 2) := by decide +kernel
theorem dX5_init_32 : decode cX5_init 32 = .ok (.putfield 21, 3) := by decide +kernel
theorem dX5_init_35 : decode cX5_init 35 = .ok (.aload_n 0, 1) := by decide +kernel
theorem dX5_init_36 : decode cX5_init 36 = .ok (.bipush 12, 2) := by decide +kernel
theorem dX5_init_38 : decode cX5_init 38 = .ok (.newarray .int, 2) := by decide +kernel
theorem dX5_init_40 : decode cX5_init 40 = .ok (.putfield 24, 3) := by decide +kernel
theorem dX5_init_43 : decode cX5_init 43 = .ok (.aload_n 0, 1) := by decide +kernel
theorem dX5_init_44 : decode cX5_init 44 = .ok (.bipush 12, 2) := by decide +kernel
theorem dX5_init_46 : decode cX5_init 46 = .ok (.newarray .int, 2) := by decide +kernel
theorem dX5_init_48 : decode cX5_init 48 = .ok (.putfield 27, 3) := by decide +kernel
theorem dX5_init_51 : decode cX5_init 51 = .ok (.aload_n 0, 1) := by decide +kernel
theorem dX5_init_52 : decode cX5_init 52 = .ok (.bipush 30, 2) := by decide +kernel
theorem dX5_init_54 : decode cX5_init 54 = .ok (.putfield 30, 3) := by decide +kernel
theorem dX5_init_57 : decode cX5_init 57 = .ok (.return_, 1) := by decide +kernel
theorem dX5_begin_0 : decode cX5_begin 0 = .ok (.aload_n 1, 1) := by decide +kernel
theorem dX5_begin_1 : decode cX5_begin 1 = .ok (.getfield 34, 3) := by decide +kernel
theorem dX5_begin_4 : decode cX5_begin 4 = .ok (.iconst 0, 1) := by decide +kernel
theorem dX5_begin_5 : decode cX5_begin 5 = .ok (.aload_n 0, 1) := by decide +kernel
theorem dX5_begin_6 : decode cX5_begin 6 = .ok (.getfield 9, 3) := by decide +kernel
theorem dX5_begin_9 : decode cX5_begin 9 = .ok (.iconst 0, 1) := by decide +kernel
theorem dX5_begin_10 : decode cX5_begin 10 = .ok (.bipush 6, 2) := by decide +kernel
theorem dX5_begin_12 : decode cX5_begin 12 = .ok (.invokestatic 37, 3) := by decide +kernel
theorem dX5_begin_15 : decode cX5_begin 15 = .ok (.aload_n 1, 1) := by decide +kernel
theorem dX5_begin_16 : decode cX5_begin 16 = .ok (.getfield 43, 3) := by decide +kernel
theorem dX5_begin_19 : decode cX5_begin 19 = .ok (.iconst 0, 1) := by decide +kernel
theorem dX5_begin_20 : decode cX5_begin 20 = .ok (.aload_n 0, 1) := by decide +kernel
theorem dX5_begin_21 : decode cX5_begin 21 = .ok (.getfield 15, 3) := by decide +kernel
theorem dX5_begin_24 : decode cX5_begin 24 = .ok (.iconst 0, 1) := by decide +kernel
theorem dX5_begin_25 : decode cX5_begin 25 = .ok (.iconst 4, 1) := by decide +kernel
theorem dX5_begin_26 : decode cX5_begin 26 = .ok (.invokestatic 37, 3) := by decide +kernel
theorem dX5_begin_29 : decode cX5_begin 29 = .ok (.aload_n 0, 1) := by decide +kernel
theorem dX5_begin_30 : decode cX5_begin 30 = .ok (.iconst 0, 1) := by decide +kernel
theorem dX5_begin_31 : decode cX5_begin 31 = .ok (.putfield 44, 3) := by decide +kernel
theorem dX5_begin_34 : decode cX5_begin 34 = .ok (.return_, 1) := by decide +kernel
theorem dX5_takeFrom_0 : decode cX5_takeFrom 0 = .ok (.aload_n 1, 1) := by decide +kernel
theorem dX5_takeFrom_1 : decode cX5_takeFrom 1 = .ok (.getfield 9, 3) := by decide +kernel
theorem dX5_takeFrom_4 : decode cX5_takeFrom 4 = .ok (.iconst 0, 1) := by decide +kernel
theorem dX5_takeFrom_5 : decode cX5_takeFrom 5 = .ok (.aload_n 0, 1) := by decide +kernel
theorem dX5_takeFrom_6 : decode cX5_takeFrom 6 = .ok (.getfield 9, 3) := by decide +kernel
theorem dX5_takeFrom_9 : decode cX5_takeFrom 9 = .ok (.iconst 0, 1) := by decide +kernel
theorem dX5_takeFrom_10 : decode cX5_takeFrom 10 = .ok (.bipush 6, 2) := by decide +kernel
theorem dX5_takeFrom_12 : decode cX5_takeFrom 12 = .ok (.invokestatic 37, 3) := by decide +kernel
theorem dX5_takeFrom_15 : decode cX5_takeFrom 15 = .ok (.aload_n 1, 1) := by decide +kernel
theorem dX5_takeFrom_16 : decode cX5_takeFrom 16 = .ok (.getfield 15, 3) := by decide +kernel
theorem dX5_takeFrom_19 : decode cX5_takeFrom 19 = .ok (.iconst 0, 1) := by decide +kernel
theorem dX5_takeFrom_20 : decode cX5_takeFrom 20 = .ok (.aload_n 0, 1) := by decide +kernel
theorem dX5_takeFrom_21 : decode cX5_takeFrom 21 = .ok (.getfield 15, 3) := by decide +kernel
theorem dX5_takeFrom_24 : decode cX5_takeFrom 24 = .ok (.iconst 0, 1) := by decide +kernel
theorem dX5_takeFrom_25 : decode cX5_takeFrom 25 = .ok (.iconst 4, 1) := by decide +kernel
theorem dX5_takeFrom_26 : decode cX5_takeFrom 26 = .ok (.invokestatic 37, 3) := by decide +kernel
theorem dX5_takeFrom_29 : decode cX5_takeFrom 29 = .ok (.aload_n 1, 1) := by decide +kernel
theorem dX5_takeFrom_30 : decode cX5_takeFrom 30 = .ok (.getfield 18, 3) := by decide +kernel
theorem dX5_takeFrom_33 : decode cX5_takeFrom 33 = .ok (.iconst 0, 1) := by decide +kernel
theorem dX5_takeFrom_34 : decode cX5_takeFrom 34 = .ok (.aload_n 0, 1) := by decide +kernel
theorem dX5_takeFrom_35 : decode cX5_takeFrom 35 = .ok (.getfield 18, 3) := by decide +kernel
theorem dX5_takeFrom_38 : decode cX5_takeFrom 38 = .ok (.iconst 0, 1) := by decide +kernel
theorem dX5_takeFrom_39 : decode cX5_takeFrom 39 = .ok (.bipush 12, 2) := by decide +kernel
theorem dX5_takeFrom_41 : decode cX5_takeFrom 41 = .ok (.invokestatic 37, 3) := by decide +kernel
theorem dX5_takeFrom_44 : decode cX5_takeFrom 44 = .ok (.aload_n 1, 1) := by decide +kernel
theorem dX5_takeFrom_45 : decode cX5_takeFrom 45 = .ok (.getfield 21, 3) := by decide +kernel
theorem dX5_takeFrom_48 : decode cX5_takeFrom 48 = .ok (.iconst 0, 1) := by decide +kernel
theorem dX5_takeFrom_49 : decode cX5_takeFrom 49 = .ok (.aload_n 0, 1) := by decide +kernel
theorem dX5_takeFrom_50 : decode cX5_takeFrom 50 = .ok (.getfield 21, 3) := by decide +kernel
theorem dX5_takeFrom_53 : decode cX5_takeFrom 53 = .ok (.iconst 0, 1) := by decide +kernel
theorem dX5_takeFrom_54 : decode cX5_takeFrom 54 = .ok (.bipush 12, 2) := by decide +kernel
theorem dX5_takeFrom_56 : decode cX5_takeFrom 56 = .ok (.invokestatic 37, 3) := by decide +kernel
theorem dX5_takeFrom_59 : decode cX5_takeFrom 59 = .ok (.aload_n 1, 1) := by decide +kernel
theorem dX5_takeFrom_60 : decode cX5_takeFrom 60 = .ok (.getfield 24, 3) := by decide +kernel
theorem dX5_takeFrom_63 : decode cX5_takeFrom 63 = .ok (.iconst 0, 1) := by decide +kernel
theorem dX5_takeFrom_64 : decode cX5_takeFrom 64 = .ok (.aload_n 0, 1) := by decide +kernel
theorem dX5_takeFrom_65 : decode cX5_takeFrom 65 = .ok (.getfield 24, 3) := by decide +kernel
theorem dX5_takeFrom_68 : decode cX5_takeFrom 68 = .ok (.iconst 0, 1) := by decide +kernel
theorem dX5_takeFrom_69 : decode cX5_takeFrom 69 = .ok (.bipush 12, 2) := by decide +kernel
theorem dX5_takeFrom_71 : decode cX5_takeFrom 71 = .ok (.invokestatic 37, 3) := by decide +kernel
theorem dX5_takeFrom_74 : decode cX5_takeFrom 74 = .ok (.aload_n 1, 1) := by decide +kernel
theorem dX5_takeFrom_75 : decode cX5_takeFrom 75 = .ok (.getfield 27, 3) := by decide +kernel
theorem dX5_takeFrom_78 : decode cX5_takeFrom 78 = .ok (.iconst 0, 1) := by decide +kernel
theorem dX5_takeFrom_79 : decode cX5_takeFrom 79 = .ok (.aload_n 0, 1) := by decide +kernel
theorem dX5_takeFrom_80 : decode cX5_takeFrom 80 = .ok (.getfield 27, 3) := by decide +kernel
theorem dX5_takeFrom_83 : decode cX5_takeFrom 83 = .ok (.iconst 0, 1) := by decide +kernel
theorem dX5_takeFrom_84 : decode cX5_takeFrom 84 = .ok (.bipush 12, 2) := by decide +kernel
theorem dX5_takeFrom_86 : decode cX5_takeFrom 86 = .ok (.invokestatic 37, 3) := by decide +kernel
theorem dX5_takeFrom_89 : decode cX5_takeFrom 89 = .ok (.aload_n 0, 1) := by decide +kernel
theorem dX5_takeFrom_90 : decode cX5_takeFrom 90 = .ok (.aload_n 1, 1) := by decide +kernel
theorem dX5_takeFrom_91 : decode cX5_takeFrom 91 = .ok (.getfield 44, 3) := by decide +kernel
theorem dX5_takeFrom_94 : decode cX5_takeFrom 94 = .ok (.putfield 44, 3) := by decide +kernel
theorem dX5_takeFrom_97 : decode cX5_takeFrom 97 = .ok (.aload_n 0, 1) := by decide +kernel
theorem dX5_takeFrom_98 : decode cX5_takeFrom 98 = .ok (.aload_n 1, 1) := by decide +kernel
theorem dX5_takeFrom_99 : decode cX5_takeFrom 99 = .ok (.getfield 30, 3) := by decide +kernel
theorem dX5_takeFrom_102 : decode cX5_takeFrom 102 = .ok (.putfield 30, 3) := by decide +kernel
theorem dX5_takeFrom_105 : decode cX5_takeFrom 105 = .ok (.return_, 1) := by decide +kernel
theorem dX5_sell_0 : decode cX5_sell 0 = .ok (.aload_n 0, 1) := by decide +kernel
theorem dX5_sell_1 : decode cX5_sell 1 = .ok (.getfield 18, 3) := by decide +kernel
theorem dX5_sell_4 : decode cX5_sell 4 = .ok (.aload_n 0, 1) := by decide +kernel
theorem dX5_sell_5 : decode cX5_sell 5 = .ok (.getfield 44, 3) := by decide +kernel
theorem dX5_sell_8 : decode cX5_sell 8 = .ok (.iload_n 1, 1) := by decide +kernel
theorem dX5_sell_9 : decode cX5_sell 9 = .ok (.iastore, 1) := by decide +kernel
theorem dX5_sell_10 : decode cX5_sell 10 = .ok (.aload_n 0, 1) := by decide +kernel
theorem dX5_sell_11 : decode cX5_sell 11 = .ok (.getfield 21, 3) := by decide +kernel
theorem dX5_sell_14 : decode cX5_sell 14 = .ok (.aload_n 0, 1) := by decide +kernel
theorem dX5_sell_15 : decode cX5_sell 15 = .ok (.getfield 44, 3) := by decide +kernel
theorem dX5_sell_18 : decode cX5_sell 18 = .ok (.iload_n 2, 1) := by decide +kernel
theorem dX5_sell_19 : decode cX5_sell 19 = .ok (.iastore, 1) := by decide +kernel
theorem dX5_sell_20 : decode cX5_sell 20 = .ok (.aload_n 0, 1) := by decide +kernel
theorem dX5_sell_21 : decode cX5_sell 21 = .ok (.getfield 24, 3) := by decide +kernel
theorem dX5_sell_24 : decode cX5_sell 24 = .ok (.aload_n 0, 1) := by decide +kernel
theorem dX5_sell_25 : decode cX5_sell 25 = .ok (.getfield 44, 3) := by decide +kernel
theorem dX5_sell_28 : decode cX5_sell 28 = .ok (.iload_n 3, 1) := by decide +kernel
theorem dX5_sell_29 : decode cX5_sell 29 = .ok (.iastore, 1) := by decide +kernel
theorem dX5_sell_30 : decode cX5_sell 30 = .ok (.aload_n 0, 1) := by decide +kernel
theorem dX5_sell_31 : decode cX5_sell 31 = .ok (.getfield 27, 3) := by decide +kernel
theorem dX5_sell_34 : decode cX5_sell 34 = .ok (.aload_n 0, 1) := by decide +kernel
theorem dX5_sell_35 : decode cX5_sell 35 = .ok (.getfield 44, 3) := by decide +kernel
theorem dX5_sell_38 : decode cX5_sell 38 = .ok (.iload_n 3, 1) := by decide +kernel
theorem dX5_sell_39 : decode cX5_sell 39 = .ok (.aload_n 0, 1) := by decide +kernel
theorem dX5_sell_40 : decode cX5_sell 40 = .ok (.getfield 9, 3) := by decide +kernel
theorem dX5_sell_43 : decode cX5_sell 43 = .ok (.iload_n 1, 1) := by decide +kernel
theorem dX5_sell_44 : decode cX5_sell 44 = .ok (.iaload, 1) := by decide +kernel
theorem dX5_sell_45 : decode cX5_sell 45 = .ok (.imul, 1) := by decide +kernel
theorem dX5_sell_46 : decode cX5_sell 46 = .ok (.iastore, 1) := by decide +kernel
theorem dX5_sell_47 : decode cX5_sell 47 = .ok (.aload_n 0, 1) := by decide +kernel
theorem dX5_sell_48 : decode cX5_sell 48 = .ok (.getfield 15, 3) := by decide +kernel
theorem dX5_sell_51 : decode cX5_sell 51 = .ok (.iload_n 2, 1) := by decide +kernel
theorem dX5_sell_52 : decode cX5_sell 52 = .ok (.dup2, 1) := by decide +kernel
theorem dX5_sell_53 : decode cX5_sell 53 = .ok (.iaload, 1) := by decide +kernel
theorem dX5_sell_54 : decode cX5_sell 54 = .ok (.aload_n 0, 1) := by decide +kernel
theorem dX5_sell_55 : decode cX5_sell 55 = .ok (.getfield 27, 3) := by decide +kernel
theorem dX5_sell_58 : decode cX5_sell 58 = .ok (.aload_n 0, 1) := by decide +kernel
theorem dX5_sell_59 : decode cX5_sell 59 = .ok (.getfield 44, 3) := by decide +kernel
theorem dX5_sell_62 : decode cX5_sell 62 = .ok (.iaload, 1) := by decide +kernel
theorem dX5_sell_63 : decode cX5_sell 63 = .ok (.isub, 1) := by decide +kernel
theorem dX5_sell_64 : decode cX5_sell 64 = .ok (.iastore, 1) := by decide +kernel
theorem dX5_sell_65 : decode cX5_sell 65 = .ok (.aload_n 0, 1) := by decide +kernel
theorem dX5_sell_66 : decode cX5_sell 66 = .ok (.dup, 1) := by decide +kernel
theorem dX5_sell_67 : decode cX5_sell 67 = .ok (.getfield 44, 3) := by decide +kernel
theorem dX5_sell_70 : decode cX5_sell 70 = .ok (.iconst 1, 1) := by decide +kernel
theorem dX5_sell_71 : decode cX5_sell 71 = .ok (.iadd, 1) := by decide +kernel
theorem dX5_sell_72 : decode cX5_sell 72 = .ok (.putfield 44, 3) := by decide +kernel
theorem dX5_sell_75 : decode cX5_sell 75 = .ok (.return_, 1) := by decide +kernel
theorem dX5_takeBack_0 : decode cX5_takeBack 0 = .ok (.aload_n 0, 1) := by decide +kernel
theorem dX5_takeBack_1 : decode cX5_takeBack 1 = .ok (.dup, 1) := by decide +kernel
theorem dX5_takeBack_2 : decode cX5_takeBack 2 = .ok (.getfield 44, 3) := by decide +kernel
theorem dX5_takeBack_5 : decode cX5_takeBack 5 = .ok (.iconst 1, 1) := by decide +kernel
theorem dX5_takeBack_6 : decode cX5_takeBack 6 = .ok (.isub, 1) := by decide +kernel
theorem dX5_takeBack_7 : decode cX5_takeBack 7 = .ok (.putfield 44, 3) := by decide +kernel
theorem dX5_takeBack_10 : decode cX5_takeBack 10 = .ok (.aload_n 0, 1) := by decide +kernel
theorem dX5_takeBack_11 : decode cX5_takeBack 11 = .ok (.getfield 15, 3) := by decide +kernel
theorem dX5_takeBack_14 : decode cX5_takeBack 14 = .ok (.aload_n 0, 1) := by decide +kernel
theorem dX5_takeBack_15 : decode cX5_takeBack 15 = .ok (.getfield 21, 3) := by decide +kernel
theorem dX5_takeBack_18 : decode cX5_takeBack 18 = .ok (.aload_n 0, 1) := by decide +kernel
theorem dX5_takeBack_19 : decode cX5_takeBack 19 = .ok (.getfield 44, 3) := by decide +kernel
theorem dX5_takeBack_22 : decode cX5_takeBack 22 = .ok (.iaload, 1) := by decide +kernel
theorem dX5_takeBack_23 : decode cX5_takeBack 23 = .ok (.dup2, 1) := by decide +kernel
theorem dX5_takeBack_24 : decode cX5_takeBack 24 = .ok (.iaload, 1) := by decide +kernel
theorem dX5_takeBack_25 : decode cX5_takeBack 25 = .ok (.aload_n 0, 1) := by decide +kernel
theorem dX5_takeBack_26 : decode cX5_takeBack 26 = .ok (.getfield 27, 3) := by decide +kernel
theorem dX5_takeBack_29 : decode cX5_takeBack 29 = .ok (.aload_n 0, 1) := by decide +kernel
theorem dX5_takeBack_30 : decode cX5_takeBack 30 = .ok (.getfield 44, 3) := by decide +kernel
theorem dX5_takeBack_33 : decode cX5_takeBack 33 = .ok (.iaload, 1) := by decide +kernel
theorem dX5_takeBack_34 : decode cX5_takeBack 34 = .ok (.iadd, 1) := by decide +kernel
theorem dX5_takeBack_35 : decode cX5_takeBack 35 = .ok (.iastore, 1) := by decide +kernel
theorem dX5_takeBack_36 : decode cX5_takeBack 36 = .ok (.return_, 1) := by decide +kernel
theorem dX5_ellsSoldAt_0 : decode cX5_ellsSoldAt 0 = .ok (.iconst 0, 1) := by decide +kernel
theorem dX5_ellsSoldAt_1 : decode cX5_ellsSoldAt 1 = .ok (.istore_n 2, 1) := by decide +kernel
theorem dX5_ellsSoldAt_2 : decode cX5_ellsSoldAt 2 = .ok (.iconst 0, 1) := by decide +kernel
theorem dX5_ellsSoldAt_3 : decode cX5_ellsSoldAt 3 = .ok (.istore_n 3, 1) := by decide +kernel
theorem dX5_ellsSoldAt_4 : decode cX5_ellsSoldAt 4 = .ok (.iload_n 3, 1) := by decide +kernel
theorem dX5_ellsSoldAt_5 : decode cX5_ellsSoldAt 5 = .ok (.aload_n 0, 1) := by decide +kernel
theorem dX5_ellsSoldAt_6 : decode cX5_ellsSoldAt 6 = .ok (.getfield 44, 3) := by decide +kernel
theorem dX5_ellsSoldAt_9 : decode cX5_ellsSoldAt 9 = .ok (.if_icmp .ge 28, 3) := by decide +kernel
theorem dX5_ellsSoldAt_12 : decode cX5_ellsSoldAt 12 = .ok (.aload_n 0, 1) := by decide +kernel
theorem dX5_ellsSoldAt_13 : decode cX5_ellsSoldAt 13 = .ok (.getfield 21, 3) := by decide +kernel
theorem dX5_ellsSoldAt_16 : decode cX5_ellsSoldAt 16 = .ok (.iload_n 3, 1) := by decide +kernel
theorem dX5_ellsSoldAt_17 : decode cX5_ellsSoldAt 17 = .ok (.iaload, 1) := by decide +kernel
theorem dX5_ellsSoldAt_18 : decode cX5_ellsSoldAt 18 = .ok (.iload_n 1, 1) := by decide +kernel
theorem dX5_ellsSoldAt_19 : decode cX5_ellsSoldAt 19 = .ok (.if_icmp .ne 12, 3) := by decide +kernel
theorem dX5_ellsSoldAt_22 : decode cX5_ellsSoldAt 22 = .ok (.iload_n 2, 1) := by decide +kernel
theorem dX5_ellsSoldAt_23 : decode cX5_ellsSoldAt 23 = .ok (.aload_n 0, 1) := by decide +kernel
theorem dX5_ellsSoldAt_24 : decode cX5_ellsSoldAt 24 = .ok (.getfield 24, 3) := by decide +kernel
theorem dX5_ellsSoldAt_27 : decode cX5_ellsSoldAt 27 = .ok (.iload_n 3, 1) := by decide +kernel
theorem dX5_ellsSoldAt_28 : decode cX5_ellsSoldAt 28 = .ok (.iaload, 1) := by decide +kernel
theorem dX5_ellsSoldAt_29 : decode cX5_ellsSoldAt 29 = .ok (.iadd, 1) := by decide +kernel
theorem dX5_ellsSoldAt_30 : decode cX5_ellsSoldAt 30 = .ok (.istore_n 2, 1) := by decide +kernel
theorem dX5_ellsSoldAt_31 : decode cX5_ellsSoldAt 31 = .ok (.iinc 3 1, 3) := by decide +kernel
theorem dX5_ellsSoldAt_34 : decode cX5_ellsSoldAt 34 = .ok (.goto (-30), 3) := by decide +kernel
theorem dX5_ellsSoldAt_37 : decode cX5_ellsSoldAt 37 = .ok (.iload_n 2, 1) := by decide +kernel
theorem dX5_ellsSoldAt_38 : decode cX5_ellsSoldAt 38 = .ok (.ireturn, 1) := by decide +kernel
theorem dX5_lostAt_0 : decode cX5_lostAt 0 = .ok (.iconst 0, 1) := by decide +kernel
theorem dX5_lostAt_1 : decode cX5_lostAt 1 = .ok (.istore_n 2, 1) := by decide +kernel
theorem dX5_lostAt_2 : decode cX5_lostAt 2 = .ok (.iconst 0, 1) := by decide +kernel
theorem dX5_lostAt_3 : decode cX5_lostAt 3 = .ok (.istore_n 3, 1) := by decide +kernel
theorem dX5_lostAt_4 : decode cX5_lostAt 4 = .ok (.iload_n 3, 1) := by decide +kernel
theorem dX5_lostAt_5 : decode cX5_lostAt 5 = .ok (.aload_n 0, 1) := by decide +kernel
theorem dX5_lostAt_6 : decode cX5_lostAt 6 = .ok (.getfield 44, 3) := by decide +kernel
theorem dX5_lostAt_9 : decode cX5_lostAt 9 = .ok (.if_icmp .ge 40, 3) := by decide +kernel
theorem dX5_lostAt_12 : decode cX5_lostAt 12 = .ok (.aload_n 0, 1) := by decide +kernel
theorem dX5_lostAt_13 : decode cX5_lostAt 13 = .ok (.getfield 21, 3) := by decide +kernel
theorem dX5_lostAt_16 : decode cX5_lostAt 16 = .ok (.iload_n 3, 1) := by decide +kernel
theorem dX5_lostAt_17 : decode cX5_lostAt 17 = .ok (.iaload, 1) := by decide +kernel
theorem dX5_lostAt_18 : decode cX5_lostAt 18 = .ok (.iload_n 1, 1) := by decide +kernel
theorem dX5_lostAt_19 : decode cX5_lostAt 19 = .ok (.if_icmp .ne 24, 3) := by decide +kernel
theorem dX5_lostAt_22 : decode cX5_lostAt 22 = .ok (.iload_n 2, 1) := by decide +kernel
theorem dX5_lostAt_23 : decode cX5_lostAt 23 = .ok (.aload_n 0, 1) := by decide +kernel
theorem dX5_lostAt_24 : decode cX5_lostAt 24 = .ok (.getfield 27, 3) := by decide +kernel
theorem dX5_lostAt_27 : decode cX5_lostAt 27 = .ok (.iload_n 3, 1) := by decide +kernel
theorem dX5_lostAt_28 : decode cX5_lostAt 28 = .ok (.iaload, 1) := by decide +kernel
theorem dX5_lostAt_29 : decode cX5_lostAt 29 = .ok (.aload_n 0, 1) := by decide +kernel
theorem dX5_lostAt_30 : decode cX5_lostAt 30 = .ok (.getfield 24, 3) := by decide +kernel
theorem dX5_lostAt_33 : decode cX5_lostAt 33 = .ok (.iload_n 3, 1) := by decide +kernel
theorem dX5_lostAt_34 : decode cX5_lostAt 34 = .ok (.iaload, 1) := by decide +kernel
theorem dX5_lostAt_35 : decode cX5_lostAt 35 = .ok (.aload_n 0, 1) := by decide +kernel
theorem dX5_lostAt_36 : decode cX5_lostAt 36 = .ok (.getfield 30, 3) := by decide +kernel
theorem dX5_lostAt_39 : decode cX5_lostAt 39 = .ok (.imul, 1) := by decide +kernel
theorem dX5_lostAt_40 : decode cX5_lostAt 40 = .ok (.isub, 1) := by decide +kernel
theorem dX5_lostAt_41 : decode cX5_lostAt 41 = .ok (.iadd, 1) := by decide +kernel
theorem dX5_lostAt_42 : decode cX5_lostAt 42 = .ok (.istore_n 2, 1) := by decide +kernel
theorem dX5_lostAt_43 : decode cX5_lostAt 43 = .ok (.iinc 3 1, 3) := by decide +kernel
theorem dX5_lostAt_46 : decode cX5_lostAt 46 = .ok (.goto (-42), 3) := by decide +kernel
theorem dX5_lostAt_49 : decode cX5_lostAt 49 = .ok (.iload_n 2, 1) := by decide +kernel
theorem dX5_lostAt_50 : decode cX5_lostAt 50 = .ok (.ireturn, 1) := by decide +kernel
theorem dX6_init_0 : decode cX6_init 0 = .ok (.aload_n 0, 1) := by decide +kernel
theorem dX6_init_1 : decode cX6_init 1 = .ok (.invokespecial 3, 3) := by decide +kernel
theorem dX6_init_4 : decode cX6_init 4 = .ok (.aload_n 0, 1) := by decide +kernel
theorem dX6_init_5 : decode cX6_init 5 = .ok (.bipush 6, 2) := by decide +kernel
theorem dX6_init_7 : decode cX6_init 7 = .ok (.newarray .int, 2) := by decide +kernel
theorem dX6_init_9 : decode cX6_init 9 = .ok (.putfield 9, 3) := by decide +kernel
theorem dX6_init_12 : decode cX6_init 12 = .ok (.aload_n 0, 1) := by decide +kernel
theorem dX6_init_13 : decode cX6_init 13 = .ok (.bipush 6, 2) := by decide +kernel
theorem dX6_init_15 : decode cX6_init 15 = .ok (.newarray .int, 2) := by decide +kernel
theorem dX6_init_17 : decode cX6_init 17 = .ok (.putfield 15, 3) := by decide +kernel
theorem dX6_init_20 : decode cX6_init 20 = .ok (.aload_n 0, 1) := by decide +kernel
theorem dX6_init_21 : decode cX6_init 21 = .ok (.bipush 6, 2) := by decide +kernel
theorem dX6_init_23 : decode cX6_init 23 = .ok (.newarray .int, 2) := by decide +kernel
theorem dX6_init_25 : decode cX6_init 25 = .ok (.putfield 18, 3) := by decide +kernel
theorem dX6_init_28 : decode cX6_init 28 = .ok (.aload_n 0, 1) := by decide +kernel
theorem dX6_init_29 : decode cX6_init 29 = .ok (.bipush 6, 2) := by decide +kernel
theorem dX6_init_31 : decode cX6_init 31 = .ok (.newarray .int, 2) := by decide +kernel
theorem dX6_init_33 : decode cX6_init 33 = .ok (.putfield 21, 3) := by decide +kernel
theorem dX6_init_36 : decode cX6_init 36 = .ok (.aload_n 0, 1) := by decide +kernel
theorem dX6_init_37 : decode cX6_init 37 = .ok (.iconst 4, 1) := by decide +kernel
theorem dX6_init_38 : decode cX6_init 38 = .ok (.newarray .int, 2) := by decide +kernel
theorem dX6_init_40 : decode cX6_init 40 = .ok (.putfield 24, 3) := by decide +kernel
theorem dX6_init_43 : decode cX6_init 43 = .ok (.aload_n 0, 1) := by decide +kernel
theorem dX6_init_44 : decode cX6_init 44 = .ok (.iconst 4, 1) := by decide +kernel
theorem dX6_init_45 : decode cX6_init 45 = .ok (.newarray .int, 2) := by decide +kernel
theorem dX6_init_47 : decode cX6_init 47 = .ok (.putfield 27, 3) := by decide +kernel
theorem dX6_init_50 : decode cX6_init 50 = .ok (.return_, 1) := by decide +kernel
theorem dX6_clear_0 : decode cX6_clear 0 = .ok (.aload_n 0, 1) := by decide +kernel
theorem dX6_clear_1 : decode cX6_clear 1 = .ok (.iconst 0, 1) := by decide +kernel
theorem dX6_clear_2 : decode cX6_clear 2 = .ok (.putfield 30, 3) := by decide +kernel
theorem dX6_clear_5 : decode cX6_clear 5 = .ok (.aload_n 0, 1) := by decide +kernel
theorem dX6_clear_6 : decode cX6_clear 6 = .ok (.iconst 0, 1) := by decide +kernel
theorem dX6_clear_7 : decode cX6_clear 7 = .ok (.putfield 34, 3) := by decide +kernel
theorem dX6_clear_10 : decode cX6_clear 10 = .ok (.aload_n 0, 1) := by decide +kernel
theorem dX6_clear_11 : decode cX6_clear 11 = .ok (.iconst 0, 1) := by decide +kernel
theorem dX6_clear_12 : decode cX6_clear 12 = .ok (.putfield 37, 3) := by decide +kernel
theorem dX6_clear_15 : decode cX6_clear 15 = .ok (.aload_n 0, 1) := by decide +kernel
theorem dX6_clear_16 : decode cX6_clear 16 = .ok (.iconst 0, 1) := by decide +kernel
theorem dX6_clear_17 : decode cX6_clear 17 = .ok (.putfield 40, 3) := by decide +kernel
theorem dX6_clear_20 : decode cX6_clear 20 = .ok (.aload_n 0, 1) := by decide +kernel
theorem dX6_clear_21 : decode cX6_clear 21 = .ok (.getfield 18, 3) := by decide +kernel
theorem dX6_clear_24 : decode cX6_clear 24 = .ok (.iconst 0, 1) := by decide +kernel
theorem dX6_clear_25 : decode cX6_clear 25 = .ok (.invokestatic 43, 3) := by decide +kernel
theorem dX6_clear_28 : decode cX6_clear 28 = .ok (.aload_n 0, 1) := by decide +kernel
theorem dX6_clear_29 : decode cX6_clear 29 = .ok (.getfield 21, 3) := by decide +kernel
theorem dX6_clear_32 : decode cX6_clear 32 = .ok (.iconst 0, 1) := by decide +kernel
theorem dX6_clear_33 : decode cX6_clear 33 = .ok (.invokestatic 43, 3) := by decide +kernel
theorem dX6_clear_36 : decode cX6_clear 36 = .ok (.return_, 1) := by decide +kernel
theorem dX6_hasPerson_0 : decode cX6_hasPerson 0 = .ok (.iload_n 1, 1) := by decide +kernel
theorem dX6_hasPerson_1 : decode cX6_hasPerson 1 = .ok (.ifCond .lt 15, 3) := by decide +kernel
theorem dX6_hasPerson_4 : decode cX6_hasPerson 4 = .ok (.iload_n 1, 1) := by decide +kernel
theorem dX6_hasPerson_5 : decode cX6_hasPerson 5 = .ok (.aload_n 0, 1) := by decide +kernel
theorem dX6_hasPerson_6 : decode cX6_hasPerson 6 = .ok (.getfield 30, 3) := by decide +kernel
theorem dX6_hasPerson_9 : decode cX6_hasPerson 9 = .ok (.if_icmp .ge 7, 3) := by decide +kernel
theorem dX6_hasPerson_12 : decode cX6_hasPerson 12 = .ok (.iconst 1, 1) := by decide +kernel
theorem dX6_hasPerson_13 : decode cX6_hasPerson 13 = .ok (.goto 4, 3) := by decide +kernel
theorem dX6_hasPerson_16 : decode cX6_hasPerson 16 = .ok (.iconst 0, 1) := by decide +kernel
theorem dX6_hasPerson_17 : decode cX6_hasPerson 17 = .ok (.ireturn, 1) := by decide +kernel
theorem dX6_hasCounter_0 : decode cX6_hasCounter 0 = .ok (.iload_n 1, 1) := by decide +kernel
theorem dX6_hasCounter_1 : decode cX6_hasCounter 1 = .ok (.ifCond .lt 15, 3) := by decide +kernel
theorem dX6_hasCounter_4 : decode cX6_hasCounter 4 = .ok (.iload_n 1, 1) := by decide +kernel
theorem dX6_hasCounter_5 : decode cX6_hasCounter 5 = .ok (.aload_n 0, 1) := by decide +kernel
theorem dX6_hasCounter_6 : decode cX6_hasCounter 6 = .ok (.getfield 34, 3) := by decide +kernel
theorem dX6_hasCounter_9 : decode cX6_hasCounter 9 = .ok (.if_icmp .ge 7, 3) := by decide +kernel
theorem dX6_hasCounter_12 : decode cX6_hasCounter 12 = .ok (.iconst 1, 1) := by decide +kernel
theorem dX6_hasCounter_13 : decode cX6_hasCounter 13 = .ok (.goto 4, 3) := by decide +kernel
theorem dX6_hasCounter_16 : decode cX6_hasCounter 16 = .ok (.iconst 0, 1) := by decide +kernel
theorem dX6_hasCounter_17 : decode cX6_hasCounter 17 = .ok (.ireturn, 1) := by decide +kernel
theorem dX6_bars_0 : decode cX6_bars 0 = .ok (.aload_n 0, 1) := by decide +kernel
theorem dX6_bars_1 : decode cX6_bars 1 = .ok (.getfield 21, 3) := by decide +kernel
theorem dX6_bars_4 : decode cX6_bars 4 = .ok (.iload_n 1, 1) := by decide +kernel
theorem dX6_bars_5 : decode cX6_bars 5 = .ok (.iaload, 1) := by decide +kernel
theorem dX6_bars_6 : decode cX6_bars 6 = .ok (.iload_n 2, 1) := by decide +kernel
theorem dX6_bars_7 : decode cX6_bars 7 = .ok (.ishr, 1) := by decide +kernel
theorem dX6_bars_8 : decode cX6_bars 8 = .ok (.iconst 1, 1) := by decide +kernel
theorem dX6_bars_9 : decode cX6_bars 9 = .ok (.iand, 1) := by decide +kernel
theorem dX6_bars_10 : decode cX6_bars 10 = .ok (.iconst 1, 1) := by decide +kernel
theorem dX6_bars_11 : decode cX6_bars 11 = .ok (.if_icmp .ne 7, 3) := by decide +kernel
theorem dX6_bars_14 : decode cX6_bars 14 = .ok (.iconst 1, 1) := by decide +kernel
theorem dX6_bars_15 : decode cX6_bars 15 = .ok (.goto 4, 3) := by decide +kernel
theorem dX6_bars_18 : decode cX6_bars 18 = .ok (.iconst 0, 1) := by decide +kernel
theorem dX6_bars_19 : decode cX6_bars 19 = .ok (.ireturn, 1) := by decide +kernel
theorem dX6_isKeeper_0 : decode cX6_isKeeper 0 = .ok (.aload_n 0, 1) := by decide +kernel
theorem dX6_isKeeper_1 : decode cX6_isKeeper 1 = .ok (.getfield 40, 3) := by decide +kernel
theorem dX6_isKeeper_4 : decode cX6_isKeeper 4 = .ok (.iload_n 1, 1) := by decide +kernel
theorem dX6_isKeeper_5 : decode cX6_isKeeper 5 = .ok (.ishr, 1) := by decide +kernel
theorem dX6_isKeeper_6 : decode cX6_isKeeper 6 = .ok (.iconst 1, 1) := by decide +kernel
theorem dX6_isKeeper_7 : decode cX6_isKeeper 7 = .ok (.iand, 1) := by decide +kernel
theorem dX6_isKeeper_8 : decode cX6_isKeeper 8 = .ok (.iconst 1, 1) := by decide +kernel
theorem dX6_isKeeper_9 : decode cX6_isKeeper 9 = .ok (.if_icmp .ne 7, 3) := by decide +kernel
theorem dX6_isKeeper_12 : decode cX6_isKeeper 12 = .ok (.iconst 1, 1) := by decide +kernel
theorem dX6_isKeeper_13 : decode cX6_isKeeper 13 = .ok (.goto 4, 3) := by decide +kernel
theorem dX6_isKeeper_16 : decode cX6_isKeeper 16 = .ok (.iconst 0, 1) := by decide +kernel
theorem dX6_isKeeper_17 : decode cX6_isKeeper 17 = .ok (.ireturn, 1) := by decide +kernel
