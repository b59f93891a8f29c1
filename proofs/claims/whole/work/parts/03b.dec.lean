theorem dX3_init_0 : decode cX3_init 0 = .ok (.aload_n 0, 1) := by decide +kernel
theorem dX3_init_1 : decode cX3_init 1 = .ok (.invokespecial 1, 3) := by decide +kernel
theorem dX3_init_4 : decode cX3_init 4 = .ok (.aload_n 0, 1) := by decide +kernel
theorem dX3_init_5 : decode cX3_init 5 = .ok (.bipush 14, 2) := by decide +kernel
theorem dX3_init_7 : decode cX3_init 7 = .ok (.newarray .int, 2) := by decide +kernel
theorem dX3_init_9 : decode cX3_init 9 = .ok (.putfield 9, 3) := by decide +kernel
theorem dX3_init_12 : decode cX3_init 12 = .ok (.aload_n 0, 1) := by decide +kernel
theorem dX3_init_13 : decode cX3_init 13 = .ok (.iconst 0, 1) := by decide +kernel
theorem dX3_init_14 : decode cX3_init 14 = .ok (.putfield 13, 3) := by decide +kernel
theorem dX3_init_17 : decode cX3_init 17 = .ok (.aload_n 0, 1) := by decide +kernel
theorem dX3_init_18 : decode cX3_init 18 = .ok (.iconst 0, 1) := by decide +kernel
theorem dX3_init_19 : decode cX3_init 19 = .ok (.putfield 17, 3) := by decide +kernel
theorem dX3_init_22 : decode cX3_init 22 = .ok (.aload_n 0, 1) := by decide +kernel
theorem dX3_init_23 : decode cX3_init 23 = .ok (.iconst 0, 1) := by decide +kernel
theorem dX3_init_24 : decode cX3_init 24 = .ok (.putfield 21, 3) := by decide +kernel
theorem dX3_init_27 : decode cX3_init 27 = .ok (.aload_n 0, 1) := by decide +kernel
theorem dX3_init_28 : decode cX3_init 28 = .ok (.iconst 0, 1) := by decide +kernel
theorem dX3_init_29 : decode cX3_init 29 = .ok (.putfield 24, 3) := by decide +kernel
theorem dX3_init_32 : decode cX3_init 32 = .ok (.aload_n 0, 1) := by decide +kernel
theorem dX3_init_33 : decode cX3_init 33 = .ok (.iconst 0, 1) := by decide +kernel
theorem dX3_init_34 : decode cX3_init 34 = .ok (.putfield 27, 3) := by decide +kernel
theorem dX3_init_37 : decode cX3_init 37 = .ok (.aload_n 0, 1) := by decide +kernel
theorem dX3_init_38 : decode cX3_init 38 = .ok (.new 30, 3) := by decide +kernel
theorem dX3_init_41 : decode cX3_init 41 = .ok (.dup, 1) := by decide +kernel
theorem dX3_init_42 : decode cX3_init 42 = .ok (.invokespecial 32, 3) := by decide +kernel
theorem dX3_init_45 : decode cX3_init 45 = .ok (.putfield 33, 3) := by decide +kernel
theorem dX3_init_48 : decode cX3_init 48 = .ok (.aload_n 0, 1) := by decide +kernel
theorem dX3_init_49 : decode cX3_init 49 = .ok (.new 30, 3) := by decide +kernel
theorem dX3_init_52 : decode cX3_init 52 = .ok (.dup, 1) := by decide +kernel
theorem dX3_init_53 : decode cX3_init 53 = .ok (.invokespecial 32, 3) := by decide +kernel
theorem dX3_init_56 : decode cX3_init 56 = .ok (.putfield 37, 3) := by decide +kernel
theorem dX3_init_59 : decode cX3_init 59 = .ok (.aload_n 0, 1) := by decide +kernel
theorem dX3_init_60 : decode cX3_init 60 = .ok (.new 30, 3) := by decide +kernel
theorem dX3_init_63 : decode cX3_init 63 = .ok (.dup, 1) := by decide +kernel
theorem dX3_init_64 : decode cX3_init 64 = .ok (.invokespecial 32, 3) := by decide +kernel
theorem dX3_init_67 : decode cX3_init 67 = .ok (.putfield 40, 3) := by decide +kernel
theorem dX3_init_70 : decode cX3_init 70 = .ok (.aload_n 0, 1) := by decide +kernel
theorem dX3_init_71 : decode cX3_init 71 = .ok (.new 43, 3) := by decide +kernel
theorem dX3_init_74 : decode cX3_init 74 = .ok (.dup, 1) := by decide +kernel
theorem dX3_init_75 : decode cX3_init 75 = .ok (.invokespecial 45, 3) := by decide +kernel
theorem dX3_init_78 : decode cX3_init 78 = .ok (.putfield 46, 3) := by decide +kernel
theorem dX3_init_81 : decode cX3_init 81 = .ok (.aload_n 0, 1) := by decide +kernel
theorem dX3_init_82 : decode cX3_init 82 = .ok (.new 43, 3) := by decide +kernel
theorem dX3_init_85 : decode cX3_init 85 = .ok (.dup, 1) := by decide +kernel
theorem dX3_init_86 : decode cX3_init 86 = .ok (.invokespecial 45, 3) := by decide +kernel
theorem dX3_init_89 : decode cX3_init 89 = .ok (.putfield 50, 3) := by decide +kernel
theorem dX3_init_92 : decode cX3_init 92 = .ok (.aload_n 0, 1) := by decide +kernel
theorem dX3_init_93 : decode cX3_init 93 = .ok (.bipush 25, 2) := by decide +kernel
theorem dX3_init_95 : decode cX3_init 95 = .ok (.newarray .int, 2) := by decide +kernel
theorem dX3_init_97 : decode cX3_init 97 = .ok (.putfield 53, 3) := by decide +kernel
theorem dX3_init_100 : decode cX3_init 100 = .ok (.aload_n 0, 1) := by decide +kernel
theorem dX3_init_101 : decode cX3_init 101 = .ok (.new 56, 3) := by decide +kernel
theorem dX3_init_104 : decode cX3_init 104 = .ok (.dup, 1) := by decide +kernel
theorem dX3_init_105 : decode cX3_init 105 = .ok (.invokespecial 58, 3) := by decide +kernel
theorem dX3_init_108 : decode cX3_init 108 = .ok (.putfield 59, 3) := by decide +kernel
theorem dX3_init_111 : decode cX3_init 111 = .ok (.return_, 1) := by decide +kernel
theorem dX3_letter_0 : decode cX3_letter 0 = .ok (.iload_n 1, 1) := by decide +kernel
theorem dX3_letter_1 : decode cX3_letter 1 = .ok (.iconst 1, 1) := by decide +kernel
theorem dX3_letter_2 : decode cX3_letter 2 = .ok (.if_icmp .lt 9, 3) := by decide +kernel
theorem dX3_letter_5 : decode cX3_letter 5 = .ok (.iload_n 1, 1) := by decide +kernel
theorem dX3_letter_6 : decode cX3_letter 6 = .ok (.bipush 126, 2) := by decide +kernel
theorem dX3_letter_8 : decode cX3_letter 8 = .ok (.if_icmp .le 6, 3) := by decide +kernel
theorem dX3_letter_11 : decode cX3_letter 11 = .ok (.bipush (-102), 2) := by decide +kernel
theorem dX3_letter_13 : decode cX3_letter 13 = .ok (.ireturn, 1) := by decide +kernel
theorem dX3_letter_14 : decode cX3_letter 14 = .ok (.aload_n 0, 1) := by decide +kernel
theorem dX3_letter_15 : decode cX3_letter 15 = .ok (.getfield 13, 3) := by decide +kernel
theorem dX3_letter_18 : decode cX3_letter 18 = .ok (.bipush 14, 2) := by decide +kernel
theorem dX3_letter_20 : decode cX3_letter 20 = .ok (.if_icmp .lt 6, 3) := by decide +kernel
theorem dX3_letter_23 : decode cX3_letter 23 = .ok (.bipush (-104), 2) := by decide +kernel
theorem dX3_letter_25 : decode cX3_letter 25 = .ok (.ireturn, 1) := by decide +kernel
theorem dX3_letter_26 : decode cX3_letter 26 = .ok (.aload_n 0, 1) := by decide +kernel
theorem dX3_letter_27 : decode cX3_letter 27 = .ok (.getfield 9, 3) := by decide +kernel
theorem dX3_letter_30 : decode cX3_letter 30 = .ok (.aload_n 0, 1) := by decide +kernel
theorem dX3_letter_31 : decode cX3_letter 31 = .ok (.getfield 13, 3) := by decide +kernel
theorem dX3_letter_34 : decode cX3_letter 34 = .ok (.iload_n 1, 1) := by decide +kernel
theorem dX3_letter_35 : decode cX3_letter 35 = .ok (.iastore, 1) := by decide +kernel
theorem dX3_letter_36 : decode cX3_letter 36 = .ok (.aload_n 0, 1) := by decide +kernel
theorem dX3_letter_37 : decode cX3_letter 37 = .ok (.dup, 1) := by decide +kernel
theorem dX3_letter_38 : decode cX3_letter 38 = .ok (.getfield 13, 3) := by decide +kernel
theorem dX3_letter_41 : decode cX3_letter 41 = .ok (.iconst 1, 1) := by decide +kernel
theorem dX3_letter_42 : decode cX3_letter 42 = .ok (.iadd, 1) := by decide +kernel
theorem dX3_letter_43 : decode cX3_letter 43 = .ok (.putfield 13, 3) := by decide +kernel
theorem dX3_letter_46 : decode cX3_letter 46 = .ok (.aload_n 0, 1) := by decide +kernel
theorem dX3_letter_47 : decode cX3_letter 47 = .ok (.getfield 13, 3) := by decide +kernel
theorem dX3_letter_50 : decode cX3_letter 50 = .ok (.ireturn, 1) := by decide +kernel
theorem dX3_blank_0 : decode cX3_blank 0 = .ok (.aload_n 0, 1) := by decide +kernel
theorem dX3_blank_1 : decode cX3_blank 1 = .ok (.getfield 13, 3) := by decide +kernel
theorem dX3_blank_4 : decode cX3_blank 4 = .ok (.istore_n 1, 1) := by decide +kernel
theorem dX3_blank_5 : decode cX3_blank 5 = .ok (.aload_n 0, 1) := by decide +kernel
theorem dX3_blank_6 : decode cX3_blank 6 = .ok (.iconst 0, 1) := by decide +kernel
theorem dX3_blank_7 : decode cX3_blank 7 = .ok (.putfield 13, 3) := by decide +kernel
theorem dX3_blank_10 : decode cX3_blank 10 = .ok (.iload_n 1, 1) := by decide +kernel
theorem dX3_blank_11 : decode cX3_blank 11 = .ok (.ireturn, 1) := by decide +kernel
theorem dX3_fault_0 : decode cX3_fault 0 = .ok (.aload_n 0, 1) := by decide +kernel
theorem dX3_fault_1 : decode cX3_fault 1 = .ok (.getfield 13, 3) := by decide +kernel
theorem dX3_fault_4 : decode cX3_fault 4 = .ok (.bipush 12, 2) := by decide +kernel
theorem dX3_fault_6 : decode cX3_fault 6 = .ok (.invokestatic 63, 3) := by decide +kernel
theorem dX3_fault_9 : decode cX3_fault 9 = .ok (.istore_n 1, 1) := by decide +kernel
theorem dX3_fault_10 : decode cX3_fault 10 = .ok (.iconst 0, 1) := by decide +kernel
theorem dX3_fault_11 : decode cX3_fault 11 = .ok (.istore_n 2, 1) := by decide +kernel
theorem dX3_fault_12 : decode cX3_fault 12 = .ok (.iload_n 2, 1) := by decide +kernel
theorem dX3_fault_13 : decode cX3_fault 13 = .ok (.iload_n 1, 1) := by decide +kernel
theorem dX3_fault_14 : decode cX3_fault 14 = .ok (.if_icmp .ge 23, 3) := by decide +kernel
theorem dX3_fault_17 : decode cX3_fault 17 = .ok (.aload_n 0, 1) := by decide +kernel
theorem dX3_fault_18 : decode cX3_fault 18 = .ok (.getfield 9, 3) := by decide +kernel
theorem dX3_fault_21 : decode cX3_fault 21 = .ok (.iload_n 2, 1) := by decide +kernel
theorem dX3_fault_22 : decode cX3_fault 22 = .ok (.iaload, 1) := by decide +kernel
theorem dX3_fault_23 : decode cX3_fault 23 = .ok (.invokestatic 69, 3) := by decide +kernel
theorem dX3_fault_26 : decode cX3_fault 26 = .ok (.ifCond .ne 5, 3) := by decide +kernel
theorem dX3_fault_29 : decode cX3_fault 29 = .ok (.iload_n 2, 1) := by decide +kernel
theorem dX3_fault_30 : decode cX3_fault 30 = .ok (.ireturn, 1) := by decide +kernel
theorem dX3_fault_31 : decode cX3_fault 31 = .ok (.iinc 2 1, 3) := by decide +kernel
theorem dX3_fault_34 : decode cX3_fault 34 = .ok (.goto (-22), 3) := by decide +kernel
theorem dX3_fault_37 : decode cX3_fault 37 = .ok (.iload_n 1, 1) := by decide +kernel
theorem dX3_fault_38 : decode cX3_fault 38 = .ok (.ireturn, 1) := by decide +kernel
theorem dX3_sea_0 : decode cX3_sea 0 = .ok (.aload_n 0, 1) := by decide +kernel
theorem dX3_sea_1 : decode cX3_sea 1 = .ok (.getfield 13, 3) := by decide +kernel
theorem dX3_sea_4 : decode cX3_sea 4 = .ok (.bipush 12, 2) := by decide +kernel
theorem dX3_sea_6 : decode cX3_sea 6 = .ok (.if_icmp .ne 12, 3) := by decide +kernel
theorem dX3_sea_9 : decode cX3_sea 9 = .ok (.aload_n 0, 1) := by decide +kernel
theorem dX3_sea_10 : decode cX3_sea 10 = .ok (.invokevirtual 73, 3) := by decide +kernel
theorem dX3_sea_13 : decode cX3_sea 13 = .ok (.bipush 12, 2) := by decide +kernel
theorem dX3_sea_15 : decode cX3_sea 15 = .ok (.if_icmp .eq 6, 3) := by decide +kernel
theorem dX3_sea_18 : decode cX3_sea 18 = .ok (.bipush (-103), 2) := by decide +kernel
theorem dX3_sea_20 : decode cX3_sea 20 = .ok (.ireturn, 1) := by decide +kernel
theorem dX3_sea_21 : decode cX3_sea 21 = .ok (.aload_n 0, 1) := by decide +kernel
theorem dX3_sea_22 : decode cX3_sea 22 = .ok (.getfield 33, 3) := by decide +kernel
theorem dX3_sea_25 : decode cX3_sea 25 = .ok (.invokevirtual 77, 3) := by decide +kernel
theorem dX3_sea_28 : decode cX3_sea 28 = .ok (.iconst 0, 1) := by decide +kernel
theorem dX3_sea_29 : decode cX3_sea 29 = .ok (.istore_n 1, 1) := by decide +kernel
theorem dX3_sea_30 : decode cX3_sea 30 = .ok (.iload_n 1, 1) := by decide +kernel
theorem dX3_sea_31 : decode cX3_sea 31 = .ok (.bipush 12, 2) := by decide +kernel
theorem dX3_sea_33 : decode cX3_sea 33 = .ok (.if_icmp .ge 27, 3) := by decide +kernel
theorem dX3_sea_36 : decode cX3_sea 36 = .ok (.aload_n 0, 1) := by decide +kernel
theorem dX3_sea_37 : decode cX3_sea 37 = .ok (.getfield 33, 3) := by decide +kernel
theorem dX3_sea_40 : decode cX3_sea 40 = .ok (.getfield 80, 3) := by decide +kernel
theorem dX3_sea_43 : decode cX3_sea 43 = .ok (.iload_n 1, 1) := by decide +kernel
theorem dX3_sea_44 : decode cX3_sea 44 = .ok (.aload_n 0, 1) := by decide +kernel
theorem dX3_sea_45 : decode cX3_sea 45 = .ok (.getfield 9, 3) := by decide +kernel
theorem dX3_sea_48 : decode cX3_sea 48 = .ok (.iload_n 1, 1) := by decide +kernel
theorem dX3_sea_49 : decode cX3_sea 49 = .ok (.iaload, 1) := by decide +kernel
theorem dX3_sea_50 : decode cX3_sea 50 = .ok (.invokestatic 83, 3) := by decide +kernel
theorem dX3_sea_53 : decode cX3_sea 53 = .ok (.iastore, 1) := by decide +kernel
theorem dX3_sea_54 : decode cX3_sea 54 = .ok (.iinc 1 1, 3) := by decide +kernel
theorem dX3_sea_57 : decode cX3_sea 57 = .ok (.goto (-27), 3) := by decide +kernel
theorem dX3_sea_60 : decode cX3_sea 60 = .ok (.aload_n 0, 1) := by decide +kernel
theorem dX3_sea_61 : decode cX3_sea 61 = .ok (.getfield 46, 3) := by decide +kernel
theorem dX3_sea_64 : decode cX3_sea 64 = .ok (.iconst 0, 1) := by decide +kernel
theorem dX3_sea_65 : decode cX3_sea 65 = .ok (.putfield 87, 3) := by decide +kernel
theorem dX3_sea_68 : decode cX3_sea 68 = .ok (.aload_n 0, 1) := by decide +kernel
theorem dX3_sea_69 : decode cX3_sea 69 = .ok (.iconst 0, 1) := by decide +kernel
theorem dX3_sea_70 : decode cX3_sea 70 = .ok (.putfield 13, 3) := by decide +kernel
theorem dX3_sea_73 : decode cX3_sea 73 = .ok (.aload_n 0, 1) := by decide +kernel
theorem dX3_sea_74 : decode cX3_sea 74 = .ok (.iconst 1, 1) := by decide +kernel
theorem dX3_sea_75 : decode cX3_sea 75 = .ok (.putfield 17, 3) := by decide +kernel
theorem dX3_sea_78 : decode cX3_sea 78 = .ok (.aload_n 0, 1) := by decide +kernel
theorem dX3_sea_79 : decode cX3_sea 79 = .ok (.iconst 0, 1) := by decide +kernel
theorem dX3_sea_80 : decode cX3_sea 80 = .ok (.putfield 21, 3) := by decide +kernel
theorem dX3_sea_83 : decode cX3_sea 83 = .ok (.aload_n 0, 1) := by decide +kernel
theorem dX3_sea_84 : decode cX3_sea 84 = .ok (.dup, 1) := by decide +kernel
theorem dX3_sea_85 : decode cX3_sea 85 = .ok (.getfield 24, 3) := by decide +kernel
theorem dX3_sea_88 : decode cX3_sea 88 = .ok (.iconst 1, 1) := by decide +kernel
theorem dX3_sea_89 : decode cX3_sea 89 = .ok (.iadd, 1) := by decide +kernel
theorem dX3_sea_90 : decode cX3_sea 90 = .ok (.putfield 24, 3) := by decide +kernel
theorem dX3_sea_93 : decode cX3_sea 93 = .ok (.aload_n 0, 1) := by decide +kernel
theorem dX3_sea_94 : decode cX3_sea 94 = .ok (.getfield 33, 3) := by decide +kernel
theorem dX3_sea_97 : decode cX3_sea 97 = .ok (.invokevirtual 90, 3) := by decide +kernel
theorem dX3_sea_100 : decode cX3_sea 100 = .ok (.ireturn, 1) := by decide +kernel
theorem dX3_place_0 : decode cX3_place 0 = .ok (.aload_n 0, 1) := by decide +kernel
theorem dX3_place_1 : decode cX3_place 1 = .ok (.iload_n 1, 1) := by decide +kernel
theorem dX3_place_2 : decode cX3_place 2 = .ok (.invokevirtual 93, 3) := by decide +kernel
theorem dX3_place_5 : decode cX3_place 5 = .ok (.ifCond .ne 6, 3) := by decide +kernel
theorem dX3_place_8 : decode cX3_place 8 = .ok (.bipush (-101), 2) := by decide +kernel
theorem dX3_place_10 : decode cX3_place 10 = .ok (.ireturn, 1) := by decide +kernel
theorem dX3_place_11 : decode cX3_place 11 = .ok (.iload_n 2, 1) := by decide +kernel
theorem dX3_place_12 : decode cX3_place 12 = .ok (.ifCond .lt 8, 3) := by decide +kernel
theorem dX3_place_15 : decode cX3_place 15 = .ok (.iload_n 2, 1) := by decide +kernel
theorem dX3_place_16 : decode cX3_place 16 = .ok (.iconst 1, 1) := by decide +kernel
theorem dX3_place_17 : decode cX3_place 17 = .ok (.if_icmp .le 6, 3) := by decide +kernel
theorem dX3_place_20 : decode cX3_place 20 = .ok (.bipush (-102), 2) := by decide +kernel
theorem dX3_place_22 : decode cX3_place 22 = .ok (.ireturn, 1) := by decide +kernel
theorem dX3_place_23 : decode cX3_place 23 = .ok (.iload_n 2, 1) := by decide +kernel
theorem dX3_place_24 : decode cX3_place 24 = .ok (.ifCond .ne 15, 3) := by decide +kernel
theorem dX3_place_27 : decode cX3_place 27 = .ok (.aload_n 0, 1) := by decide +kernel
theorem dX3_place_28 : decode cX3_place 28 = .ok (.getfield 33, 3) := by decide +kernel
theorem dX3_place_31 : decode cX3_place 31 = .ok (.getfield 80, 3) := by decide +kernel
theorem dX3_place_34 : decode cX3_place 34 = .ok (.iload_n 1, 1) := by decide +kernel
theorem dX3_place_35 : decode cX3_place 35 = .ok (.iaload, 1) := by decide +kernel
theorem dX3_place_36 : decode cX3_place 36 = .ok (.goto 11, 3) := by decide +kernel
theorem dX3_place_39 : decode cX3_place 39 = .ok (.aload_n 0, 1) := by decide +kernel
theorem dX3_place_40 : decode cX3_place 40 = .ok (.getfield 33, 3) := by decide +kernel
theorem dX3_place_43 : decode cX3_place 43 = .ok (.iload_n 1, 1) := by decide +kernel
theorem dX3_place_44 : decode cX3_place 44 = .ok (.invokevirtual 96, 3) := by decide +kernel
theorem dX3_place_47 : decode cX3_place 47 = .ok (.ireturn, 1) := by decide +kernel
theorem dX3_wind_0 : decode cX3_wind 0 = .ok (.iload_n 1, 1) := by decide +kernel
theorem dX3_wind_1 : decode cX3_wind 1 = .ok (.iconst (-1), 1) := by decide +kernel
theorem dX3_wind_2 : decode cX3_wind 2 = .ok (.if_icmp .lt 8, 3) := by decide +kernel
theorem dX3_wind_5 : decode cX3_wind 5 = .ok (.iload_n 1, 1) := by decide +kernel
theorem dX3_wind_6 : decode cX3_wind 6 = .ok (.iconst 1, 1) := by decide +kernel
theorem dX3_wind_7 : decode cX3_wind 7 = .ok (.if_icmp .le 6, 3) := by decide +kernel
theorem dX3_wind_10 : decode cX3_wind 10 = .ok (.bipush (-102), 2) := by decide +kernel
theorem dX3_wind_12 : decode cX3_wind 12 = .ok (.ireturn, 1) := by decide +kernel
theorem dX3_wind_13 : decode cX3_wind 13 = .ok (.aload_n 0, 1) := by decide +kernel
theorem dX3_wind_14 : decode cX3_wind 14 = .ok (.getfield 17, 3) := by decide +kernel
theorem dX3_wind_17 : decode cX3_wind 17 = .ok (.ifCond .ne 6, 3) := by decide +kernel
theorem dX3_wind_20 : decode cX3_wind 20 = .ok (.bipush (-103), 2) := by decide +kernel
theorem dX3_wind_22 : decode cX3_wind 22 = .ok (.ireturn, 1) := by decide +kernel
theorem dX3_wind_23 : decode cX3_wind 23 = .ok (.aload_n 0, 1) := by decide +kernel
theorem dX3_wind_24 : decode cX3_wind 24 = .ok (.getfield 33, 3) := by decide +kernel
theorem dX3_wind_27 : decode cX3_wind 27 = .ok (.getfield 99, 3) := by decide +kernel
theorem dX3_wind_30 : decode cX3_wind 30 = .ok (.istore_n 2, 1) := by decide +kernel
theorem dX3_wind_31 : decode cX3_wind 31 = .ok (.aload_n 0, 1) := by decide +kernel
theorem dX3_wind_32 : decode cX3_wind 32 = .ok (.getfield 33, 3) := by decide +kernel
theorem dX3_wind_35 : decode cX3_wind 35 = .ok (.iload_n 1, 1) := by decide +kernel
theorem dX3_wind_36 : decode cX3_wind 36 = .ok (.putfield 99, 3) := by decide +kernel
theorem dX3_wind_39 : decode cX3_wind 39 = .ok (.iload_n 2, 1) := by decide +kernel
theorem dX3_wind_40 : decode cX3_wind 40 = .ok (.iconst 1, 1) := by decide +kernel
theorem dX3_wind_41 : decode cX3_wind 41 = .ok (.iadd, 1) := by decide +kernel
theorem dX3_wind_42 : decode cX3_wind 42 = .ok (.ireturn, 1) := by decide +kernel
theorem dX3_island_0 : decode cX3_island 0 = .ok (.iload_n 1, 1) := by decide +kernel
theorem dX3_island_1 : decode cX3_island 1 = .ok (.invokestatic 102, 3) := by decide +kernel
theorem dX3_island_4 : decode cX3_island 4 = .ok (.ifCond .eq 14, 3) := by decide +kernel
theorem dX3_island_7 : decode cX3_island 7 = .ok (.iload_n 2, 1) := by decide +kernel
theorem dX3_island_8 : decode cX3_island 8 = .ok (.iconst 1, 1) := by decide +kernel
theorem dX3_island_9 : decode cX3_island 9 = .ok (.if_icmp .lt 9, 3) := by decide +kernel
theorem dX3_island_12 : decode cX3_island 12 = .ok (.iload_n 2, 1) := by decide +kernel
theorem dX3_island_13 : decode cX3_island 13 = .ok (.bipush 9, 2) := by decide +kernel
theorem dX3_island_15 : decode cX3_island 15 = .ok (.if_icmp .le 6, 3) := by decide +kernel
theorem dX3_island_18 : decode cX3_island 18 = .ok (.bipush (-102), 2) := by decide +kernel
theorem dX3_island_20 : decode cX3_island 20 = .ok (.ireturn, 1) := by decide +kernel
theorem dX3_island_21 : decode cX3_island 21 = .ok (.aload_n 0, 1) := by decide +kernel
theorem dX3_island_22 : decode cX3_island 22 = .ok (.iload_n 3, 1) := by decide +kernel
theorem dX3_island_23 : decode cX3_island 23 = .ok (.invokevirtual 93, 3) := by decide +kernel
theorem dX3_island_26 : decode cX3_island 26 = .ok (.ifCond .ne 6, 3) := by decide +kernel
theorem dX3_island_29 : decode cX3_island 29 = .ok (.bipush (-101), 2) := by decide +kernel
theorem dX3_island_31 : decode cX3_island 31 = .ok (.ireturn, 1) := by decide +kernel
theorem dX3_island_32 : decode cX3_island 32 = .ok (.aload_n 0, 1) := by decide +kernel
theorem dX3_island_33 : decode cX3_island 33 = .ok (.getfield 33, 3) := by decide +kernel
theorem dX3_island_36 : decode cX3_island 36 = .ok (.iload_n 3, 1) := by decide +kernel
theorem dX3_island_37 : decode cX3_island 37 = .ok (.invokevirtual 96, 3) := by decide +kernel
theorem dX3_island_40 : decode cX3_island 40 = .ok (.iconst (-1), 1) := by decide +kernel
theorem dX3_island_41 : decode cX3_island 41 = .ok (.if_icmp .eq 6, 3) := by decide +kernel
theorem dX3_island_44 : decode cX3_island 44 = .ok (.bipush (-103), 2) := by decide +kernel
theorem dX3_island_46 : decode cX3_island 46 = .ok (.ireturn, 1) := by decide +kernel
theorem dX3_island_47 : decode cX3_island 47 = .ok (.aload_n 0, 1) := by decide +kernel
theorem dX3_island_48 : decode cX3_island 48 = .ok (.getfield 33, 3) := by decide +kernel
theorem dX3_island_51 : decode cX3_island 51 = .ok (.getfield 105, 3) := by decide +kernel
theorem dX3_island_54 : decode cX3_island 54 = .ok (.iconst 5, 1) := by decide +kernel
theorem dX3_island_55 : decode cX3_island 55 = .ok (.if_icmp .lt 6, 3) := by decide +kernel
theorem dX3_island_58 : decode cX3_island 58 = .ok (.bipush (-104), 2) := by decide +kernel
theorem dX3_island_60 : decode cX3_island 60 = .ok (.ireturn, 1) := by decide +kernel
theorem dX3_island_61 : decode cX3_island 61 = .ok (.aload_n 0, 1) := by decide +kernel
theorem dX3_island_62 : decode cX3_island 62 = .ok (.getfield 33, 3) := by decide +kernel
theorem dX3_island_65 : decode cX3_island 65 = .ok (.iload_n 1, 1) := by decide +kernel
theorem dX3_island_66 : decode cX3_island 66 = .ok (.iload_n 2, 1) := by decide +kernel
theorem dX3_island_67 : decode cX3_island 67 = .ok (.iload_n 3, 1) := by decide +kernel
theorem dX3_island_68 : decode cX3_island 68 = .ok (.invokevirtual 108, 3) := by decide +kernel
theorem dX3_island_71 : decode cX3_island 71 = .ok (.ireturn, 1) := by decide +kernel
theorem dX3_about_0 : decode cX3_about 0 = .ok (.aload_n 0, 1) := by decide +kernel
theorem dX3_about_1 : decode cX3_about 1 = .ok (.iload_n 1, 1) := by decide +kernel
theorem dX3_about_2 : decode cX3_about 2 = .ok (.invokevirtual 112, 3) := by decide +kernel
theorem dX3_about_5 : decode cX3_about 5 = .ok (.ifCond .ne 6, 3) := by decide +kernel
theorem dX3_about_8 : decode cX3_about 8 = .ok (.bipush (-101), 2) := by decide +kernel
theorem dX3_about_10 : decode cX3_about 10 = .ok (.ireturn, 1) := by decide +kernel
theorem dX3_about_11 : decode cX3_about 11 = .ok (.iload_n 2, 1) := by decide +kernel
theorem dX3_about_12 : decode cX3_about 12 = .ok (.tableswitch 136 0 7 #[48, 58, 68, 78, 90, 107, 117, 126], 48) := by decide +kernel
theorem dX3_about_60 : decode cX3_about 60 = .ok (.aload_n 0, 1) := by decide +kernel
theorem dX3_about_61 : decode cX3_about 61 = .ok (.getfield 33, 3) := by decide +kernel
theorem dX3_about_64 : decode cX3_about 64 = .ok (.getfield 115, 3) := by decide +kernel
theorem dX3_about_67 : decode cX3_about 67 = .ok (.iload_n 1, 1) := by decide +kernel
theorem dX3_about_68 : decode cX3_about 68 = .ok (.iaload, 1) := by decide +kernel
theorem dX3_about_69 : decode cX3_about 69 = .ok (.ireturn, 1) := by decide +kernel
theorem dX3_about_70 : decode cX3_about 70 = .ok (.aload_n 0, 1) := by decide +kernel
theorem dX3_about_71 : decode cX3_about 71 = .ok (.getfield 33, 3) := by decide +kernel
theorem dX3_about_74 : decode cX3_about 74 = .ok (.getfield 118, 3) := by decide +kernel
theorem dX3_about_77 : decode cX3_about 77 = .ok (.iload_n 1, 1) := by decide +kernel
theorem dX3_about_78 : decode cX3_about 78 = .ok (.iaload, 1) := by decide +kernel
theorem dX3_about_79 : decode cX3_about 79 = .ok (.ireturn, 1) := by decide +kernel
theorem dX3_about_80 : decode cX3_about 80 = .ok (.aload_n 0, 1) := by decide +kernel
theorem dX3_about_81 : decode cX3_about 81 = .ok (.getfield 33, 3) := by decide +kernel
theorem dX3_about_84 : decode cX3_about 84 = .ok (.getfield 121, 3) := by decide +kernel
theorem dX3_about_87 : decode cX3_about 87 = .ok (.iload_n 1, 1) := by decide +kernel
theorem dX3_about_88 : decode cX3_about 88 = .ok (.iaload, 1) := by decide +kernel
theorem dX3_about_89 : decode cX3_about 89 = .ok (.ireturn, 1) := by decide +kernel
theorem dX3_about_90 : decode cX3_about 90 = .ok (.aload_n 0, 1) := by decide +kernel
theorem dX3_about_91 : decode cX3_about 91 = .ok (.getfield 33, 3) := by decide +kernel
theorem dX3_about_94 : decode cX3_about 94 = .ok (.iload_n 1, 1) := by decide +kernel
theorem dX3_about_95 : decode cX3_about 95 = .ok (.invokevirtual 124, 3) := by decide +kernel
theorem dX3_about_98 : decode cX3_about 98 = .ok (.bipush 100, 2) := by decide +kernel
theorem dX3_about_100 : decode cX3_about 100 = .ok (.iadd, 1) := by decide +kernel
theorem dX3_about_101 : decode cX3_about 101 = .ok (.ireturn, 1) := by decide +kernel
theorem dX3_about_102 : decode cX3_about 102 = .ok (.aload_n 0, 1) := by decide +kernel
theorem dX3_about_103 : decode cX3_about 103 = .ok (.getfield 33, 3) := by decide +kernel
theorem dX3_about_106 : decode cX3_about 106 = .ok (.iload_n 1, 1) := by decide +kernel
theorem dX3_about_107 : decode cX3_about 107 = .ok (.invokevirtual 127, 3) := by decide +kernel
theorem dX3_about_110 : decode cX3_about 110 = .ok (.ifCond .eq 7, 3) := by decide +kernel
theorem dX3_about_113 : decode cX3_about 113 = .ok (.iconst 1, 1) := by decide +kernel
theorem dX3_about_114 : decode cX3_about 114 = .ok (.goto 4, 3) := by decide +kernel
theorem dX3_about_117 : decode cX3_about 117 = .ok (.iconst 0, 1) := by decide +kernel
theorem dX3_about_118 : decode cX3_about 118 = .ok (.ireturn, 1) := by decide +kernel
theorem dX3_about_119 : decode cX3_about 119 = .ok (.aload_n 0, 1) := by decide +kernel
theorem dX3_about_120 : decode cX3_about 120 = .ok (.getfield 33, 3) := by decide +kernel
theorem dX3_about_123 : decode cX3_about 123 = .ok (.getfield 130, 3) := by decide +kernel
theorem dX3_about_126 : decode cX3_about 126 = .ok (.iload_n 1, 1) := by decide +kernel
theorem dX3_about_127 : decode cX3_about 127 = .ok (.iaload, 1) := by decide +kernel
theorem dX3_about_128 : decode cX3_about 128 = .ok (.ireturn, 1) := by decide +kernel
theorem dX3_about_129 : decode cX3_about 129 = .ok (.aload_n 0, 1) := by decide +kernel
theorem dX3_about_130 : decode cX3_about 130 = .ok (.getfield 33, 3) := by decide +kernel
theorem dX3_about_133 : decode cX3_about 133 = .ok (.iload_n 1, 1) := by decide +kernel
theorem dX3_about_134 : decode cX3_about 134 = .ok (.invokevirtual 133, 3) := by decide +kernel
theorem dX3_about_137 : decode cX3_about 137 = .ok (.ireturn, 1) := by decide +kernel
theorem dX3_about_138 : decode cX3_about 138 = .ok (.aload_n 0, 1) := by decide +kernel
theorem dX3_about_139 : decode cX3_about 139 = .ok (.getfield 33, 3) := by decide +kernel
theorem dX3_about_142 : decode cX3_about 142 = .ok (.getfield 136, 3) := by decide +kernel
theorem dX3_about_145 : decode cX3_about 145 = .ok (.iload_n 1, 1) := by decide +kernel
theorem dX3_about_146 : decode cX3_about 146 = .ok (.iaload, 1) := by decide +kernel
theorem dX3_about_147 : decode cX3_about 147 = .ok (.ireturn, 1) := by decide +kernel
theorem dX3_about_148 : decode cX3_about 148 = .ok (.bipush (-102), 2) := by decide +kernel
theorem dX3_about_150 : decode cX3_about 150 = .ok (.ireturn, 1) := by decide +kernel
theorem dX3_as_0 : decode cX3_as 0 = .ok (.aload_n 0, 1) := by decide +kernel
theorem dX3_as_1 : decode cX3_as 1 = .ok (.iload_n 1, 1) := by decide +kernel
theorem dX3_as_2 : decode cX3_as 2 = .ok (.invokevirtual 112, 3) := by decide +kernel
theorem dX3_as_5 : decode cX3_as 5 = .ok (.ifCond .ne 6, 3) := by decide +kernel
theorem dX3_as_8 : decode cX3_as 8 = .ok (.bipush (-101), 2) := by decide +kernel
theorem dX3_as_10 : decode cX3_as 10 = .ok (.ireturn, 1) := by decide +kernel
theorem dX3_as_11 : decode cX3_as 11 = .ok (.iload_n 2, 1) := by decide +kernel
theorem dX3_as_12 : decode cX3_as 12 = .ok (.invokestatic 102, 3) := by decide +kernel
theorem dX3_as_15 : decode cX3_as 15 = .ok (.ifCond .ne 6, 3) := by decide +kernel
theorem dX3_as_18 : decode cX3_as 18 = .ok (.bipush (-102), 2) := by decide +kernel
theorem dX3_as_20 : decode cX3_as 20 = .ok (.ireturn, 1) := by decide +kernel
theorem dX3_as_21 : decode cX3_as 21 = .ok (.aload_n 0, 1) := by decide +kernel
theorem dX3_as_22 : decode cX3_as 22 = .ok (.getfield 33, 3) := by decide +kernel
theorem dX3_as_25 : decode cX3_as 25 = .ok (.getfield 115, 3) := by decide +kernel
theorem dX3_as_28 : decode cX3_as 28 = .ok (.iload_n 1, 1) := by decide +kernel
theorem dX3_as_29 : decode cX3_as 29 = .ok (.iaload, 1) := by decide +kernel
theorem dX3_as_30 : decode cX3_as 30 = .ok (.istore_n 3, 1) := by decide +kernel
theorem dX3_as_31 : decode cX3_as 31 = .ok (.iload_n 2, 1) := by decide +kernel
theorem dX3_as_32 : decode cX3_as 32 = .ok (.ifCond .eq 18, 3) := by decide +kernel
theorem dX3_as_35 : decode cX3_as 35 = .ok (.iload_n 2, 1) := by decide +kernel
theorem dX3_as_36 : decode cX3_as 36 = .ok (.iload_n 3, 1) := by decide +kernel
theorem dX3_as_37 : decode cX3_as 37 = .ok (.if_icmp .eq 13, 3) := by decide +kernel
theorem dX3_as_40 : decode cX3_as 40 = .ok (.iload_n 2, 1) := by decide +kernel
theorem dX3_as_41 : decode cX3_as 41 = .ok (.iconst 2, 1) := by decide +kernel
theorem dX3_as_42 : decode cX3_as 42 = .ok (.if_icmp .ne 12, 3) := by decide +kernel
theorem dX3_as_45 : decode cX3_as 45 = .ok (.iload_n 3, 1) := by decide +kernel
theorem dX3_as_46 : decode cX3_as 46 = .ok (.iconst 4, 1) := by decide +kernel
theorem dX3_as_47 : decode cX3_as 47 = .ok (.if_icmp .ne 7, 3) := by decide +kernel
theorem dX3_as_50 : decode cX3_as 50 = .ok (.iconst 1, 1) := by decide +kernel
theorem dX3_as_51 : decode cX3_as 51 = .ok (.goto 4, 3) := by decide +kernel
theorem dX3_as_54 : decode cX3_as 54 = .ok (.iconst 0, 1) := by decide +kernel
theorem dX3_as_55 : decode cX3_as 55 = .ok (.istore 4, 2) := by decide +kernel
theorem dX3_as_57 : decode cX3_as 57 = .ok (.iload 4, 2) := by decide +kernel
theorem dX3_as_59 : decode cX3_as 59 = .ok (.ifCond .eq 7, 3) := by decide +kernel
theorem dX3_as_62 : decode cX3_as 62 = .ok (.iload_n 1, 1) := by decide +kernel
theorem dX3_as_63 : decode cX3_as 63 = .ok (.goto 4, 3) := by decide +kernel
theorem dX3_as_66 : decode cX3_as 66 = .ok (.iconst (-1), 1) := by decide +kernel
theorem dX3_as_67 : decode cX3_as 67 = .ok (.ireturn, 1) := by decide +kernel
theorem dX3_anchor_0 : decode cX3_anchor 0 = .ok (.aload_n 0, 1) := by decide +kernel
theorem dX3_anchor_1 : decode cX3_anchor 1 = .ok (.iload_n 1, 1) := by decide +kernel
theorem dX3_anchor_2 : decode cX3_anchor 2 = .ok (.invokevirtual 112, 3) := by decide +kernel
theorem dX3_anchor_5 : decode cX3_anchor 5 = .ok (.ifCond .ne 6, 3) := by decide +kernel
theorem dX3_anchor_8 : decode cX3_anchor 8 = .ok (.bipush (-101), 2) := by decide +kernel
theorem dX3_anchor_10 : decode cX3_anchor 10 = .ok (.ireturn, 1) := by decide +kernel
theorem dX3_anchor_11 : decode cX3_anchor 11 = .ok (.aload_n 0, 1) := by decide +kernel
theorem dX3_anchor_12 : decode cX3_anchor 12 = .ok (.getfield 33, 3) := by decide +kernel
theorem dX3_anchor_15 : decode cX3_anchor 15 = .ok (.iload_n 1, 1) := by decide +kernel
theorem dX3_anchor_16 : decode cX3_anchor 16 = .ok (.invokevirtual 127, 3) := by decide +kernel
theorem dX3_anchor_19 : decode cX3_anchor 19 = .ok (.ifCond .eq 7, 3) := by decide +kernel
theorem dX3_anchor_22 : decode cX3_anchor 22 = .ok (.iconst 1, 1) := by decide +kernel
theorem dX3_anchor_23 : decode cX3_anchor 23 = .ok (.goto 4, 3) := by decide +kernel
theorem dX3_anchor_26 : decode cX3_anchor 26 = .ok (.iconst 0, 1) := by decide +kernel
theorem dX3_anchor_27 : decode cX3_anchor 27 = .ok (.istore_n 3, 1) := by decide +kernel
theorem dX3_anchor_28 : decode cX3_anchor 28 = .ok (.iload_n 2, 1) := by decide +kernel
theorem dX3_anchor_29 : decode cX3_anchor 29 = .ok (.ifCond .eq 21, 3) := by decide +kernel
theorem dX3_anchor_32 : decode cX3_anchor 32 = .ok (.aload_n 0, 1) := by decide +kernel
theorem dX3_anchor_33 : decode cX3_anchor 33 = .ok (.getfield 33, 3) := by decide +kernel
theorem dX3_anchor_36 : decode cX3_anchor 36 = .ok (.dup, 1) := by decide +kernel
theorem dX3_anchor_37 : decode cX3_anchor 37 = .ok (.getfield 139, 3) := by decide +kernel
theorem dX3_anchor_40 : decode cX3_anchor 40 = .ok (.iconst 1, 1) := by decide +kernel
theorem dX3_anchor_41 : decode cX3_anchor 41 = .ok (.iload_n 1, 1) := by decide +kernel
theorem dX3_anchor_42 : decode cX3_anchor 42 = .ok (.ishl, 1) := by decide +kernel
theorem dX3_anchor_43 : decode cX3_anchor 43 = .ok (.ior, 1) := by decide +kernel
theorem dX3_anchor_44 : decode cX3_anchor 44 = .ok (.putfield 139, 3) := by decide +kernel
theorem dX3_anchor_47 : decode cX3_anchor 47 = .ok (.goto 20, 3) := by decide +kernel
theorem dX3_anchor_50 : decode cX3_anchor 50 = .ok (.aload_n 0, 1) := by decide +kernel
theorem dX3_anchor_51 : decode cX3_anchor 51 = .ok (.getfield 33, 3) := by decide +kernel
theorem dX3_anchor_54 : decode cX3_anchor 54 = .ok (.dup, 1) := by decide +kernel
theorem dX3_anchor_55 : decode cX3_anchor 55 = .ok (.getfield 139, 3) := by decide +kernel
theorem dX3_anchor_58 : decode cX3_anchor 58 = .ok (.iconst 1, 1) := by decide +kernel
theorem dX3_anchor_59 : decode cX3_anchor 59 = .ok (.iload_n 1, 1) := by decide +kernel
theorem dX3_anchor_60 : decode cX3_anchor 60 = .ok (.ishl, 1) := by decide +kernel
theorem dX3_anchor_61 : decode cX3_anchor 61 = .ok (.iconst (-1), 1) := by decide +kernel
theorem dX3_anchor_62 : decode cX3_anchor 62 = .ok (.ixor, 1) := by decide +kernel
theorem dX3_anchor_63 : decode cX3_anchor 63 = .ok (.iand, 1) := by decide +kernel
theorem dX3_anchor_64 : decode cX3_anchor 64 = .ok (.putfield 139, 3) := by decide +kernel
theorem dX3_anchor_67 : decode cX3_anchor 67 = .ok (.iload_n 3, 1) := by decide +kernel
theorem dX3_anchor_68 : decode cX3_anchor 68 = .ok (.ireturn, 1) := by decide +kernel
theorem dX3_wed_0 : decode cX3_wed 0 = .ok (.aload_n 0, 1) := by decide +kernel
theorem dX3_wed_1 : decode cX3_wed 1 = .ok (.iload_n 1, 1) := by decide +kernel
theorem dX3_wed_2 : decode cX3_wed 2 = .ok (.iload_n 2, 1) := by decide +kernel
theorem dX3_wed_3 : decode cX3_wed 3 = .ok (.invokevirtual 142, 3) := by decide +kernel
theorem dX3_wed_6 : decode cX3_wed 6 = .ok (.ifCond .ne 6, 3) := by decide +kernel
theorem dX3_wed_9 : decode cX3_wed 9 = .ok (.bipush (-101), 2) := by decide +kernel
theorem dX3_wed_11 : decode cX3_wed 11 = .ok (.ireturn, 1) := by decide +kernel
theorem dX3_wed_12 : decode cX3_wed 12 = .ok (.aload_n 0, 1) := by decide +kernel
theorem dX3_wed_13 : decode cX3_wed 13 = .ok (.getfield 33, 3) := by decide +kernel
theorem dX3_wed_16 : decode cX3_wed 16 = .ok (.iload_n 1, 1) := by decide +kernel
theorem dX3_wed_17 : decode cX3_wed 17 = .ok (.iload_n 2, 1) := by decide +kernel
theorem dX3_wed_18 : decode cX3_wed 18 = .ok (.invokevirtual 146, 3) := by decide +kernel
theorem dX3_wed_21 : decode cX3_wed 21 = .ok (.ifCond .ne 15, 3) := by decide +kernel
theorem dX3_wed_24 : decode cX3_wed 24 = .ok (.aload_n 0, 1) := by decide +kernel
theorem dX3_wed_25 : decode cX3_wed 25 = .ok (.getfield 33, 3) := by decide +kernel
theorem dX3_wed_28 : decode cX3_wed 28 = .ok (.iload_n 1, 1) := by decide +kernel
theorem dX3_wed_29 : decode cX3_wed 29 = .ok (.iload_n 2, 1) := by decide +kernel
theorem dX3_wed_30 : decode cX3_wed 30 = .ok (.invokevirtual 149, 3) := by decide +kernel
theorem dX3_wed_33 : decode cX3_wed 33 = .ok (.ifCond .ne 6, 3) := by decide +kernel
theorem dX3_wed_36 : decode cX3_wed 36 = .ok (.bipush (-103), 2) := by decide +kernel
theorem dX3_wed_38 : decode cX3_wed 38 = .ok (.ireturn, 1) := by decide +kernel
theorem dX3_wed_39 : decode cX3_wed 39 = .ok (.aload_n 0, 1) := by decide +kernel
theorem dX3_wed_40 : decode cX3_wed 40 = .ok (.getfield 33, 3) := by decide +kernel
theorem dX3_wed_43 : decode cX3_wed 43 = .ok (.getfield 152, 3) := by decide +kernel
theorem dX3_wed_46 : decode cX3_wed 46 = .ok (.bipush 6, 2) := by decide +kernel
theorem dX3_wed_48 : decode cX3_wed 48 = .ok (.if_icmp .lt 6, 3) := by decide +kernel
theorem dX3_wed_51 : decode cX3_wed 51 = .ok (.bipush (-104), 2) := by decide +kernel
theorem dX3_wed_53 : decode cX3_wed 53 = .ok (.ireturn, 1) := by decide +kernel
theorem dX3_wed_54 : decode cX3_wed 54 = .ok (.aload_n 0, 1) := by decide +kernel
theorem dX3_wed_55 : decode cX3_wed 55 = .ok (.getfield 33, 3) := by decide +kernel
theorem dX3_wed_58 : decode cX3_wed 58 = .ok (.iload_n 1, 1) := by decide +kernel
theorem dX3_wed_59 : decode cX3_wed 59 = .ok (.iload_n 2, 1) := by decide +kernel
theorem dX3_wed_60 : decode cX3_wed 60 = .ok (.invokevirtual 155, 3) := by decide +kernel
theorem dX3_wed_63 : decode cX3_wed 63 = .ok (.aload_n 0, 1) := by decide +kernel
theorem dX3_wed_64 : decode cX3_wed 64 = .ok (.getfield 33, 3) := by decide +kernel
theorem dX3_wed_67 : decode cX3_wed 67 = .ok (.getfield 152, 3) := by decide +kernel
theorem dX3_wed_70 : decode cX3_wed 70 = .ok (.ireturn, 1) := by decide +kernel
theorem dX3_axe_0 : decode cX3_axe 0 = .ok (.aload_n 0, 1) := by decide +kernel
theorem dX3_axe_1 : decode cX3_axe 1 = .ok (.iload_n 1, 1) := by decide +kernel
theorem dX3_axe_2 : decode cX3_axe 2 = .ok (.iload_n 2, 1) := by decide +kernel
theorem dX3_axe_3 : decode cX3_axe 3 = .ok (.invokevirtual 142, 3) := by decide +kernel
theorem dX3_axe_6 : decode cX3_axe 6 = .ok (.ifCond .ne 6, 3) := by decide +kernel
theorem dX3_axe_9 : decode cX3_axe 9 = .ok (.bipush (-101), 2) := by decide +kernel
theorem dX3_axe_11 : decode cX3_axe 11 = .ok (.ireturn, 1) := by decide +kernel
theorem dX3_axe_12 : decode cX3_axe 12 = .ok (.aload_n 0, 1) := by decide +kernel
theorem dX3_axe_13 : decode cX3_axe 13 = .ok (.getfield 33, 3) := by decide +kernel
theorem dX3_axe_16 : decode cX3_axe 16 = .ok (.iload_n 1, 1) := by decide +kernel
theorem dX3_axe_17 : decode cX3_axe 17 = .ok (.iload_n 2, 1) := by decide +kernel
theorem dX3_axe_18 : decode cX3_axe 18 = .ok (.invokevirtual 146, 3) := by decide +kernel
theorem dX3_axe_21 : decode cX3_axe 21 = .ok (.ifCond .ne 6, 3) := by decide +kernel
theorem dX3_axe_24 : decode cX3_axe 24 = .ok (.bipush (-103), 2) := by decide +kernel
theorem dX3_axe_26 : decode cX3_axe 26 = .ok (.ireturn, 1) := by decide +kernel
theorem dX3_axe_27 : decode cX3_axe 27 = .ok (.aload_n 0, 1) := by decide +kernel
theorem dX3_axe_28 : decode cX3_axe 28 = .ok (.getfield 33, 3) := by decide +kernel
theorem dX3_axe_31 : decode cX3_axe 31 = .ok (.iload_n 1, 1) := by decide +kernel
theorem dX3_axe_32 : decode cX3_axe 32 = .ok (.iload_n 2, 1) := by decide +kernel
theorem dX3_axe_33 : decode cX3_axe 33 = .ok (.invokevirtual 159, 3) := by decide +kernel
theorem dX3_axe_36 : decode cX3_axe 36 = .ok (.aload_n 0, 1) := by decide +kernel
theorem dX3_axe_37 : decode cX3_axe 37 = .ok (.getfield 33, 3) := by decide +kernel
theorem dX3_axe_40 : decode cX3_axe 40 = .ok (.getfield 152, 3) := by decide +kernel
theorem dX3_axe_43 : decode cX3_axe 43 = .ok (.ireturn, 1) := by decide +kernel
theorem dX3_day_0 : decode cX3_day 0 = .ok (.aload_n 0, 1) := by decide +kernel
theorem dX3_day_1 : decode cX3_day 1 = .ok (.getfield 17, 3) := by decide +kernel
theorem dX3_day_4 : decode cX3_day 4 = .ok (.ifCond .eq 13, 3) := by decide +kernel
theorem dX3_day_7 : decode cX3_day 7 = .ok (.aload_n 0, 1) := by decide +kernel
theorem dX3_day_8 : decode cX3_day 8 = .ok (.getfield 33, 3) := by decide +kernel
theorem dX3_day_11 : decode cX3_day 11 = .ok (.invokevirtual 162, 3) := by decide +kernel
theorem dX3_day_14 : decode cX3_day 14 = .ok (.goto 5, 3) := by decide +kernel
theorem dX3_day_17 : decode cX3_day 17 = .ok (.bipush (-103), 2) := by decide +kernel
theorem dX3_day_19 : decode cX3_day 19 = .ok (.ireturn, 1) := by decide +kernel
theorem dX3_meet_0 : decode cX3_meet 0 = .ok (.aload_n 0, 1) := by decide +kernel
theorem dX3_meet_1 : decode cX3_meet 1 = .ok (.iload_n 1, 1) := by decide +kernel
theorem dX3_meet_2 : decode cX3_meet 2 = .ok (.iload_n 2, 1) := by decide +kernel
theorem dX3_meet_3 : decode cX3_meet 3 = .ok (.invokevirtual 142, 3) := by decide +kernel
theorem dX3_meet_6 : decode cX3_meet 6 = .ok (.ifCond .ne 6, 3) := by decide +kernel
theorem dX3_meet_9 : decode cX3_meet 9 = .ok (.bipush (-101), 2) := by decide +kernel
theorem dX3_meet_11 : decode cX3_meet 11 = .ok (.ireturn, 1) := by decide +kernel
theorem dX3_meet_12 : decode cX3_meet 12 = .ok (.aload_n 0, 1) := by decide +kernel
theorem dX3_meet_13 : decode cX3_meet 13 = .ok (.iload_n 1, 1) := by decide +kernel
theorem dX3_meet_14 : decode cX3_meet 14 = .ok (.iload_n 2, 1) := by decide +kernel
theorem dX3_meet_15 : decode cX3_meet 15 = .ok (.bipush 60, 2) := by decide +kernel
theorem dX3_meet_17 : decode cX3_meet 17 = .ok (.iconst 0, 1) := by decide +kernel
theorem dX3_meet_18 : decode cX3_meet 18 = .ok (.invokevirtual 165, 3) := by decide +kernel
theorem dX3_meet_21 : decode cX3_meet 21 = .ok (.ireturn, 1) := by decide +kernel
theorem dX3_anchors_0 : decode cX3_anchors 0 = .ok (.aload_n 0, 1) := by decide +kernel
theorem dX3_anchors_1 : decode cX3_anchors 1 = .ok (.iload_n 1, 1) := by decide +kernel
theorem dX3_anchors_2 : decode cX3_anchors 2 = .ok (.iload_n 2, 1) := by decide +kernel
theorem dX3_anchors_3 : decode cX3_anchors 3 = .ok (.invokevirtual 142, 3) := by decide +kernel
theorem dX3_anchors_6 : decode cX3_anchors 6 = .ok (.ifCond .ne 6, 3) := by decide +kernel
theorem dX3_anchors_9 : decode cX3_anchors 9 = .ok (.bipush (-101), 2) := by decide +kernel
theorem dX3_anchors_11 : decode cX3_anchors 11 = .ok (.ireturn, 1) := by decide +kernel
theorem dX3_anchors_12 : decode cX3_anchors 12 = .ok (.iload_n 3, 1) := by decide +kernel
theorem dX3_anchors_13 : decode cX3_anchors 13 = .ok (.ifCond .lt 20, 3) := by decide +kernel
theorem dX3_anchors_16 : decode cX3_anchors 16 = .ok (.iload_n 3, 1) := by decide +kernel
theorem dX3_anchors_17 : decode cX3_anchors 17 = .ok (.bipush 30, 2) := by decide +kernel
theorem dX3_anchors_19 : decode cX3_anchors 19 = .ok (.if_icmp .gt 14, 3) := by decide +kernel
theorem dX3_anchors_22 : decode cX3_anchors 22 = .ok (.iload 4, 2) := by decide +kernel
theorem dX3_anchors_24 : decode cX3_anchors 24 = .ok (.ifCond .lt 9, 3) := by decide +kernel
theorem dX3_anchors_27 : decode cX3_anchors 27 = .ok (.iload 4, 2) := by decide +kernel
theorem dX3_anchors_29 : decode cX3_anchors 29 = .ok (.iconst 1, 1) := by decide +kernel
theorem dX3_anchors_30 : decode cX3_anchors 30 = .ok (.if_icmp .le 6, 3) := by decide +kernel
theorem dX3_anchors_33 : decode cX3_anchors 33 = .ok (.bipush (-102), 2) := by decide +kernel
theorem dX3_anchors_35 : decode cX3_anchors 35 = .ok (.ireturn, 1) := by decide +kernel
theorem dX3_anchors_36 : decode cX3_anchors 36 = .ok (.aload_n 0, 1) := by decide +kernel
theorem dX3_anchors_37 : decode cX3_anchors 37 = .ok (.getfield 27, 3) := by decide +kernel
theorem dX3_anchors_40 : decode cX3_anchors 40 = .ok (.bipush 30, 2) := by decide +kernel
theorem dX3_anchors_42 : decode cX3_anchors 42 = .ok (.if_icmp .lt 6, 3) := by decide +kernel
theorem dX3_anchors_45 : decode cX3_anchors 45 = .ok (.bipush (-103), 2) := by decide +kernel
theorem dX3_anchors_47 : decode cX3_anchors 47 = .ok (.ireturn, 1) := by decide +kernel
theorem dX3_anchors_48 : decode cX3_anchors 48 = .ok (.aload_n 0, 1) := by decide +kernel
theorem dX3_anchors_49 : decode cX3_anchors 49 = .ok (.dup, 1) := by decide +kernel
theorem dX3_anchors_50 : decode cX3_anchors 50 = .ok (.getfield 27, 3) := by decide +kernel
theorem dX3_anchors_53 : decode cX3_anchors 53 = .ok (.iconst 1, 1) := by decide +kernel
theorem dX3_anchors_54 : decode cX3_anchors 54 = .ok (.iadd, 1) := by decide +kernel
theorem dX3_anchors_55 : decode cX3_anchors 55 = .ok (.putfield 27, 3) := by decide +kernel
theorem dX3_anchors_58 : decode cX3_anchors 58 = .ok (.aload_n 0, 1) := by decide +kernel
theorem dX3_anchors_59 : decode cX3_anchors 59 = .ok (.iload_n 1, 1) := by decide +kernel
theorem dX3_anchors_60 : decode cX3_anchors 60 = .ok (.iload_n 2, 1) := by decide +kernel
theorem dX3_anchors_61 : decode cX3_anchors 61 = .ok (.iload_n 3, 1) := by decide +kernel
theorem dX3_anchors_62 : decode cX3_anchors 62 = .ok (.invokevirtual 169, 3) := by decide +kernel
theorem dX3_anchors_65 : decode cX3_anchors 65 = .ok (.istore 5, 2) := by decide +kernel
theorem dX3_anchors_67 : decode cX3_anchors 67 = .ok (.iload 5, 2) := by decide +kernel
theorem dX3_anchors_69 : decode cX3_anchors 69 = .ok (.iconst (-1), 1) := by decide +kernel
theorem dX3_anchors_70 : decode cX3_anchors 70 = .ok (.if_icmp .ne 5, 3) := by decide +kernel
theorem dX3_anchors_73 : decode cX3_anchors 73 = .ok (.iconst (-1), 1) := by decide +kernel
theorem dX3_anchors_74 : decode cX3_anchors 74 = .ok (.ireturn, 1) := by decide +kernel
theorem dX3_anchors_75 : decode cX3_anchors 75 = .ok (.iload 4, 2) := by decide +kernel
theorem dX3_anchors_77 : decode cX3_anchors 77 = .ok (.ifCond .ne 11, 3) := by decide +kernel
theorem dX3_anchors_80 : decode cX3_anchors 80 = .ok (.iload 5, 2) := by decide +kernel
theorem dX3_anchors_82 : decode cX3_anchors 82 = .ok (.invokestatic 172, 3) := by decide +kernel
theorem dX3_anchors_85 : decode cX3_anchors 85 = .ok (.goto 5, 3) := by decide +kernel
theorem dX3_anchors_88 : decode cX3_anchors 88 = .ok (.iload 5, 2) := by decide +kernel
theorem dX3_anchors_90 : decode cX3_anchors 90 = .ok (.ireturn, 1) := by decide +kernel
theorem dX3_stable_0 : decode cX3_stable 0 = .ok (.iload_n 1, 1) := by decide +kernel
theorem dX3_stable_1 : decode cX3_stable 1 = .ok (.bipush 10, 2) := by decide +kernel
theorem dX3_stable_3 : decode cX3_stable 3 = .ok (.if_icmp .lt 13, 3) := by decide +kernel
theorem dX3_stable_6 : decode cX3_stable 6 = .ok (.iload_n 1, 1) := by decide +kernel
theorem dX3_stable_7 : decode cX3_stable 7 = .ok (.bipush 15, 2) := by decide +kernel
theorem dX3_stable_9 : decode cX3_stable 9 = .ok (.if_icmp .ge 7, 3) := by decide +kernel
theorem dX3_stable_12 : decode cX3_stable 12 = .ok (.iconst 1, 1) := by decide +kernel
theorem dX3_stable_13 : decode cX3_stable 13 = .ok (.goto 4, 3) := by decide +kernel
theorem dX3_stable_16 : decode cX3_stable 16 = .ok (.iconst 0, 1) := by decide +kernel
theorem dX3_stable_17 : decode cX3_stable 17 = .ok (.istore_n 2, 1) := by decide +kernel
theorem dX3_stable_18 : decode cX3_stable 18 = .ok (.iload_n 1, 1) := by decide +kernel
theorem dX3_stable_19 : decode cX3_stable 19 = .ok (.ifCond .eq 15, 3) := by decide +kernel
theorem dX3_stable_22 : decode cX3_stable 22 = .ok (.iload_n 1, 1) := by decide +kernel
theorem dX3_stable_23 : decode cX3_stable 23 = .ok (.iconst 1, 1) := by decide +kernel
theorem dX3_stable_24 : decode cX3_stable 24 = .ok (.if_icmp .eq 10, 3) := by decide +kernel
theorem dX3_stable_27 : decode cX3_stable 27 = .ok (.iload_n 2, 1) := by decide +kernel
theorem dX3_stable_28 : decode cX3_stable 28 = .ok (.ifCond .ne 6, 3) := by decide +kernel
theorem dX3_stable_31 : decode cX3_stable 31 = .ok (.bipush (-102), 2) := by decide +kernel
theorem dX3_stable_33 : decode cX3_stable 33 = .ok (.ireturn, 1) := by decide +kernel
theorem dX3_stable_34 : decode cX3_stable 34 = .ok (.aload_n 0, 1) := by decide +kernel
theorem dX3_stable_35 : decode cX3_stable 35 = .ok (.getfield 17, 3) := by decide +kernel
theorem dX3_stable_38 : decode cX3_stable 38 = .ok (.ifCond .ne 6, 3) := by decide +kernel
theorem dX3_stable_41 : decode cX3_stable 41 = .ok (.bipush (-103), 2) := by decide +kernel
theorem dX3_stable_43 : decode cX3_stable 43 = .ok (.ireturn, 1) := by decide +kernel
theorem dX3_stable_44 : decode cX3_stable 44 = .ok (.aload_n 0, 1) := by decide +kernel
theorem dX3_stable_45 : decode cX3_stable 45 = .ok (.bipush 30, 2) := by decide +kernel
theorem dX3_stable_47 : decode cX3_stable 47 = .ok (.invokevirtual 177, 3) := by decide +kernel
theorem dX3_stable_50 : decode cX3_stable 50 = .ok (.aload_n 0, 1) := by decide +kernel
theorem dX3_stable_51 : decode cX3_stable 51 = .ok (.getfield 59, 3) := by decide +kernel
theorem dX3_stable_54 : decode cX3_stable 54 = .ok (.aload_n 0, 1) := by decide +kernel
theorem dX3_stable_55 : decode cX3_stable 55 = .ok (.getfield 33, 3) := by decide +kernel
theorem dX3_stable_58 : decode cX3_stable 58 = .ok (.aload_n 0, 1) := by decide +kernel
theorem dX3_stable_59 : decode cX3_stable 59 = .ok (.getfield 53, 3) := by decide +kernel
theorem dX3_stable_62 : decode cX3_stable 62 = .ok (.invokevirtual 181, 3) := by decide +kernel
theorem dX3_stable_65 : decode cX3_stable 65 = .ok (.aload_n 0, 1) := by decide +kernel
theorem dX3_stable_66 : decode cX3_stable 66 = .ok (.iload_n 1, 1) := by decide +kernel
theorem dX3_stable_67 : decode cX3_stable 67 = .ok (.invokevirtual 185, 3) := by decide +kernel
theorem dX3_stable_70 : decode cX3_stable 70 = .ok (.ireturn, 1) := by decide +kernel
theorem dX3_parting_0 : decode cX3_parting 0 = .ok (.aload_n 0, 1) := by decide +kernel
theorem dX3_parting_1 : decode cX3_parting 1 = .ok (.iload_n 1, 1) := by decide +kernel
theorem dX3_parting_2 : decode cX3_parting 2 = .ok (.iload_n 2, 1) := by decide +kernel
theorem dX3_parting_3 : decode cX3_parting 3 = .ok (.invokevirtual 142, 3) := by decide +kernel
theorem dX3_parting_6 : decode cX3_parting 6 = .ok (.ifCond .ne 6, 3) := by decide +kernel
theorem dX3_parting_9 : decode cX3_parting 9 = .ok (.bipush (-101), 2) := by decide +kernel
theorem dX3_parting_11 : decode cX3_parting 11 = .ok (.ireturn, 1) := by decide +kernel
theorem dX3_parting_12 : decode cX3_parting 12 = .ok (.aload_n 0, 1) := by decide +kernel
theorem dX3_parting_13 : decode cX3_parting 13 = .ok (.getfield 33, 3) := by decide +kernel
theorem dX3_parting_16 : decode cX3_parting 16 = .ok (.getfield 130, 3) := by decide +kernel
theorem dX3_parting_19 : decode cX3_parting 19 = .ok (.iload_n 1, 1) := by decide +kernel
theorem dX3_parting_20 : decode cX3_parting 20 = .ok (.iaload, 1) := by decide +kernel
theorem dX3_parting_21 : decode cX3_parting 21 = .ok (.iload_n 2, 1) := by decide +kernel
theorem dX3_parting_22 : decode cX3_parting 22 = .ok (.ishr, 1) := by decide +kernel
theorem dX3_parting_23 : decode cX3_parting 23 = .ok (.iconst 1, 1) := by decide +kernel
theorem dX3_parting_24 : decode cX3_parting 24 = .ok (.iand, 1) := by decide +kernel
theorem dX3_parting_25 : decode cX3_parting 25 = .ok (.ifCond .ne 6, 3) := by decide +kernel
theorem dX3_parting_28 : decode cX3_parting 28 = .ok (.bipush (-103), 2) := by decide +kernel
theorem dX3_parting_30 : decode cX3_parting 30 = .ok (.ireturn, 1) := by decide +kernel
theorem dX3_parting_31 : decode cX3_parting 31 = .ok (.aload_n 0, 1) := by decide +kernel
theorem dX3_parting_32 : decode cX3_parting 32 = .ok (.getfield 33, 3) := by decide +kernel
theorem dX3_parting_35 : decode cX3_parting 35 = .ok (.iload_n 1, 1) := by decide +kernel
theorem dX3_parting_36 : decode cX3_parting 36 = .ok (.iload_n 2, 1) := by decide +kernel
theorem dX3_parting_37 : decode cX3_parting 37 = .ok (.invokevirtual 188, 3) := by decide +kernel
theorem dX3_parting_40 : decode cX3_parting 40 = .ok (.ireturn, 1) := by decide +kernel
theorem dX3_shell_0 : decode cX3_shell 0 = .ok (.aload_n 0, 1) := by decide +kernel
theorem dX3_shell_1 : decode cX3_shell 1 = .ok (.iload_n 1, 1) := by decide +kernel
theorem dX3_shell_2 : decode cX3_shell 2 = .ok (.iload_n 2, 1) := by decide +kernel
theorem dX3_shell_3 : decode cX3_shell 3 = .ok (.invokevirtual 142, 3) := by decide +kernel
theorem dX3_shell_6 : decode cX3_shell 6 = .ok (.ifCond .ne 6, 3) := by decide +kernel
theorem dX3_shell_9 : decode cX3_shell 9 = .ok (.bipush (-101), 2) := by decide +kernel
theorem dX3_shell_11 : decode cX3_shell 11 = .ok (.ireturn, 1) := by decide +kernel
theorem dX3_shell_12 : decode cX3_shell 12 = .ok (.iload_n 3, 1) := by decide +kernel
theorem dX3_shell_13 : decode cX3_shell 13 = .ok (.ifCond .lt 9, 3) := by decide +kernel
theorem dX3_shell_16 : decode cX3_shell 16 = .ok (.iload_n 3, 1) := by decide +kernel
theorem dX3_shell_17 : decode cX3_shell 17 = .ok (.bipush 20, 2) := by decide +kernel
theorem dX3_shell_19 : decode cX3_shell 19 = .ok (.if_icmp .le 6, 3) := by decide +kernel
theorem dX3_shell_22 : decode cX3_shell 22 = .ok (.bipush (-102), 2) := by decide +kernel
theorem dX3_shell_24 : decode cX3_shell 24 = .ok (.ireturn, 1) := by decide +kernel
theorem dX3_shell_25 : decode cX3_shell 25 = .ok (.aload_n 0, 1) := by decide +kernel
theorem dX3_shell_26 : decode cX3_shell 26 = .ok (.getfield 46, 3) := by decide +kernel
theorem dX3_shell_29 : decode cX3_shell 29 = .ok (.getfield 87, 3) := by decide +kernel
theorem dX3_shell_32 : decode cX3_shell 32 = .ok (.bipush 8, 2) := by decide +kernel
theorem dX3_shell_34 : decode cX3_shell 34 = .ok (.if_icmp .lt 6, 3) := by decide +kernel
theorem dX3_shell_37 : decode cX3_shell 37 = .ok (.bipush (-104), 2) := by decide +kernel
theorem dX3_shell_39 : decode cX3_shell 39 = .ok (.ireturn, 1) := by decide +kernel
theorem dX3_shell_40 : decode cX3_shell 40 = .ok (.aload_n 0, 1) := by decide +kernel
theorem dX3_shell_41 : decode cX3_shell 41 = .ok (.getfield 46, 3) := by decide +kernel
theorem dX3_shell_44 : decode cX3_shell 44 = .ok (.iload_n 1, 1) := by decide +kernel
theorem dX3_shell_45 : decode cX3_shell 45 = .ok (.iload_n 2, 1) := by decide +kernel
theorem dX3_shell_46 : decode cX3_shell 46 = .ok (.iload_n 3, 1) := by decide +kernel
theorem dX3_shell_47 : decode cX3_shell 47 = .ok (.iload 4, 2) := by decide +kernel
theorem dX3_shell_49 : decode cX3_shell 49 = .ok (.invokevirtual 191, 3) := by decide +kernel
theorem dX3_shell_52 : decode cX3_shell 52 = .ok (.ireturn, 1) := by decide +kernel
theorem dX3_forget_0 : decode cX3_forget 0 = .ok (.aload_n 0, 1) := by decide +kernel
theorem dX3_forget_1 : decode cX3_forget 1 = .ok (.getfield 46, 3) := by decide +kernel
theorem dX3_forget_4 : decode cX3_forget 4 = .ok (.getfield 87, 3) := by decide +kernel
theorem dX3_forget_7 : decode cX3_forget 7 = .ok (.istore_n 1, 1) := by decide +kernel
theorem dX3_forget_8 : decode cX3_forget 8 = .ok (.aload_n 0, 1) := by decide +kernel
theorem dX3_forget_9 : decode cX3_forget 9 = .ok (.getfield 46, 3) := by decide +kernel
theorem dX3_forget_12 : decode cX3_forget 12 = .ok (.iconst 0, 1) := by decide +kernel
theorem dX3_forget_13 : decode cX3_forget 13 = .ok (.putfield 87, 3) := by decide +kernel
theorem dX3_forget_16 : decode cX3_forget 16 = .ok (.iload_n 1, 1) := by decide +kernel
theorem dX3_forget_17 : decode cX3_forget 17 = .ok (.ireturn, 1) := by decide +kernel
theorem dX3_guess_0 : decode cX3_guess 0 = .ok (.aload_n 0, 1) := by decide +kernel
theorem dX3_guess_1 : decode cX3_guess 1 = .ok (.iload_n 1, 1) := by decide +kernel
theorem dX3_guess_2 : decode cX3_guess 2 = .ok (.invokevirtual 112, 3) := by decide +kernel
theorem dX3_guess_5 : decode cX3_guess 5 = .ok (.ifCond .ne 6, 3) := by decide +kernel
theorem dX3_guess_8 : decode cX3_guess 8 = .ok (.bipush (-101), 2) := by decide +kernel
theorem dX3_guess_10 : decode cX3_guess 10 = .ok (.ireturn, 1) := by decide +kernel
theorem dX3_guess_11 : decode cX3_guess 11 = .ok (.iload_n 2, 1) := by decide +kernel
theorem dX3_guess_12 : decode cX3_guess 12 = .ok (.ifCond .lt 8, 3) := by decide +kernel
theorem dX3_guess_15 : decode cX3_guess 15 = .ok (.iload_n 2, 1) := by decide +kernel
theorem dX3_guess_16 : decode cX3_guess 16 = .ok (.iconst 1, 1) := by decide +kernel
theorem dX3_guess_17 : decode cX3_guess 17 = .ok (.if_icmp .le 6, 3) := by decide +kernel
theorem dX3_guess_20 : decode cX3_guess 20 = .ok (.bipush (-102), 2) := by decide +kernel
theorem dX3_guess_22 : decode cX3_guess 22 = .ok (.ireturn, 1) := by decide +kernel
theorem dX3_guess_23 : decode cX3_guess 23 = .ok (.iconst 0, 1) := by decide +kernel
theorem dX3_guess_24 : decode cX3_guess 24 = .ok (.istore_n 3, 1) := by decide +kernel
theorem dX3_guess_25 : decode cX3_guess 25 = .ok (.iconst (-1), 1) := by decide +kernel
theorem dX3_guess_26 : decode cX3_guess 26 = .ok (.istore 4, 2) := by decide +kernel
theorem dX3_guess_28 : decode cX3_guess 28 = .ok (.iconst 0, 1) := by decide +kernel
theorem dX3_guess_29 : decode cX3_guess 29 = .ok (.istore 5, 2) := by decide +kernel
theorem dX3_guess_31 : decode cX3_guess 31 = .ok (.iload 5, 2) := by decide +kernel
theorem dX3_guess_33 : decode cX3_guess 33 = .ok (.bipush 12, 2) := by decide +kernel
theorem dX3_guess_35 : decode cX3_guess 35 = .ok (.if_icmp .ge 87, 3) := by decide +kernel
theorem dX3_guess_38 : decode cX3_guess 38 = .ok (.aload_n 0, 1) := by decide +kernel
theorem dX3_guess_39 : decode cX3_guess 39 = .ok (.getfield 33, 3) := by decide +kernel
theorem dX3_guess_42 : decode cX3_guess 42 = .ok (.iload 5, 2) := by decide +kernel
theorem dX3_guess_44 : decode cX3_guess 44 = .ok (.invokevirtual 96, 3) := by decide +kernel
theorem dX3_guess_47 : decode cX3_guess 47 = .ok (.istore 6, 2) := by decide +kernel
theorem dX3_guess_49 : decode cX3_guess 49 = .ok (.iload 6, 2) := by decide +kernel
theorem dX3_guess_51 : decode cX3_guess 51 = .ok (.iconst (-1), 1) := by decide +kernel
theorem dX3_guess_52 : decode cX3_guess 52 = .ok (.if_icmp .eq 12, 3) := by decide +kernel
theorem dX3_guess_55 : decode cX3_guess 55 = .ok (.iload 6, 2) := by decide +kernel
theorem dX3_guess_57 : decode cX3_guess 57 = .ok (.iload_n 1, 1) := by decide +kernel
theorem dX3_guess_58 : decode cX3_guess 58 = .ok (.if_icmp .eq 6, 3) := by decide +kernel
theorem dX3_guess_61 : decode cX3_guess 61 = .ok (.goto 55, 3) := by decide +kernel
theorem dX3_guess_64 : decode cX3_guess 64 = .ok (.iconst (-1), 1) := by decide +kernel
theorem dX3_guess_65 : decode cX3_guess 65 = .ok (.istore 7, 2) := by decide +kernel
theorem dX3_guess_67 : decode cX3_guess 67 = .ok (.iload 7, 2) := by decide +kernel
theorem dX3_guess_69 : decode cX3_guess 69 = .ok (.iconst 1, 1) := by decide +kernel
theorem dX3_guess_70 : decode cX3_guess 70 = .ok (.if_icmp .gt 46, 3) := by decide +kernel
theorem dX3_guess_73 : decode cX3_guess 73 = .ok (.aload_n 0, 1) := by decide +kernel
theorem dX3_guess_74 : decode cX3_guess 74 = .ok (.iload_n 1, 1) := by decide +kernel
theorem dX3_guess_75 : decode cX3_guess 75 = .ok (.iload 5, 2) := by decide +kernel
theorem dX3_guess_77 : decode cX3_guess 77 = .ok (.iload 7, 2) := by decide +kernel
theorem dX3_guess_79 : decode cX3_guess 79 = .ok (.invokevirtual 194, 3) := by decide +kernel
theorem dX3_guess_82 : decode cX3_guess 82 = .ok (.ifCond .eq 28, 3) := by decide +kernel
theorem dX3_guess_85 : decode cX3_guess 85 = .ok (.iinc 3 1, 3) := by decide +kernel
theorem dX3_guess_88 : decode cX3_guess 88 = .ok (.iload 4, 2) := by decide +kernel
theorem dX3_guess_90 : decode cX3_guess 90 = .ok (.iconst (-1), 1) := by decide +kernel
theorem dX3_guess_91 : decode cX3_guess 91 = .ok (.if_icmp .ne 15, 3) := by decide +kernel
theorem dX3_guess_94 : decode cX3_guess 94 = .ok (.iconst 3, 1) := by decide +kernel
theorem dX3_guess_95 : decode cX3_guess 95 = .ok (.iload 5, 2) := by decide +kernel
theorem dX3_guess_97 : decode cX3_guess 97 = .ok (.imul, 1) := by decide +kernel
theorem dX3_guess_98 : decode cX3_guess 98 = .ok (.iload 7, 2) := by decide +kernel
theorem dX3_guess_100 : decode cX3_guess 100 = .ok (.iadd, 1) := by decide +kernel
theorem dX3_guess_101 : decode cX3_guess 101 = .ok (.iconst 1, 1) := by decide +kernel
theorem dX3_guess_102 : decode cX3_guess 102 = .ok (.iadd, 1) := by decide +kernel
theorem dX3_guess_103 : decode cX3_guess 103 = .ok (.goto 5, 3) := by decide +kernel
theorem dX3_guess_106 : decode cX3_guess 106 = .ok (.iload 4, 2) := by decide +kernel
theorem dX3_guess_108 : decode cX3_guess 108 = .ok (.istore 4, 2) := by decide +kernel
theorem dX3_guess_110 : decode cX3_guess 110 = .ok (.iinc 7 1, 3) := by decide +kernel
theorem dX3_guess_113 : decode cX3_guess 113 = .ok (.goto (-46), 3) := by decide +kernel
theorem dX3_guess_116 : decode cX3_guess 116 = .ok (.iinc 5 1, 3) := by decide +kernel
theorem dX3_guess_119 : decode cX3_guess 119 = .ok (.goto (-88), 3) := by decide +kernel
theorem dX3_guess_122 : decode cX3_guess 122 = .ok (.iload_n 2, 1) := by decide +kernel
theorem dX3_guess_123 : decode cX3_guess 123 = .ok (.ifCond .ne 7, 3) := by decide +kernel
theorem dX3_guess_126 : decode cX3_guess 126 = .ok (.iload_n 3, 1) := by decide +kernel
theorem dX3_guess_127 : decode cX3_guess 127 = .ok (.goto 5, 3) := by decide +kernel
theorem dX3_guess_130 : decode cX3_guess 130 = .ok (.iload 4, 2) := by decide +kernel
theorem dX3_guess_132 : decode cX3_guess 132 = .ok (.ireturn, 1) := by decide +kernel
theorem dX3_seasons_0 : decode cX3_seasons 0 = .ok (.iload_n 1, 1) := by decide +kernel
theorem dX3_seasons_1 : decode cX3_seasons 1 = .ok (.iconst 1, 1) := by decide +kernel
theorem dX3_seasons_2 : decode cX3_seasons 2 = .ok (.if_icmp .lt 22, 3) := by decide +kernel
theorem dX3_seasons_5 : decode cX3_seasons 5 = .ok (.iload_n 1, 1) := by decide +kernel
theorem dX3_seasons_6 : decode cX3_seasons 6 = .ok (.bipush 60, 2) := by decide +kernel
theorem dX3_seasons_8 : decode cX3_seasons 8 = .ok (.if_icmp .gt 16, 3) := by decide +kernel
theorem dX3_seasons_11 : decode cX3_seasons 11 = .ok (.iload_n 2, 1) := by decide +kernel
theorem dX3_seasons_12 : decode cX3_seasons 12 = .ok (.ifCond .lt 12, 3) := by decide +kernel
theorem dX3_seasons_15 : decode cX3_seasons 15 = .ok (.iload_n 3, 1) := by decide +kernel
theorem dX3_seasons_16 : decode cX3_seasons 16 = .ok (.ifCond .lt 8, 3) := by decide +kernel
theorem dX3_seasons_19 : decode cX3_seasons 19 = .ok (.iload_n 3, 1) := by decide +kernel
theorem dX3_seasons_20 : decode cX3_seasons 20 = .ok (.iconst 2, 1) := by decide +kernel
theorem dX3_seasons_21 : decode cX3_seasons 21 = .ok (.if_icmp .le 6, 3) := by decide +kernel
theorem dX3_seasons_24 : decode cX3_seasons 24 = .ok (.bipush (-102), 2) := by decide +kernel
theorem dX3_seasons_26 : decode cX3_seasons 26 = .ok (.ireturn, 1) := by decide +kernel
theorem dX3_seasons_27 : decode cX3_seasons 27 = .ok (.aload_n 0, 1) := by decide +kernel
theorem dX3_seasons_28 : decode cX3_seasons 28 = .ok (.getfield 17, 3) := by decide +kernel
theorem dX3_seasons_31 : decode cX3_seasons 31 = .ok (.ifCond .ne 6, 3) := by decide +kernel
theorem dX3_seasons_34 : decode cX3_seasons 34 = .ok (.bipush (-103), 2) := by decide +kernel
theorem dX3_seasons_36 : decode cX3_seasons 36 = .ok (.ireturn, 1) := by decide +kernel
theorem dX3_seasons_37 : decode cX3_seasons 37 = .ok (.aload_n 0, 1) := by decide +kernel
theorem dX3_seasons_38 : decode cX3_seasons 38 = .ok (.getfield 40, 3) := by decide +kernel
theorem dX3_seasons_41 : decode cX3_seasons 41 = .ok (.aload_n 0, 1) := by decide +kernel
theorem dX3_seasons_42 : decode cX3_seasons 42 = .ok (.getfield 33, 3) := by decide +kernel
theorem dX3_seasons_45 : decode cX3_seasons 45 = .ok (.invokevirtual 198, 3) := by decide +kernel
theorem dX3_seasons_48 : decode cX3_seasons 48 = .ok (.iload_n 2, 1) := by decide +kernel
theorem dX3_seasons_49 : decode cX3_seasons 49 = .ok (.istore 4, 2) := by decide +kernel
theorem dX3_seasons_51 : decode cX3_seasons 51 = .ok (.iconst 0, 1) := by decide +kernel
theorem dX3_seasons_52 : decode cX3_seasons 52 = .ok (.istore 5, 2) := by decide +kernel
theorem dX3_seasons_54 : decode cX3_seasons 54 = .ok (.iconst 0, 1) := by decide +kernel
theorem dX3_seasons_55 : decode cX3_seasons 55 = .ok (.istore 6, 2) := by decide +kernel
theorem dX3_seasons_57 : decode cX3_seasons 57 = .ok (.iload 6, 2) := by decide +kernel
theorem dX3_seasons_59 : decode cX3_seasons 59 = .ok (.iload_n 1, 1) := by decide +kernel
theorem dX3_seasons_60 : decode cX3_seasons 60 = .ok (.if_icmp .ge 44, 3) := by decide +kernel
theorem dX3_seasons_63 : decode cX3_seasons 63 = .ok (.iload 4, 2) := by decide +kernel
theorem dX3_seasons_65 : decode cX3_seasons 65 = .ok (.invokestatic 202, 3) := by decide +kernel
theorem dX3_seasons_68 : decode cX3_seasons 68 = .ok (.istore 4, 2) := by decide +kernel
theorem dX3_seasons_70 : decode cX3_seasons 70 = .ok (.aload_n 0, 1) := by decide +kernel
theorem dX3_seasons_71 : decode cX3_seasons 71 = .ok (.getfield 40, 3) := by decide +kernel
theorem dX3_seasons_74 : decode cX3_seasons 74 = .ok (.iload 4, 2) := by decide +kernel
theorem dX3_seasons_76 : decode cX3_seasons 76 = .ok (.bipush 16, 2) := by decide +kernel
theorem dX3_seasons_78 : decode cX3_seasons 78 = .ok (.ishr, 1) := by decide +kernel
theorem dX3_seasons_79 : decode cX3_seasons 79 = .ok (.iconst 3, 1) := by decide +kernel
theorem dX3_seasons_80 : decode cX3_seasons 80 = .ok (.irem, 1) := by decide +kernel
theorem dX3_seasons_81 : decode cX3_seasons 81 = .ok (.iconst 1, 1) := by decide +kernel
theorem dX3_seasons_82 : decode cX3_seasons 82 = .ok (.isub, 1) := by decide +kernel
theorem dX3_seasons_83 : decode cX3_seasons 83 = .ok (.putfield 99, 3) := by decide +kernel
theorem dX3_seasons_86 : decode cX3_seasons 86 = .ok (.iload 5, 2) := by decide +kernel
theorem dX3_seasons_88 : decode cX3_seasons 88 = .ok (.aload_n 0, 1) := by decide +kernel
theorem dX3_seasons_89 : decode cX3_seasons 89 = .ok (.getfield 40, 3) := by decide +kernel
theorem dX3_seasons_92 : decode cX3_seasons 92 = .ok (.invokevirtual 162, 3) := by decide +kernel
theorem dX3_seasons_95 : decode cX3_seasons 95 = .ok (.iadd, 1) := by decide +kernel
theorem dX3_seasons_96 : decode cX3_seasons 96 = .ok (.istore 5, 2) := by decide +kernel
theorem dX3_seasons_98 : decode cX3_seasons 98 = .ok (.iinc 6 1, 3) := by decide +kernel
theorem dX3_seasons_101 : decode cX3_seasons 101 = .ok (.goto (-44), 3) := by decide +kernel
theorem dX3_seasons_104 : decode cX3_seasons 104 = .ok (.iload_n 3, 1) := by decide +kernel
theorem dX3_seasons_105 : decode cX3_seasons 105 = .ok (.ifCond .ne 6, 3) := by decide +kernel
theorem dX3_seasons_108 : decode cX3_seasons 108 = .ok (.iload 5, 2) := by decide +kernel
theorem dX3_seasons_110 : decode cX3_seasons 110 = .ok (.ireturn, 1) := by decide +kernel
theorem dX3_seasons_111 : decode cX3_seasons 111 = .ok (.iload_n 3, 1) := by decide +kernel
theorem dX3_seasons_112 : decode cX3_seasons 112 = .ok (.iconst 1, 1) := by decide +kernel
theorem dX3_seasons_113 : decode cX3_seasons 113 = .ok (.if_icmp .ne 13, 3) := by decide +kernel
theorem dX3_seasons_116 : decode cX3_seasons 116 = .ok (.aload_n 0, 1) := by decide +kernel
theorem dX3_seasons_117 : decode cX3_seasons 117 = .ok (.getfield 40, 3) := by decide +kernel
theorem dX3_seasons_120 : decode cX3_seasons 120 = .ok (.invokevirtual 205, 3) := by decide +kernel
theorem dX3_seasons_123 : decode cX3_seasons 123 = .ok (.goto 5, 3) := by decide +kernel
theorem dX3_seasons_126 : decode cX3_seasons 126 = .ok (.iload 4, 2) := by decide +kernel
theorem dX3_seasons_128 : decode cX3_seasons 128 = .ok (.ireturn, 1) := by decide +kernel
theorem dX3_image_0 : decode cX3_image 0 = .ok (.aload_n 0, 1) := by decide +kernel
theorem dX3_image_1 : decode cX3_image 1 = .ok (.getfield 17, 3) := by decide +kernel
theorem dX3_image_4 : decode cX3_image 4 = .ok (.ifCond .ne 6, 3) := by decide +kernel
theorem dX3_image_7 : decode cX3_image 7 = .ok (.bipush (-103), 2) := by decide +kernel
theorem dX3_image_9 : decode cX3_image 9 = .ok (.ireturn, 1) := by decide +kernel
theorem dX3_image_10 : decode cX3_image 10 = .ok (.aload_n 0, 1) := by decide +kernel
theorem dX3_image_11 : decode cX3_image 11 = .ok (.getfield 37, 3) := by decide +kernel
theorem dX3_image_14 : decode cX3_image 14 = .ok (.aload_n 0, 1) := by decide +kernel
theorem dX3_image_15 : decode cX3_image 15 = .ok (.getfield 33, 3) := by decide +kernel
theorem dX3_image_18 : decode cX3_image 18 = .ok (.invokevirtual 198, 3) := by decide +kernel
theorem dX3_image_21 : decode cX3_image 21 = .ok (.aload_n 0, 1) := by decide +kernel
theorem dX3_image_22 : decode cX3_image 22 = .ok (.getfield 50, 3) := by decide +kernel
theorem dX3_image_25 : decode cX3_image 25 = .ok (.aload_n 0, 1) := by decide +kernel
theorem dX3_image_26 : decode cX3_image 26 = .ok (.getfield 46, 3) := by decide +kernel
theorem dX3_image_29 : decode cX3_image 29 = .ok (.invokevirtual 208, 3) := by decide +kernel
theorem dX3_image_32 : decode cX3_image 32 = .ok (.aload_n 0, 1) := by decide +kernel
theorem dX3_image_33 : decode cX3_image 33 = .ok (.iconst 1, 1) := by decide +kernel
theorem dX3_image_34 : decode cX3_image 34 = .ok (.putfield 21, 3) := by decide +kernel
theorem dX3_image_37 : decode cX3_image 37 = .ok (.aload_n 0, 1) := by decide +kernel
theorem dX3_image_38 : decode cX3_image 38 = .ok (.getfield 33, 3) := by decide +kernel
theorem dX3_image_41 : decode cX3_image 41 = .ok (.getfield 211, 3) := by decide +kernel
theorem dX3_image_44 : decode cX3_image 44 = .ok (.ireturn, 1) := by decide +kernel
theorem dX3_restore_0 : decode cX3_restore 0 = .ok (.aload_n 0, 1) := by decide +kernel
theorem dX3_restore_1 : decode cX3_restore 1 = .ok (.getfield 21, 3) := by decide +kernel
theorem dX3_restore_4 : decode cX3_restore 4 = .ok (.ifCond .ne 6, 3) := by decide +kernel
theorem dX3_restore_7 : decode cX3_restore 7 = .ok (.bipush (-103), 2) := by decide +kernel
theorem dX3_restore_9 : decode cX3_restore 9 = .ok (.ireturn, 1) := by decide +kernel
theorem dX3_restore_10 : decode cX3_restore 10 = .ok (.aload_n 0, 1) := by decide +kernel
theorem dX3_restore_11 : decode cX3_restore 11 = .ok (.getfield 33, 3) := by decide +kernel
theorem dX3_restore_14 : decode cX3_restore 14 = .ok (.aload_n 0, 1) := by decide +kernel
theorem dX3_restore_15 : decode cX3_restore 15 = .ok (.getfield 37, 3) := by decide +kernel
theorem dX3_restore_18 : decode cX3_restore 18 = .ok (.invokevirtual 198, 3) := by decide +kernel
theorem dX3_restore_21 : decode cX3_restore 21 = .ok (.aload_n 0, 1) := by decide +kernel
theorem dX3_restore_22 : decode cX3_restore 22 = .ok (.getfield 46, 3) := by decide +kernel
theorem dX3_restore_25 : decode cX3_restore 25 = .ok (.aload_n 0, 1) := by decide +kernel
theorem dX3_restore_26 : decode cX3_restore 26 = .ok (.getfield 50, 3) := by decide +kernel
theorem dX3_restore_29 : decode cX3_restore 29 = .ok (.invokevirtual 208, 3) := by decide +kernel
theorem dX3_restore_32 : decode cX3_restore 32 = .ok (.aload_n 0, 1) := by decide +kernel
theorem dX3_restore_33 : decode cX3_restore 33 = .ok (.getfield 33, 3) := by decide +kernel
theorem dX3_restore_36 : decode cX3_restore 36 = .ok (.getfield 211, 3) := by decide +kernel
theorem dX3_restore_39 : decode cX3_restore 39 = .ok (.ireturn, 1) := by decide +kernel
theorem dX3_count_0 : decode cX3_count 0 = .ok (.iload_n 1, 1) := by decide +kernel
theorem dX3_count_1 : decode cX3_count 1 = .ok (.tableswitch 158 0 11 #[63, 77, 85, 93, 101, 109, 117, 125, 135, 143, 148, 153], 63) := by decide +kernel
theorem dX3_count_64 : decode cX3_count 64 = .ok (.aload_n 0, 1) := by decide +kernel
theorem dX3_count_65 : decode cX3_count 65 = .ok (.getfield 17, 3) := by decide +kernel
theorem dX3_count_68 : decode cX3_count 68 = .ok (.ifCond .eq 8, 3) := by decide +kernel
theorem dX3_count_71 : decode cX3_count 71 = .ok (.bipush 12, 2) := by decide +kernel
theorem dX3_count_73 : decode cX3_count 73 = .ok (.goto 4, 3) := by decide +kernel
theorem dX3_count_76 : decode cX3_count 76 = .ok (.iconst 0, 1) := by decide +kernel
theorem dX3_count_77 : decode cX3_count 77 = .ok (.ireturn, 1) := by decide +kernel
theorem dX3_count_78 : decode cX3_count 78 = .ok (.aload_n 0, 1) := by decide +kernel
theorem dX3_count_79 : decode cX3_count 79 = .ok (.getfield 33, 3) := by decide +kernel
theorem dX3_count_82 : decode cX3_count 82 = .ok (.invokevirtual 90, 3) := by decide +kernel
theorem dX3_count_85 : decode cX3_count 85 = .ok (.ireturn, 1) := by decide +kernel
theorem dX3_count_86 : decode cX3_count 86 = .ok (.aload_n 0, 1) := by decide +kernel
theorem dX3_count_87 : decode cX3_count 87 = .ok (.getfield 33, 3) := by decide +kernel
theorem dX3_count_90 : decode cX3_count 90 = .ok (.getfield 105, 3) := by decide +kernel
theorem dX3_count_93 : decode cX3_count 93 = .ok (.ireturn, 1) := by decide +kernel
theorem dX3_count_94 : decode cX3_count 94 = .ok (.aload_n 0, 1) := by decide +kernel
theorem dX3_count_95 : decode cX3_count 95 = .ok (.getfield 33, 3) := by decide +kernel
theorem dX3_count_98 : decode cX3_count 98 = .ok (.getfield 152, 3) := by decide +kernel
theorem dX3_count_101 : decode cX3_count 101 = .ok (.ireturn, 1) := by decide +kernel
theorem dX3_count_102 : decode cX3_count 102 = .ok (.aload_n 0, 1) := by decide +kernel
theorem dX3_count_103 : decode cX3_count 103 = .ok (.getfield 33, 3) := by decide +kernel
theorem dX3_count_106 : decode cX3_count 106 = .ok (.invokevirtual 214, 3) := by decide +kernel
theorem dX3_count_109 : decode cX3_count 109 = .ok (.ireturn, 1) := by decide +kernel
theorem dX3_count_110 : decode cX3_count 110 = .ok (.aload_n 0, 1) := by decide +kernel
theorem dX3_count_111 : decode cX3_count 111 = .ok (.getfield 33, 3) := by decide +kernel
theorem dX3_count_114 : decode cX3_count 114 = .ok (.getfield 211, 3) := by decide +kernel
theorem dX3_count_117 : decode cX3_count 117 = .ok (.ireturn, 1) := by decide +kernel
theorem dX3_count_118 : decode cX3_count 118 = .ok (.aload_n 0, 1) := by decide +kernel
theorem dX3_count_119 : decode cX3_count 119 = .ok (.getfield 33, 3) := by decide +kernel
theorem dX3_count_122 : decode cX3_count 122 = .ok (.getfield 217, 3) := by decide +kernel
theorem dX3_count_125 : decode cX3_count 125 = .ok (.ireturn, 1) := by decide +kernel
theorem dX3_count_126 : decode cX3_count 126 = .ok (.aload_n 0, 1) := by decide +kernel
theorem dX3_count_127 : decode cX3_count 127 = .ok (.getfield 33, 3) := by decide +kernel
theorem dX3_count_130 : decode cX3_count 130 = .ok (.getfield 99, 3) := by decide +kernel
theorem dX3_count_133 : decode cX3_count 133 = .ok (.iconst 1, 1) := by decide +kernel
theorem dX3_count_134 : decode cX3_count 134 = .ok (.iadd, 1) := by decide +kernel
theorem dX3_count_135 : decode cX3_count 135 = .ok (.ireturn, 1) := by decide +kernel
theorem dX3_count_136 : decode cX3_count 136 = .ok (.aload_n 0, 1) := by decide +kernel
theorem dX3_count_137 : decode cX3_count 137 = .ok (.getfield 46, 3) := by decide +kernel
theorem dX3_count_140 : decode cX3_count 140 = .ok (.getfield 87, 3) := by decide +kernel
theorem dX3_count_143 : decode cX3_count 143 = .ok (.ireturn, 1) := by decide +kernel
theorem dX3_count_144 : decode cX3_count 144 = .ok (.aload_n 0, 1) := by decide +kernel
theorem dX3_count_145 : decode cX3_count 145 = .ok (.getfield 13, 3) := by decide +kernel
theorem dX3_count_148 : decode cX3_count 148 = .ok (.ireturn, 1) := by decide +kernel
theorem dX3_count_149 : decode cX3_count 149 = .ok (.aload_n 0, 1) := by decide +kernel
theorem dX3_count_150 : decode cX3_count 150 = .ok (.getfield 24, 3) := by decide +kernel
theorem dX3_count_153 : decode cX3_count 153 = .ok (.ireturn, 1) := by decide +kernel
theorem dX3_count_154 : decode cX3_count 154 = .ok (.aload_n 0, 1) := by decide +kernel
theorem dX3_count_155 : decode cX3_count 155 = .ok (.getfield 27, 3) := by decide +kernel
theorem dX3_count_158 : decode cX3_count 158 = .ok (.ireturn, 1) := by decide +kernel
theorem dX3_count_159 : decode cX3_count 159 = .ok (.bipush (-102), 2) := by decide +kernel
theorem dX3_count_161 : decode cX3_count 161 = .ok (.ireturn, 1) := by decide +kernel
theorem dX3_digest_0 : decode cX3_digest 0 = .ok (.ldc2_w 220, 3) := by decide +kernel
theorem dX3_digest_3 : decode cX3_digest 3 = .ok (.lstore_n 1, 1) := by decide +kernel
theorem dX3_digest_4 : decode cX3_digest 4 = .ok (.aload_n 0, 1) := by decide +kernel
theorem dX3_digest_5 : decode cX3_digest 5 = .ok (.getfield 17, 3) := by decide +kernel
theorem dX3_digest_8 : decode cX3_digest 8 = .ok (.ifCond .eq 50, 3) := by decide +kernel
theorem dX3_digest_11 : decode cX3_digest 11 = .ok (.iconst 0, 1) := by decide +kernel
theorem dX3_digest_12 : decode cX3_digest 12 = .ok (.istore_n 3, 1) := by decide +kernel
theorem dX3_digest_13 : decode cX3_digest 13 = .ok (.iload_n 3, 1) := by decide +kernel
theorem dX3_digest_14 : decode cX3_digest 14 = .ok (.bipush 12, 2) := by decide +kernel
theorem dX3_digest_16 : decode cX3_digest 16 = .ok (.if_icmp .ge 42, 3) := by decide +kernel
theorem dX3_digest_19 : decode cX3_digest 19 = .ok (.ldc2_w 222, 3) := by decide +kernel
theorem dX3_digest_22 : decode cX3_digest 22 = .ok (.lload_n 1, 1) := by decide +kernel
theorem dX3_digest_23 : decode cX3_digest 23 = .ok (.lmul, 1) := by decide +kernel
theorem dX3_digest_24 : decode cX3_digest 24 = .ok (.aload_n 0, 1) := by decide +kernel
theorem dX3_digest_25 : decode cX3_digest 25 = .ok (.getfield 33, 3) := by decide +kernel
theorem dX3_digest_28 : decode cX3_digest 28 = .ok (.getfield 80, 3) := by decide +kernel
theorem dX3_digest_31 : decode cX3_digest 31 = .ok (.iload_n 3, 1) := by decide +kernel
theorem dX3_digest_32 : decode cX3_digest 32 = .ok (.iaload, 1) := by decide +kernel
theorem dX3_digest_33 : decode cX3_digest 33 = .ok (.i2l, 1) := by decide +kernel
theorem dX3_digest_34 : decode cX3_digest 34 = .ok (.ladd, 1) := by decide +kernel
theorem dX3_digest_35 : decode cX3_digest 35 = .ok (.lstore_n 1, 1) := by decide +kernel
theorem dX3_digest_36 : decode cX3_digest 36 = .ok (.ldc2_w 222, 3) := by decide +kernel
theorem dX3_digest_39 : decode cX3_digest 39 = .ok (.lload_n 1, 1) := by decide +kernel
theorem dX3_digest_40 : decode cX3_digest 40 = .ok (.lmul, 1) := by decide +kernel
theorem dX3_digest_41 : decode cX3_digest 41 = .ok (.aload_n 0, 1) := by decide +kernel
theorem dX3_digest_42 : decode cX3_digest 42 = .ok (.getfield 33, 3) := by decide +kernel
theorem dX3_digest_45 : decode cX3_digest 45 = .ok (.iload_n 3, 1) := by decide +kernel
theorem dX3_digest_46 : decode cX3_digest 46 = .ok (.invokevirtual 96, 3) := by decide +kernel
theorem dX3_digest_49 : decode cX3_digest 49 = .ok (.i2l, 1) := by decide +kernel
theorem dX3_digest_50 : decode cX3_digest 50 = .ok (.ladd, 1) := by decide +kernel
theorem dX3_digest_51 : decode cX3_digest 51 = .ok (.lstore_n 1, 1) := by decide +kernel
theorem dX3_digest_52 : decode cX3_digest 52 = .ok (.iinc 3 1, 3) := by decide +kernel
theorem dX3_digest_55 : decode cX3_digest 55 = .ok (.goto (-42), 3) := by decide +kernel
theorem dX3_digest_58 : decode cX3_digest 58 = .ok (.aload_n 0, 1) := by decide +kernel
theorem dX3_digest_59 : decode cX3_digest 59 = .ok (.bipush 60, 2) := by decide +kernel
theorem dX3_digest_61 : decode cX3_digest 61 = .ok (.invokevirtual 177, 3) := by decide +kernel
theorem dX3_digest_64 : decode cX3_digest 64 = .ok (.aload_n 0, 1) := by decide +kernel
theorem dX3_digest_65 : decode cX3_digest 65 = .ok (.lload_n 1, 1) := by decide +kernel
theorem dX3_digest_66 : decode cX3_digest 66 = .ok (.invokevirtual 224, 3) := by decide +kernel
theorem dX3_digest_69 : decode cX3_digest 69 = .ok (.lstore_n 1, 1) := by decide +kernel
theorem dX3_digest_70 : decode cX3_digest 70 = .ok (.aload_n 0, 1) := by decide +kernel
theorem dX3_digest_71 : decode cX3_digest 71 = .ok (.getfield 17, 3) := by decide +kernel
theorem dX3_digest_74 : decode cX3_digest 74 = .ok (.ifCond .eq 24, 3) := by decide +kernel
theorem dX3_digest_77 : decode cX3_digest 77 = .ok (.aload_n 0, 1) := by decide +kernel
theorem dX3_digest_78 : decode cX3_digest 78 = .ok (.getfield 59, 3) := by decide +kernel
theorem dX3_digest_81 : decode cX3_digest 81 = .ok (.aload_n 0, 1) := by decide +kernel
theorem dX3_digest_82 : decode cX3_digest 82 = .ok (.getfield 33, 3) := by decide +kernel
theorem dX3_digest_85 : decode cX3_digest 85 = .ok (.aload_n 0, 1) := by decide +kernel
theorem dX3_digest_86 : decode cX3_digest 86 = .ok (.getfield 53, 3) := by decide +kernel
theorem dX3_digest_89 : decode cX3_digest 89 = .ok (.invokevirtual 181, 3) := by decide +kernel
theorem dX3_digest_92 : decode cX3_digest 92 = .ok (.aload_n 0, 1) := by decide +kernel
theorem dX3_digest_93 : decode cX3_digest 93 = .ok (.lload_n 1, 1) := by decide +kernel
theorem dX3_digest_94 : decode cX3_digest 94 = .ok (.invokevirtual 228, 3) := by decide +kernel
theorem dX3_digest_97 : decode cX3_digest 97 = .ok (.lstore_n 1, 1) := by decide +kernel
theorem dX3_digest_98 : decode cX3_digest 98 = .ok (.iconst 0, 1) := by decide +kernel
theorem dX3_digest_99 : decode cX3_digest 99 = .ok (.istore_n 3, 1) := by decide +kernel
theorem dX3_digest_100 : decode cX3_digest 100 = .ok (.iload_n 3, 1) := by decide +kernel
theorem dX3_digest_101 : decode cX3_digest 101 = .ok (.aload_n 0, 1) := by decide +kernel
theorem dX3_digest_102 : decode cX3_digest 102 = .ok (.getfield 13, 3) := by decide +kernel
theorem dX3_digest_105 : decode cX3_digest 105 = .ok (.if_icmp .ge 23, 3) := by decide +kernel
theorem dX3_digest_108 : decode cX3_digest 108 = .ok (.ldc2_w 222, 3) := by decide +kernel
theorem dX3_digest_111 : decode cX3_digest 111 = .ok (.lload_n 1, 1) := by decide +kernel
theorem dX3_digest_112 : decode cX3_digest 112 = .ok (.lmul, 1) := by decide +kernel
theorem dX3_digest_113 : decode cX3_digest 113 = .ok (.aload_n 0, 1) := by decide +kernel
theorem dX3_digest_114 : decode cX3_digest 114 = .ok (.getfield 9, 3) := by decide +kernel
theorem dX3_digest_117 : decode cX3_digest 117 = .ok (.iload_n 3, 1) := by decide +kernel
theorem dX3_digest_118 : decode cX3_digest 118 = .ok (.iaload, 1) := by decide +kernel
theorem dX3_digest_119 : decode cX3_digest 119 = .ok (.i2l, 1) := by decide +kernel
theorem dX3_digest_120 : decode cX3_digest 120 = .ok (.ladd, 1) := by decide +kernel
theorem dX3_digest_121 : decode cX3_digest 121 = .ok (.lstore_n 1, 1) := by decide +kernel
theorem dX3_digest_122 : decode cX3_digest 122 = .ok (.iinc 3 1, 3) := by decide +kernel
theorem dX3_digest_125 : decode cX3_digest 125 = .ok (.goto (-25), 3) := by decide +kernel
theorem dX3_digest_128 : decode cX3_digest 128 = .ok (.iconst 0, 1) := by decide +kernel
theorem dX3_digest_129 : decode cX3_digest 129 = .ok (.istore_n 3, 1) := by decide +kernel
theorem dX3_digest_130 : decode cX3_digest 130 = .ok (.iload_n 3, 1) := by decide +kernel
theorem dX3_digest_131 : decode cX3_digest 131 = .ok (.bipush 12, 2) := by decide +kernel
theorem dX3_digest_133 : decode cX3_digest 133 = .ok (.if_icmp .ge 22, 3) := by decide +kernel
theorem dX3_digest_136 : decode cX3_digest 136 = .ok (.ldc2_w 222, 3) := by decide +kernel
theorem dX3_digest_139 : decode cX3_digest 139 = .ok (.lload_n 1, 1) := by decide +kernel
theorem dX3_digest_140 : decode cX3_digest 140 = .ok (.lmul, 1) := by decide +kernel
theorem dX3_digest_141 : decode cX3_digest 141 = .ok (.aload_n 0, 1) := by decide +kernel
theorem dX3_digest_142 : decode cX3_digest 142 = .ok (.iload_n 3, 1) := by decide +kernel
theorem dX3_digest_143 : decode cX3_digest 143 = .ok (.invokevirtual 231, 3) := by decide +kernel
theorem dX3_digest_146 : decode cX3_digest 146 = .ok (.i2l, 1) := by decide +kernel
theorem dX3_digest_147 : decode cX3_digest 147 = .ok (.ladd, 1) := by decide +kernel
theorem dX3_digest_148 : decode cX3_digest 148 = .ok (.lstore_n 1, 1) := by decide +kernel
theorem dX3_digest_149 : decode cX3_digest 149 = .ok (.iinc 3 1, 3) := by decide +kernel
theorem dX3_digest_152 : decode cX3_digest 152 = .ok (.goto (-22), 3) := by decide +kernel
theorem dX3_digest_155 : decode cX3_digest 155 = .ok (.lload_n 1, 1) := by decide +kernel
theorem dX3_digest_156 : decode cX3_digest 156 = .ok (.lreturn, 1) := by decide +kernel
theorem dX3_isSign_0 : decode cX3_isSign 0 = .ok (.iload_n 0, 1) := by decide +kernel
theorem dX3_isSign_1 : decode cX3_isSign 1 = .ok (.bipush 62, 2) := by decide +kernel
theorem dX3_isSign_3 : decode cX3_isSign 3 = .ok (.if_icmp .eq 15, 3) := by decide +kernel
theorem dX3_isSign_6 : decode cX3_isSign 6 = .ok (.iload_n 0, 1) := by decide +kernel
theorem dX3_isSign_7 : decode cX3_isSign 7 = .ok (.bipush 60, 2) := by decide +kernel
theorem dX3_isSign_9 : decode cX3_isSign 9 = .ok (.if_icmp .eq 9, 3) := by decide +kernel
theorem dX3_isSign_12 : decode cX3_isSign 12 = .ok (.iload_n 0, 1) := by decide +kernel
theorem dX3_isSign_13 : decode cX3_isSign 13 = .ok (.bipush 46, 2) := by decide +kernel
theorem dX3_isSign_15 : decode cX3_isSign 15 = .ok (.if_icmp .ne 7, 3) := by decide +kernel
theorem dX3_isSign_18 : decode cX3_isSign 18 = .ok (.iconst 1, 1) := by decide +kernel
theorem dX3_isSign_19 : decode cX3_isSign 19 = .ok (.goto 4, 3) := by decide +kernel
theorem dX3_isSign_22 : decode cX3_isSign 22 = .ok (.iconst 0, 1) := by decide +kernel
theorem dX3_isSign_23 : decode cX3_isSign 23 = .ok (.ireturn, 1) := by decide +kernel
theorem dX3_currentOf_0 : decode cX3_currentOf 0 = .ok (.iload_n 0, 1) := by decide +kernel
theorem dX3_currentOf_1 : decode cX3_currentOf 1 = .ok (.bipush 62, 2) := by decide +kernel
theorem dX3_currentOf_3 : decode cX3_currentOf 3 = .ok (.if_icmp .ne 5, 3) := by decide +kernel
theorem dX3_currentOf_6 : decode cX3_currentOf 6 = .ok (.iconst 1, 1) := by decide +kernel
theorem dX3_currentOf_7 : decode cX3_currentOf 7 = .ok (.ireturn, 1) := by decide +kernel
theorem dX3_currentOf_8 : decode cX3_currentOf 8 = .ok (.iload_n 0, 1) := by decide +kernel
theorem dX3_currentOf_9 : decode cX3_currentOf 9 = .ok (.bipush 60, 2) := by decide +kernel
theorem dX3_currentOf_11 : decode cX3_currentOf 11 = .ok (.if_icmp .ne 7, 3) := by decide +kernel
theorem dX3_currentOf_14 : decode cX3_currentOf 14 = .ok (.iconst (-1), 1) := by decide +kernel
theorem dX3_currentOf_15 : decode cX3_currentOf 15 = .ok (.goto 4, 3) := by decide +kernel
theorem dX3_currentOf_18 : decode cX3_currentOf 18 = .ok (.iconst 0, 1) := by decide +kernel
theorem dX3_currentOf_19 : decode cX3_currentOf 19 = .ok (.ireturn, 1) := by decide +kernel
theorem dX3_nextSeed_0 : decode cX3_nextSeed 0 = .ok (.ldc2_w 234, 3) := by decide +kernel
theorem dX3_nextSeed_3 : decode cX3_nextSeed 3 = .ok (.iload_n 0, 1) := by decide +kernel
theorem dX3_nextSeed_4 : decode cX3_nextSeed 4 = .ok (.i2l, 1) := by decide +kernel
theorem dX3_nextSeed_5 : decode cX3_nextSeed 5 = .ok (.lmul, 1) := by decide +kernel
theorem dX3_nextSeed_6 : decode cX3_nextSeed 6 = .ok (.ldc2_w 236, 3) := by decide +kernel
theorem dX3_nextSeed_9 : decode cX3_nextSeed 9 = .ok (.ladd, 1) := by decide +kernel
theorem dX3_nextSeed_10 : decode cX3_nextSeed 10 = .ok (.ldc2_w 238, 3) := by decide +kernel
theorem dX3_nextSeed_13 : decode cX3_nextSeed 13 = .ok (.land, 1) := by decide +kernel
theorem dX3_nextSeed_14 : decode cX3_nextSeed 14 = .ok (.l2i, 1) := by decide +kernel
theorem dX3_nextSeed_15 : decode cX3_nextSeed 15 = .ok (.ireturn, 1) := by decide +kernel
theorem dX3_isKind_0 : decode cX3_isKind 0 = .ok (.iload_n 0, 1) := by decide +kernel
theorem dX3_isKind_1 : decode cX3_isKind 1 = .ok (.ifCond .lt 12, 3) := by decide +kernel
theorem dX3_isKind_4 : decode cX3_isKind 4 = .ok (.iload_n 0, 1) := by decide +kernel
theorem dX3_isKind_5 : decode cX3_isKind 5 = .ok (.iconst 5, 1) := by decide +kernel
theorem dX3_isKind_6 : decode cX3_isKind 6 = .ok (.if_icmp .ge 7, 3) := by decide +kernel
theorem dX3_isKind_9 : decode cX3_isKind 9 = .ok (.iconst 1, 1) := by decide +kernel
theorem dX3_isKind_10 : decode cX3_isKind 10 = .ok (.goto 4, 3) := by decide +kernel
theorem dX3_isKind_13 : decode cX3_isKind 13 = .ok (.iconst 0, 1) := by decide +kernel
theorem dX3_isKind_14 : decode cX3_isKind 14 = .ok (.ireturn, 1) := by decide +kernel
theorem dX3_isPlace_0 : decode cX3_isPlace 0 = .ok (.aload_n 0, 1) := by decide +kernel
theorem dX3_isPlace_1 : decode cX3_isPlace 1 = .ok (.getfield 17, 3) := by decide +kernel
theorem dX3_isPlace_4 : decode cX3_isPlace 4 = .ok (.ifCond .eq 17, 3) := by decide +kernel
theorem dX3_isPlace_7 : decode cX3_isPlace 7 = .ok (.iload_n 1, 1) := by decide +kernel
theorem dX3_isPlace_8 : decode cX3_isPlace 8 = .ok (.ifCond .lt 13, 3) := by decide +kernel
theorem dX3_isPlace_11 : decode cX3_isPlace 11 = .ok (.iload_n 1, 1) := by decide +kernel
theorem dX3_isPlace_12 : decode cX3_isPlace 12 = .ok (.bipush 12, 2) := by decide +kernel
theorem dX3_isPlace_14 : decode cX3_isPlace 14 = .ok (.if_icmp .ge 7, 3) := by decide +kernel
theorem dX3_isPlace_17 : decode cX3_isPlace 17 = .ok (.iconst 1, 1) := by decide +kernel
theorem dX3_isPlace_18 : decode cX3_isPlace 18 = .ok (.goto 4, 3) := by decide +kernel
theorem dX3_isPlace_21 : decode cX3_isPlace 21 = .ok (.iconst 0, 1) := by decide +kernel
theorem dX3_isPlace_22 : decode cX3_isPlace 22 = .ok (.ireturn, 1) := by decide +kernel
theorem dX3_isIsland_0 : decode cX3_isIsland 0 = .ok (.iload_n 1, 1) := by decide +kernel
theorem dX3_isIsland_1 : decode cX3_isIsland 1 = .ok (.ifCond .lt 18, 3) := by decide +kernel
theorem dX3_isIsland_4 : decode cX3_isIsland 4 = .ok (.iload_n 1, 1) := by decide +kernel
theorem dX3_isIsland_5 : decode cX3_isIsland 5 = .ok (.aload_n 0, 1) := by decide +kernel
theorem dX3_isIsland_6 : decode cX3_isIsland 6 = .ok (.getfield 33, 3) := by decide +kernel
theorem dX3_isIsland_9 : decode cX3_isIsland 9 = .ok (.getfield 105, 3) := by decide +kernel
theorem dX3_isIsland_12 : decode cX3_isIsland 12 = .ok (.if_icmp .ge 7, 3) := by decide +kernel
theorem dX3_isIsland_15 : decode cX3_isIsland 15 = .ok (.iconst 1, 1) := by decide +kernel
theorem dX3_isIsland_16 : decode cX3_isIsland 16 = .ok (.goto 4, 3) := by decide +kernel
theorem dX3_isIsland_19 : decode cX3_isIsland 19 = .ok (.iconst 0, 1) := by decide +kernel
theorem dX3_isIsland_20 : decode cX3_isIsland 20 = .ok (.ireturn, 1) := by decide +kernel
theorem dX3_areTwo_0 : decode cX3_areTwo 0 = .ok (.aload_n 0, 1) := by decide +kernel
theorem dX3_areTwo_1 : decode cX3_areTwo 1 = .ok (.iload_n 1, 1) := by decide +kernel
theorem dX3_areTwo_2 : decode cX3_areTwo 2 = .ok (.invokevirtual 112, 3) := by decide +kernel
theorem dX3_areTwo_5 : decode cX3_areTwo 5 = .ok (.ifCond .eq 20, 3) := by decide +kernel
theorem dX3_areTwo_8 : decode cX3_areTwo 8 = .ok (.aload_n 0, 1) := by decide +kernel
theorem dX3_areTwo_9 : decode cX3_areTwo 9 = .ok (.iload_n 2, 1) := by decide +kernel
theorem dX3_areTwo_10 : decode cX3_areTwo 10 = .ok (.invokevirtual 112, 3) := by decide +kernel
theorem dX3_areTwo_13 : decode cX3_areTwo 13 = .ok (.ifCond .eq 12, 3) := by decide +kernel
theorem dX3_areTwo_16 : decode cX3_areTwo 16 = .ok (.iload_n 1, 1) := by decide +kernel
theorem dX3_areTwo_17 : decode cX3_areTwo 17 = .ok (.iload_n 2, 1) := by decide +kernel
theorem dX3_areTwo_18 : decode cX3_areTwo 18 = .ok (.if_icmp .eq 7, 3) := by decide +kernel
theorem dX3_areTwo_21 : decode cX3_areTwo 21 = .ok (.iconst 1, 1) := by decide +kernel
theorem dX3_areTwo_22 : decode cX3_areTwo 22 = .ok (.goto 4, 3) := by decide +kernel
theorem dX3_areTwo_25 : decode cX3_areTwo 25 = .ok (.iconst 0, 1) := by decide +kernel
theorem dX3_areTwo_26 : decode cX3_areTwo 26 = .ok (.ireturn, 1) := by decide +kernel
theorem dX3_firstMeeting_0 : decode cX3_firstMeeting 0 = .ok (.aload_n 0, 1) := by decide +kernel
theorem dX3_firstMeeting_1 : decode cX3_firstMeeting 1 = .ok (.getfield 40, 3) := by decide +kernel
theorem dX3_firstMeeting_4 : decode cX3_firstMeeting 4 = .ok (.aload_n 0, 1) := by decide +kernel
theorem dX3_firstMeeting_5 : decode cX3_firstMeeting 5 = .ok (.getfield 33, 3) := by decide +kernel
theorem dX3_firstMeeting_8 : decode cX3_firstMeeting 8 = .ok (.invokevirtual 198, 3) := by decide +kernel
theorem dX3_firstMeeting_11 : decode cX3_firstMeeting 11 = .ok (.aload_n 0, 1) := by decide +kernel
theorem dX3_firstMeeting_12 : decode cX3_firstMeeting 12 = .ok (.getfield 40, 3) := by decide +kernel
theorem dX3_firstMeeting_15 : decode cX3_firstMeeting 15 = .ok (.dup, 1) := by decide +kernel
theorem dX3_firstMeeting_16 : decode cX3_firstMeeting 16 = .ok (.getfield 139, 3) := by decide +kernel
theorem dX3_firstMeeting_19 : decode cX3_firstMeeting 19 = .ok (.iload 4, 2) := by decide +kernel
theorem dX3_firstMeeting_21 : decode cX3_firstMeeting 21 = .ok (.ior, 1) := by decide +kernel
theorem dX3_firstMeeting_22 : decode cX3_firstMeeting 22 = .ok (.putfield 139, 3) := by decide +kernel
theorem dX3_firstMeeting_25 : decode cX3_firstMeeting 25 = .ok (.iconst 0, 1) := by decide +kernel
theorem dX3_firstMeeting_26 : decode cX3_firstMeeting 26 = .ok (.istore 5, 2) := by decide +kernel
theorem dX3_firstMeeting_28 : decode cX3_firstMeeting 28 = .ok (.iload 5, 2) := by decide +kernel
theorem dX3_firstMeeting_30 : decode cX3_firstMeeting 30 = .ok (.iload_n 3, 1) := by decide +kernel
theorem dX3_firstMeeting_31 : decode cX3_firstMeeting 31 = .ok (.if_icmp .ge 32, 3) := by decide +kernel
theorem dX3_firstMeeting_34 : decode cX3_firstMeeting 34 = .ok (.aload_n 0, 1) := by decide +kernel
theorem dX3_firstMeeting_35 : decode cX3_firstMeeting 35 = .ok (.getfield 40, 3) := by decide +kernel
theorem dX3_firstMeeting_38 : decode cX3_firstMeeting 38 = .ok (.iload_n 1, 1) := by decide +kernel
theorem dX3_firstMeeting_39 : decode cX3_firstMeeting 39 = .ok (.iload_n 2, 1) := by decide +kernel
theorem dX3_firstMeeting_40 : decode cX3_firstMeeting 40 = .ok (.invokevirtual 149, 3) := by decide +kernel
theorem dX3_firstMeeting_43 : decode cX3_firstMeeting 43 = .ok (.ifCond .eq 6, 3) := by decide +kernel
theorem dX3_firstMeeting_46 : decode cX3_firstMeeting 46 = .ok (.iload 5, 2) := by decide +kernel
theorem dX3_firstMeeting_48 : decode cX3_firstMeeting 48 = .ok (.ireturn, 1) := by decide +kernel
theorem dX3_firstMeeting_49 : decode cX3_firstMeeting 49 = .ok (.aload_n 0, 1) := by decide +kernel
theorem dX3_firstMeeting_50 : decode cX3_firstMeeting 50 = .ok (.getfield 40, 3) := by decide +kernel
theorem dX3_firstMeeting_53 : decode cX3_firstMeeting 53 = .ok (.invokevirtual 162, 3) := by decide +kernel
theorem dX3_firstMeeting_56 : decode cX3_firstMeeting 56 = .ok (.pop, 1) := by decide +kernel
theorem dX3_firstMeeting_57 : decode cX3_firstMeeting 57 = .ok (.iinc 5 1, 3) := by decide +kernel
theorem dX3_firstMeeting_60 : decode cX3_firstMeeting 60 = .ok (.goto (-32), 3) := by decide +kernel
theorem dX3_firstMeeting_63 : decode cX3_firstMeeting 63 = .ok (.aload_n 0, 1) := by decide +kernel
theorem dX3_firstMeeting_64 : decode cX3_firstMeeting 64 = .ok (.getfield 40, 3) := by decide +kernel
theorem dX3_firstMeeting_67 : decode cX3_firstMeeting 67 = .ok (.iload_n 1, 1) := by decide +kernel
theorem dX3_firstMeeting_68 : decode cX3_firstMeeting 68 = .ok (.iload_n 2, 1) := by decide +kernel
theorem dX3_firstMeeting_69 : decode cX3_firstMeeting 69 = .ok (.invokevirtual 149, 3) := by decide +kernel
theorem dX3_firstMeeting_72 : decode cX3_firstMeeting 72 = .ok (.ifCond .eq 7, 3) := by decide +kernel
theorem dX3_firstMeeting_75 : decode cX3_firstMeeting 75 = .ok (.iload_n 3, 1) := by decide +kernel
theorem dX3_firstMeeting_76 : decode cX3_firstMeeting 76 = .ok (.goto 4, 3) := by decide +kernel
theorem dX3_firstMeeting_79 : decode cX3_firstMeeting 79 = .ok (.iconst (-1), 1) := by decide +kernel
theorem dX3_firstMeeting_80 : decode cX3_firstMeeting 80 = .ok (.ireturn, 1) := by decide +kernel
theorem dX3_fewestAnchors_0 : decode cX3_fewestAnchors 0 = .ok (.iconst 1, 1) := by decide +kernel
theorem dX3_fewestAnchors_1 : decode cX3_fewestAnchors 1 = .ok (.aload_n 0, 1) := by decide +kernel
theorem dX3_fewestAnchors_2 : decode cX3_fewestAnchors 2 = .ok (.getfield 33, 3) := by decide +kernel
theorem dX3_fewestAnchors_5 : decode cX3_fewestAnchors 5 = .ok (.getfield 105, 3) := by decide +kernel
theorem dX3_fewestAnchors_8 : decode cX3_fewestAnchors 8 = .ok (.ishl, 1) := by decide +kernel
theorem dX3_fewestAnchors_9 : decode cX3_fewestAnchors 9 = .ok (.istore 4, 2) := by decide +kernel
theorem dX3_fewestAnchors_11 : decode cX3_fewestAnchors 11 = .ok (.iconst 0, 1) := by decide +kernel
theorem dX3_fewestAnchors_12 : decode cX3_fewestAnchors 12 = .ok (.istore 5, 2) := by decide +kernel
theorem dX3_fewestAnchors_14 : decode cX3_fewestAnchors 14 = .ok (.iload 5, 2) := by decide +kernel
theorem dX3_fewestAnchors_16 : decode cX3_fewestAnchors 16 = .ok (.aload_n 0, 1) := by decide +kernel
theorem dX3_fewestAnchors_17 : decode cX3_fewestAnchors 17 = .ok (.getfield 33, 3) := by decide +kernel
theorem dX3_fewestAnchors_20 : decode cX3_fewestAnchors 20 = .ok (.getfield 105, 3) := by decide +kernel
theorem dX3_fewestAnchors_23 : decode cX3_fewestAnchors 23 = .ok (.if_icmp .gt 67, 3) := by decide +kernel
theorem dX3_fewestAnchors_26 : decode cX3_fewestAnchors 26 = .ok (.iconst 0, 1) := by decide +kernel
theorem dX3_fewestAnchors_27 : decode cX3_fewestAnchors 27 = .ok (.istore 6, 2) := by decide +kernel
theorem dX3_fewestAnchors_29 : decode cX3_fewestAnchors 29 = .ok (.iload 6, 2) := by decide +kernel
theorem dX3_fewestAnchors_31 : decode cX3_fewestAnchors 31 = .ok (.iload 4, 2) := by decide +kernel
theorem dX3_fewestAnchors_33 : decode cX3_fewestAnchors 33 = .ok (.if_icmp .ge 51, 3) := by decide +kernel
theorem dX3_fewestAnchors_36 : decode cX3_fewestAnchors 36 = .ok (.iload 6, 2) := by decide +kernel
theorem dX3_fewestAnchors_38 : decode cX3_fewestAnchors 38 = .ok (.invokestatic 172, 3) := by decide +kernel
theorem dX3_fewestAnchors_41 : decode cX3_fewestAnchors 41 = .ok (.iload 5, 2) := by decide +kernel
theorem dX3_fewestAnchors_43 : decode cX3_fewestAnchors 43 = .ok (.if_icmp .ne 35, 3) := by decide +kernel
theorem dX3_fewestAnchors_46 : decode cX3_fewestAnchors 46 = .ok (.iload 6, 2) := by decide +kernel
theorem dX3_fewestAnchors_48 : decode cX3_fewestAnchors 48 = .ok (.aload_n 0, 1) := by decide +kernel
theorem dX3_fewestAnchors_49 : decode cX3_fewestAnchors 49 = .ok (.getfield 33, 3) := by decide +kernel
theorem dX3_fewestAnchors_52 : decode cX3_fewestAnchors 52 = .ok (.getfield 139, 3) := by decide +kernel
theorem dX3_fewestAnchors_55 : decode cX3_fewestAnchors 55 = .ok (.iand, 1) := by decide +kernel
theorem dX3_fewestAnchors_56 : decode cX3_fewestAnchors 56 = .ok (.ifCond .eq 6, 3) := by decide +kernel
theorem dX3_fewestAnchors_59 : decode cX3_fewestAnchors 59 = .ok (.goto 19, 3) := by decide +kernel
theorem dX3_fewestAnchors_62 : decode cX3_fewestAnchors 62 = .ok (.aload_n 0, 1) := by decide +kernel
theorem dX3_fewestAnchors_63 : decode cX3_fewestAnchors 63 = .ok (.iload_n 1, 1) := by decide +kernel
theorem dX3_fewestAnchors_64 : decode cX3_fewestAnchors 64 = .ok (.iload_n 2, 1) := by decide +kernel
theorem dX3_fewestAnchors_65 : decode cX3_fewestAnchors 65 = .ok (.iload_n 3, 1) := by decide +kernel
theorem dX3_fewestAnchors_66 : decode cX3_fewestAnchors 66 = .ok (.iload 6, 2) := by decide +kernel
theorem dX3_fewestAnchors_68 : decode cX3_fewestAnchors 68 = .ok (.invokevirtual 165, 3) := by decide +kernel
theorem dX3_fewestAnchors_71 : decode cX3_fewestAnchors 71 = .ok (.iconst (-1), 1) := by decide +kernel
theorem dX3_fewestAnchors_72 : decode cX3_fewestAnchors 72 = .ok (.if_icmp .eq 6, 3) := by decide +kernel
theorem dX3_fewestAnchors_75 : decode cX3_fewestAnchors 75 = .ok (.iload 6, 2) := by decide +kernel
theorem dX3_fewestAnchors_77 : decode cX3_fewestAnchors 77 = .ok (.ireturn, 1) := by decide +kernel
theorem dX3_fewestAnchors_78 : decode cX3_fewestAnchors 78 = .ok (.iinc 6 1, 3) := by decide +kernel
theorem dX3_fewestAnchors_81 : decode cX3_fewestAnchors 81 = .ok (.goto (-52), 3) := by decide +kernel
theorem dX3_fewestAnchors_84 : decode cX3_fewestAnchors 84 = .ok (.iinc 5 1, 3) := by decide +kernel
theorem dX3_fewestAnchors_87 : decode cX3_fewestAnchors 87 = .ok (.goto (-73), 3) := by decide +kernel
theorem dX3_fewestAnchors_90 : decode cX3_fewestAnchors 90 = .ok (.iconst (-1), 1) := by decide +kernel
theorem dX3_fewestAnchors_91 : decode cX3_fewestAnchors 91 = .ok (.ireturn, 1) := by decide +kernel
theorem dX3_meetAll_0 : decode cX3_meetAll 0 = .ok (.aload_n 0, 1) := by decide +kernel
theorem dX3_meetAll_1 : decode cX3_meetAll 1 = .ok (.getfield 53, 3) := by decide +kernel
theorem dX3_meetAll_4 : decode cX3_meetAll 4 = .ok (.iconst (-1), 1) := by decide +kernel
theorem dX3_meetAll_5 : decode cX3_meetAll 5 = .ok (.invokestatic 240, 3) := by decide +kernel
theorem dX3_meetAll_8 : decode cX3_meetAll 8 = .ok (.aload_n 0, 1) := by decide +kernel
theorem dX3_meetAll_9 : decode cX3_meetAll 9 = .ok (.getfield 40, 3) := by decide +kernel
theorem dX3_meetAll_12 : decode cX3_meetAll 12 = .ok (.aload_n 0, 1) := by decide +kernel
theorem dX3_meetAll_13 : decode cX3_meetAll 13 = .ok (.getfield 33, 3) := by decide +kernel
theorem dX3_meetAll_16 : decode cX3_meetAll 16 = .ok (.invokevirtual 198, 3) := by decide +kernel
theorem dX3_meetAll_19 : decode cX3_meetAll 19 = .ok (.aload_n 0, 1) := by decide +kernel
theorem dX3_meetAll_20 : decode cX3_meetAll 20 = .ok (.getfield 40, 3) := by decide +kernel
theorem dX3_meetAll_23 : decode cX3_meetAll 23 = .ok (.aload_n 0, 1) := by decide +kernel
theorem dX3_meetAll_24 : decode cX3_meetAll 24 = .ok (.getfield 53, 3) := by decide +kernel
theorem dX3_meetAll_27 : decode cX3_meetAll 27 = .ok (.iconst 0, 1) := by decide +kernel
theorem dX3_meetAll_28 : decode cX3_meetAll 28 = .ok (.invokevirtual 246, 3) := by decide +kernel
theorem dX3_meetAll_31 : decode cX3_meetAll 31 = .ok (.iconst 1, 1) := by decide +kernel
theorem dX3_meetAll_32 : decode cX3_meetAll 32 = .ok (.istore_n 2, 1) := by decide +kernel
theorem dX3_meetAll_33 : decode cX3_meetAll 33 = .ok (.iload_n 2, 1) := by decide +kernel
theorem dX3_meetAll_34 : decode cX3_meetAll 34 = .ok (.iload_n 1, 1) := by decide +kernel
theorem dX3_meetAll_35 : decode cX3_meetAll 35 = .ok (.if_icmp .gt 29, 3) := by decide +kernel
theorem dX3_meetAll_38 : decode cX3_meetAll 38 = .ok (.aload_n 0, 1) := by decide +kernel
theorem dX3_meetAll_39 : decode cX3_meetAll 39 = .ok (.getfield 40, 3) := by decide +kernel
theorem dX3_meetAll_42 : decode cX3_meetAll 42 = .ok (.invokevirtual 162, 3) := by decide +kernel
theorem dX3_meetAll_45 : decode cX3_meetAll 45 = .ok (.pop, 1) := by decide +kernel
theorem dX3_meetAll_46 : decode cX3_meetAll 46 = .ok (.aload_n 0, 1) := by decide +kernel
theorem dX3_meetAll_47 : decode cX3_meetAll 47 = .ok (.getfield 40, 3) := by decide +kernel
theorem dX3_meetAll_50 : decode cX3_meetAll 50 = .ok (.aload_n 0, 1) := by decide +kernel
theorem dX3_meetAll_51 : decode cX3_meetAll 51 = .ok (.getfield 53, 3) := by decide +kernel
theorem dX3_meetAll_54 : decode cX3_meetAll 54 = .ok (.iload_n 2, 1) := by decide +kernel
theorem dX3_meetAll_55 : decode cX3_meetAll 55 = .ok (.invokevirtual 246, 3) := by decide +kernel
theorem dX3_meetAll_58 : decode cX3_meetAll 58 = .ok (.iinc 2 1, 3) := by decide +kernel
theorem dX3_meetAll_61 : decode cX3_meetAll 61 = .ok (.goto (-28), 3) := by decide +kernel
theorem dX3_meetAll_64 : decode cX3_meetAll 64 = .ok (.return_, 1) := by decide +kernel
theorem dX3_matchesTell_0 : decode cX3_matchesTell 0 = .ok (.iload_n 1, 1) := by decide +kernel
theorem dX3_matchesTell_1 : decode cX3_matchesTell 1 = .ok (.ifCond .ne 11, 3) := by decide +kernel
theorem dX3_matchesTell_4 : decode cX3_matchesTell 4 = .ok (.aload_n 0, 1) := by decide +kernel
theorem dX3_matchesTell_5 : decode cX3_matchesTell 5 = .ok (.getfield 59, 3) := by decide +kernel
theorem dX3_matchesTell_8 : decode cX3_matchesTell 8 = .ok (.getfield 249, 3) := by decide +kernel
theorem dX3_matchesTell_11 : decode cX3_matchesTell 11 = .ok (.ireturn, 1) := by decide +kernel
theorem dX3_matchesTell_12 : decode cX3_matchesTell 12 = .ok (.iload_n 1, 1) := by decide +kernel
theorem dX3_matchesTell_13 : decode cX3_matchesTell 13 = .ok (.iconst 1, 1) := by decide +kernel
theorem dX3_matchesTell_14 : decode cX3_matchesTell 14 = .ok (.if_icmp .ne 15, 3) := by decide +kernel
theorem dX3_matchesTell_17 : decode cX3_matchesTell 17 = .ok (.aload_n 0, 1) := by decide +kernel
theorem dX3_matchesTell_18 : decode cX3_matchesTell 18 = .ok (.getfield 59, 3) := by decide +kernel
theorem dX3_matchesTell_21 : decode cX3_matchesTell 21 = .ok (.getfield 252, 3) := by decide +kernel
theorem dX3_matchesTell_24 : decode cX3_matchesTell 24 = .ok (.iconst 0, 1) := by decide +kernel
theorem dX3_matchesTell_25 : decode cX3_matchesTell 25 = .ok (.invokestatic 255, 3) := by decide +kernel
theorem dX3_matchesTell_28 : decode cX3_matchesTell 28 = .ok (.ireturn, 1) := by decide +kernel
theorem dX3_matchesTell_29 : decode cX3_matchesTell 29 = .ok (.iload_n 1, 1) := by decide +kernel
theorem dX3_matchesTell_30 : decode cX3_matchesTell 30 = .ok (.bipush 10, 2) := by decide +kernel
theorem dX3_matchesTell_32 : decode cX3_matchesTell 32 = .ok (.isub, 1) := by decide +kernel
theorem dX3_matchesTell_33 : decode cX3_matchesTell 33 = .ok (.istore_n 2, 1) := by decide +kernel
theorem dX3_matchesTell_34 : decode cX3_matchesTell 34 = .ok (.aload_n 0, 1) := by decide +kernel
theorem dX3_matchesTell_35 : decode cX3_matchesTell 35 = .ok (.iload_n 2, 1) := by decide +kernel
theorem dX3_matchesTell_36 : decode cX3_matchesTell 36 = .ok (.invokevirtual 112, 3) := by decide +kernel
theorem dX3_matchesTell_39 : decode cX3_matchesTell 39 = .ok (.ifCond .eq 15, 3) := by decide +kernel
theorem dX3_matchesTell_42 : decode cX3_matchesTell 42 = .ok (.aload_n 0, 1) := by decide +kernel
theorem dX3_matchesTell_43 : decode cX3_matchesTell 43 = .ok (.getfield 59, 3) := by decide +kernel
theorem dX3_matchesTell_46 : decode cX3_matchesTell 46 = .ok (.getfield 258, 3) := by decide +kernel
theorem dX3_matchesTell_49 : decode cX3_matchesTell 49 = .ok (.iload_n 2, 1) := by decide +kernel
theorem dX3_matchesTell_50 : decode cX3_matchesTell 50 = .ok (.iaload, 1) := by decide +kernel
theorem dX3_matchesTell_51 : decode cX3_matchesTell 51 = .ok (.goto 4, 3) := by decide +kernel
theorem dX3_matchesTell_54 : decode cX3_matchesTell 54 = .ok (.iconst (-1), 1) := by decide +kernel
theorem dX3_matchesTell_55 : decode cX3_matchesTell 55 = .ok (.ireturn, 1) := by decide +kernel
theorem dX3_shellsWouldHold_0 : decode cX3_shellsWouldHold 0 = .ok (.aload_n 0, 1) := by decide +kernel
theorem dX3_shellsWouldHold_1 : decode cX3_shellsWouldHold 1 = .ok (.getfield 40, 3) := by decide +kernel
theorem dX3_shellsWouldHold_4 : decode cX3_shellsWouldHold 4 = .ok (.aload_n 0, 1) := by decide +kernel
theorem dX3_shellsWouldHold_5 : decode cX3_shellsWouldHold 5 = .ok (.getfield 33, 3) := by decide +kernel
theorem dX3_shellsWouldHold_8 : decode cX3_shellsWouldHold 8 = .ok (.invokevirtual 198, 3) := by decide +kernel
theorem dX3_shellsWouldHold_11 : decode cX3_shellsWouldHold 11 = .ok (.aload_n 0, 1) := by decide +kernel
theorem dX3_shellsWouldHold_12 : decode cX3_shellsWouldHold 12 = .ok (.getfield 40, 3) := by decide +kernel
theorem dX3_shellsWouldHold_15 : decode cX3_shellsWouldHold 15 = .ok (.getfield 121, 3) := by decide +kernel
theorem dX3_shellsWouldHold_18 : decode cX3_shellsWouldHold 18 = .ok (.iload_n 1, 1) := by decide +kernel
theorem dX3_shellsWouldHold_19 : decode cX3_shellsWouldHold 19 = .ok (.iload_n 2, 1) := by decide +kernel
theorem dX3_shellsWouldHold_20 : decode cX3_shellsWouldHold 20 = .ok (.iastore, 1) := by decide +kernel
theorem dX3_shellsWouldHold_21 : decode cX3_shellsWouldHold 21 = .ok (.aload_n 0, 1) := by decide +kernel
theorem dX3_shellsWouldHold_22 : decode cX3_shellsWouldHold 22 = .ok (.getfield 40, 3) := by decide +kernel
theorem dX3_shellsWouldHold_25 : decode cX3_shellsWouldHold 25 = .ok (.iload_n 3, 1) := by decide +kernel
theorem dX3_shellsWouldHold_26 : decode cX3_shellsWouldHold 26 = .ok (.putfield 99, 3) := by decide +kernel
theorem dX3_shellsWouldHold_29 : decode cX3_shellsWouldHold 29 = .ok (.aload_n 0, 1) := by decide +kernel
theorem dX3_shellsWouldHold_30 : decode cX3_shellsWouldHold 30 = .ok (.getfield 46, 3) := by decide +kernel
theorem dX3_shellsWouldHold_33 : decode cX3_shellsWouldHold 33 = .ok (.invokevirtual 261, 3) := by decide +kernel
theorem dX3_shellsWouldHold_36 : decode cX3_shellsWouldHold 36 = .ok (.istore 4, 2) := by decide +kernel
theorem dX3_shellsWouldHold_38 : decode cX3_shellsWouldHold 38 = .ok (.iconst 0, 1) := by decide +kernel
theorem dX3_shellsWouldHold_39 : decode cX3_shellsWouldHold 39 = .ok (.istore 5, 2) := by decide +kernel
theorem dX3_shellsWouldHold_41 : decode cX3_shellsWouldHold 41 = .ok (.iload 5, 2) := by decide +kernel
theorem dX3_shellsWouldHold_43 : decode cX3_shellsWouldHold 43 = .ok (.iload 4, 2) := by decide +kernel
theorem dX3_shellsWouldHold_45 : decode cX3_shellsWouldHold 45 = .ok (.if_icmp .gt 35, 3) := by decide +kernel
theorem dX3_shellsWouldHold_48 : decode cX3_shellsWouldHold 48 = .ok (.aload_n 0, 1) := by decide +kernel
theorem dX3_shellsWouldHold_49 : decode cX3_shellsWouldHold 49 = .ok (.getfield 46, 3) := by decide +kernel
theorem dX3_shellsWouldHold_52 : decode cX3_shellsWouldHold 52 = .ok (.iload 5, 2) := by decide +kernel
theorem dX3_shellsWouldHold_54 : decode cX3_shellsWouldHold 54 = .ok (.aload_n 0, 1) := by decide +kernel
theorem dX3_shellsWouldHold_55 : decode cX3_shellsWouldHold 55 = .ok (.getfield 40, 3) := by decide +kernel
theorem dX3_shellsWouldHold_58 : decode cX3_shellsWouldHold 58 = .ok (.invokevirtual 264, 3) := by decide +kernel
theorem dX3_shellsWouldHold_61 : decode cX3_shellsWouldHold 61 = .ok (.ifCond .ne 5, 3) := by decide +kernel
theorem dX3_shellsWouldHold_64 : decode cX3_shellsWouldHold 64 = .ok (.iconst 0, 1) := by decide +kernel
theorem dX3_shellsWouldHold_65 : decode cX3_shellsWouldHold 65 = .ok (.ireturn, 1) := by decide +kernel
theorem dX3_shellsWouldHold_66 : decode cX3_shellsWouldHold 66 = .ok (.aload_n 0, 1) := by decide +kernel
theorem dX3_shellsWouldHold_67 : decode cX3_shellsWouldHold 67 = .ok (.getfield 40, 3) := by decide +kernel
theorem dX3_shellsWouldHold_70 : decode cX3_shellsWouldHold 70 = .ok (.invokevirtual 162, 3) := by decide +kernel
theorem dX3_shellsWouldHold_73 : decode cX3_shellsWouldHold 73 = .ok (.pop, 1) := by decide +kernel
theorem dX3_shellsWouldHold_74 : decode cX3_shellsWouldHold 74 = .ok (.iinc 5 1, 3) := by decide +kernel
theorem dX3_shellsWouldHold_77 : decode cX3_shellsWouldHold 77 = .ok (.goto (-36), 3) := by decide +kernel
theorem dX3_shellsWouldHold_80 : decode cX3_shellsWouldHold 80 = .ok (.iconst 1, 1) := by decide +kernel
theorem dX3_shellsWouldHold_81 : decode cX3_shellsWouldHold 81 = .ok (.ireturn, 1) := by decide +kernel
theorem dX3_digestIslands_0 : decode cX3_digestIslands 0 = .ok (.lload_n 1, 1) := by decide +kernel
theorem dX3_digestIslands_1 : decode cX3_digestIslands 1 = .ok (.lstore_n 3, 1) := by decide +kernel
theorem dX3_digestIslands_2 : decode cX3_digestIslands 2 = .ok (.iconst 0, 1) := by decide +kernel
theorem dX3_digestIslands_3 : decode cX3_digestIslands 3 = .ok (.istore 5, 2) := by decide +kernel
theorem dX3_digestIslands_5 : decode cX3_digestIslands 5 = .ok (.iload 5, 2) := by decide +kernel
theorem dX3_digestIslands_7 : decode cX3_digestIslands 7 = .ok (.aload_n 0, 1) := by decide +kernel
theorem dX3_digestIslands_8 : decode cX3_digestIslands 8 = .ok (.getfield 33, 3) := by decide +kernel
theorem dX3_digestIslands_11 : decode cX3_digestIslands 11 = .ok (.getfield 105, 3) := by decide +kernel
theorem dX3_digestIslands_14 : decode cX3_digestIslands 14 = .ok (.if_icmp .ge 89, 3) := by decide +kernel
theorem dX3_digestIslands_17 : decode cX3_digestIslands 17 = .ok (.iconst 0, 1) := by decide +kernel
theorem dX3_digestIslands_18 : decode cX3_digestIslands 18 = .ok (.istore 6, 2) := by decide +kernel
theorem dX3_digestIslands_20 : decode cX3_digestIslands 20 = .ok (.iload 6, 2) := by decide +kernel
theorem dX3_digestIslands_22 : decode cX3_digestIslands 22 = .ok (.bipush 8, 2) := by decide +kernel
theorem dX3_digestIslands_24 : decode cX3_digestIslands 24 = .ok (.if_icmp .ge 25, 3) := by decide +kernel
theorem dX3_digestIslands_27 : decode cX3_digestIslands 27 = .ok (.ldc2_w 222, 3) := by decide +kernel
theorem dX3_digestIslands_30 : decode cX3_digestIslands 30 = .ok (.lload_n 3, 1) := by decide +kernel
theorem dX3_digestIslands_31 : decode cX3_digestIslands 31 = .ok (.lmul, 1) := by decide +kernel
theorem dX3_digestIslands_32 : decode cX3_digestIslands 32 = .ok (.aload_n 0, 1) := by decide +kernel
theorem dX3_digestIslands_33 : decode cX3_digestIslands 33 = .ok (.iload 5, 2) := by decide +kernel
theorem dX3_digestIslands_35 : decode cX3_digestIslands 35 = .ok (.iload 6, 2) := by decide +kernel
theorem dX3_digestIslands_37 : decode cX3_digestIslands 37 = .ok (.invokevirtual 268, 3) := by decide +kernel
theorem dX3_digestIslands_40 : decode cX3_digestIslands 40 = .ok (.i2l, 1) := by decide +kernel
theorem dX3_digestIslands_41 : decode cX3_digestIslands 41 = .ok (.ladd, 1) := by decide +kernel
theorem dX3_digestIslands_42 : decode cX3_digestIslands 42 = .ok (.lstore_n 3, 1) := by decide +kernel
theorem dX3_digestIslands_43 : decode cX3_digestIslands 43 = .ok (.iinc 6 1, 3) := by decide +kernel
theorem dX3_digestIslands_46 : decode cX3_digestIslands 46 = .ok (.goto (-26), 3) := by decide +kernel
theorem dX3_digestIslands_49 : decode cX3_digestIslands 49 = .ok (.iconst 0, 1) := by decide +kernel
theorem dX3_digestIslands_50 : decode cX3_digestIslands 50 = .ok (.istore 6, 2) := by decide +kernel
theorem dX3_digestIslands_52 : decode cX3_digestIslands 52 = .ok (.iload 6, 2) := by decide +kernel
theorem dX3_digestIslands_54 : decode cX3_digestIslands 54 = .ok (.aload_n 0, 1) := by decide +kernel
theorem dX3_digestIslands_55 : decode cX3_digestIslands 55 = .ok (.getfield 33, 3) := by decide +kernel
theorem dX3_digestIslands_58 : decode cX3_digestIslands 58 = .ok (.getfield 105, 3) := by decide +kernel
theorem dX3_digestIslands_61 : decode cX3_digestIslands 61 = .ok (.if_icmp .ge 36, 3) := by decide +kernel
theorem dX3_digestIslands_64 : decode cX3_digestIslands 64 = .ok (.iload 6, 2) := by decide +kernel
theorem dX3_digestIslands_66 : decode cX3_digestIslands 66 = .ok (.iload 5, 2) := by decide +kernel
theorem dX3_digestIslands_68 : decode cX3_digestIslands 68 = .ok (.if_icmp .eq 23, 3) := by decide +kernel
theorem dX3_digestIslands_71 : decode cX3_digestIslands 71 = .ok (.ldc2_w 222, 3) := by decide +kernel
theorem dX3_digestIslands_74 : decode cX3_digestIslands 74 = .ok (.lload_n 3, 1) := by decide +kernel
theorem dX3_digestIslands_75 : decode cX3_digestIslands 75 = .ok (.lmul, 1) := by decide +kernel
theorem dX3_digestIslands_76 : decode cX3_digestIslands 76 = .ok (.aload_n 0, 1) := by decide +kernel
theorem dX3_digestIslands_77 : decode cX3_digestIslands 77 = .ok (.getfield 53, 3) := by decide +kernel
theorem dX3_digestIslands_80 : decode cX3_digestIslands 80 = .ok (.iload 5, 2) := by decide +kernel
theorem dX3_digestIslands_82 : decode cX3_digestIslands 82 = .ok (.iconst 5, 1) := by decide +kernel
theorem dX3_digestIslands_83 : decode cX3_digestIslands 83 = .ok (.imul, 1) := by decide +kernel
theorem dX3_digestIslands_84 : decode cX3_digestIslands 84 = .ok (.iload 6, 2) := by decide +kernel
theorem dX3_digestIslands_86 : decode cX3_digestIslands 86 = .ok (.iadd, 1) := by decide +kernel
theorem dX3_digestIslands_87 : decode cX3_digestIslands 87 = .ok (.iaload, 1) := by decide +kernel
theorem dX3_digestIslands_88 : decode cX3_digestIslands 88 = .ok (.i2l, 1) := by decide +kernel
theorem dX3_digestIslands_89 : decode cX3_digestIslands 89 = .ok (.ladd, 1) := by decide +kernel
theorem dX3_digestIslands_90 : decode cX3_digestIslands 90 = .ok (.lstore_n 3, 1) := by decide +kernel
theorem dX3_digestIslands_91 : decode cX3_digestIslands 91 = .ok (.iinc 6 1, 3) := by decide +kernel
theorem dX3_digestIslands_94 : decode cX3_digestIslands 94 = .ok (.goto (-42), 3) := by decide +kernel
theorem dX3_digestIslands_97 : decode cX3_digestIslands 97 = .ok (.iinc 5 1, 3) := by decide +kernel
theorem dX3_digestIslands_100 : decode cX3_digestIslands 100 = .ok (.goto (-95), 3) := by decide +kernel
theorem dX3_digestIslands_103 : decode cX3_digestIslands 103 = .ok (.lload_n 3, 1) := by decide +kernel
theorem dX3_digestIslands_104 : decode cX3_digestIslands 104 = .ok (.lreturn, 1) := by decide +kernel
theorem dX3_digestMatches_0 : decode cX3_digestMatches 0 = .ok (.ldc2_w 222, 3) := by decide +kernel
theorem dX3_digestMatches_3 : decode cX3_digestMatches 3 = .ok (.lload_n 1, 1) := by decide +kernel
theorem dX3_digestMatches_4 : decode cX3_digestMatches 4 = .ok (.lmul, 1) := by decide +kernel
theorem dX3_digestMatches_5 : decode cX3_digestMatches 5 = .ok (.aload_n 0, 1) := by decide +kernel
theorem dX3_digestMatches_6 : decode cX3_digestMatches 6 = .ok (.iconst 0, 1) := by decide +kernel
theorem dX3_digestMatches_7 : decode cX3_digestMatches 7 = .ok (.invokevirtual 185, 3) := by decide +kernel
theorem dX3_digestMatches_10 : decode cX3_digestMatches 10 = .ok (.i2l, 1) := by decide +kernel
theorem dX3_digestMatches_11 : decode cX3_digestMatches 11 = .ok (.ladd, 1) := by decide +kernel
theorem dX3_digestMatches_12 : decode cX3_digestMatches 12 = .ok (.lstore_n 3, 1) := by decide +kernel
theorem dX3_digestMatches_13 : decode cX3_digestMatches 13 = .ok (.ldc2_w 222, 3) := by decide +kernel
theorem dX3_digestMatches_16 : decode cX3_digestMatches 16 = .ok (.lload_n 3, 1) := by decide +kernel
theorem dX3_digestMatches_17 : decode cX3_digestMatches 17 = .ok (.lmul, 1) := by decide +kernel
theorem dX3_digestMatches_18 : decode cX3_digestMatches 18 = .ok (.aload_n 0, 1) := by decide +kernel
theorem dX3_digestMatches_19 : decode cX3_digestMatches 19 = .ok (.iconst 1, 1) := by decide +kernel
theorem dX3_digestMatches_20 : decode cX3_digestMatches 20 = .ok (.invokevirtual 185, 3) := by decide +kernel
theorem dX3_digestMatches_23 : decode cX3_digestMatches 23 = .ok (.i2l, 1) := by decide +kernel
theorem dX3_digestMatches_24 : decode cX3_digestMatches 24 = .ok (.ladd, 1) := by decide +kernel
theorem dX3_digestMatches_25 : decode cX3_digestMatches 25 = .ok (.lstore_n 3, 1) := by decide +kernel
theorem dX3_digestMatches_26 : decode cX3_digestMatches 26 = .ok (.iconst 0, 1) := by decide +kernel
theorem dX3_digestMatches_27 : decode cX3_digestMatches 27 = .ok (.istore 5, 2) := by decide +kernel
theorem dX3_digestMatches_29 : decode cX3_digestMatches 29 = .ok (.iload 5, 2) := by decide +kernel
theorem dX3_digestMatches_31 : decode cX3_digestMatches 31 = .ok (.iconst 5, 1) := by decide +kernel
theorem dX3_digestMatches_32 : decode cX3_digestMatches 32 = .ok (.if_icmp .ge 26, 3) := by decide +kernel
theorem dX3_digestMatches_35 : decode cX3_digestMatches 35 = .ok (.ldc2_w 222, 3) := by decide +kernel
theorem dX3_digestMatches_38 : decode cX3_digestMatches 38 = .ok (.lload_n 3, 1) := by decide +kernel
theorem dX3_digestMatches_39 : decode cX3_digestMatches 39 = .ok (.lmul, 1) := by decide +kernel
theorem dX3_digestMatches_40 : decode cX3_digestMatches 40 = .ok (.aload_n 0, 1) := by decide +kernel
theorem dX3_digestMatches_41 : decode cX3_digestMatches 41 = .ok (.bipush 10, 2) := by decide +kernel
theorem dX3_digestMatches_43 : decode cX3_digestMatches 43 = .ok (.iload 5, 2) := by decide +kernel
theorem dX3_digestMatches_45 : decode cX3_digestMatches 45 = .ok (.iadd, 1) := by decide +kernel
theorem dX3_digestMatches_46 : decode cX3_digestMatches 46 = .ok (.invokevirtual 185, 3) := by decide +kernel
theorem dX3_digestMatches_49 : decode cX3_digestMatches 49 = .ok (.i2l, 1) := by decide +kernel
theorem dX3_digestMatches_50 : decode cX3_digestMatches 50 = .ok (.ladd, 1) := by decide +kernel
theorem dX3_digestMatches_51 : decode cX3_digestMatches 51 = .ok (.lstore_n 3, 1) := by decide +kernel
theorem dX3_digestMatches_52 : decode cX3_digestMatches 52 = .ok (.iinc 5 1, 3) := by decide +kernel
theorem dX3_digestMatches_55 : decode cX3_digestMatches 55 = .ok (.goto (-26), 3) := by decide +kernel
theorem dX3_digestMatches_58 : decode cX3_digestMatches 58 = .ok (.lload_n 3, 1) := by decide +kernel
theorem dX3_digestMatches_59 : decode cX3_digestMatches 59 = .ok (.lreturn, 1) := by decide +kernel
