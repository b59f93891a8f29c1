theorem dX4_init_0 : decode cX4_init 0 = .ok (.aload_n 0, 1) := by decide +kernel
theorem dX4_init_1 : decode cX4_init 1 = .ok (.invokespecial 1, 3) := by decide +kernel
theorem dX4_init_4 : decode cX4_init 4 = .ok (.aload_n 0, 1) := by decide +kernel
theorem dX4_init_5 : decode cX4_init 5 = .ok (.bipush 14, 2) := by decide +kernel
theorem dX4_init_7 : decode cX4_init 7 = .ok (.newarray .int, 2) := by decide +kernel
theorem dX4_init_9 : decode cX4_init 9 = .ok (.putfield 7, 3) := by decide +kernel
theorem dX4_init_12 : decode cX4_init 12 = .ok (.aload_n 0, 1) := by decide +kernel
theorem dX4_init_13 : decode cX4_init 13 = .ok (.bipush 12, 2) := by decide +kernel
theorem dX4_init_15 : decode cX4_init 15 = .ok (.newarray .int, 2) := by decide +kernel
theorem dX4_init_17 : decode cX4_init 17 = .ok (.putfield 13, 3) := by decide +kernel
theorem dX4_init_20 : decode cX4_init 20 = .ok (.aload_n 0, 1) := by decide +kernel
theorem dX4_init_21 : decode cX4_init 21 = .ok (.bipush 20, 2) := by decide +kernel
theorem dX4_init_23 : decode cX4_init 23 = .ok (.newarray .int, 2) := by decide +kernel
theorem dX4_init_25 : decode cX4_init 25 = .ok (.putfield 16, 3) := by decide +kernel
theorem dX4_init_28 : decode cX4_init 28 = .ok (.aload_n 0, 1) := by decide +kernel
theorem dX4_init_29 : decode cX4_init 29 = .ok (.bipush 12, 2) := by decide +kernel
theorem dX4_init_31 : decode cX4_init 31 = .ok (.newarray .int, 2) := by decide +kernel
theorem dX4_init_33 : decode cX4_init 33 = .ok (.putfield 19, 3) := by decide +kernel
theorem dX4_init_36 : decode cX4_init 36 = .ok (.aload_n 0, 1) := by decide +kernel
theorem dX4_init_37 : decode cX4_init 37 = .ok (.iconst 5, 1) := by decide +kernel
theorem dX4_init_38 : decode cX4_init 38 = .ok (.newarray .int, 2) := by decide +kernel
theorem dX4_init_40 : decode cX4_init 40 = .ok (.putfield 22, 3) := by decide +kernel
theorem dX4_init_43 : decode cX4_init 43 = .ok (.aload_n 0, 1) := by decide +kernel
theorem dX4_init_44 : decode cX4_init 44 = .ok (.bipush 25, 2) := by decide +kernel
theorem dX4_init_46 : decode cX4_init 46 = .ok (.newarray .int, 2) := by decide +kernel
theorem dX4_init_48 : decode cX4_init 48 = .ok (.putfield 25, 3) := by decide +kernel
theorem dX4_init_51 : decode cX4_init 51 = .ok (.aload_n 0, 1) := by decide +kernel
theorem dX4_init_52 : decode cX4_init 52 = .ok (.iconst 5, 1) := by decide +kernel
theorem dX4_init_53 : decode cX4_init 53 = .ok (.newarray .int, 2) := by decide +kernel
theorem dX4_init_55 : decode cX4_init 55 = .ok (.putfield 28, 3) := by decide +kernel
theorem dX4_init_58 : decode cX4_init 58 = .ok (.aload_n 0, 1) := by decide +kernel
theorem dX4_init_59 : decode cX4_init 59 = .ok (.iconst 5, 1) := by decide +kernel
theorem dX4_init_60 : decode cX4_init 60 = .ok (.newarray .int, 2) := by decide +kernel
theorem dX4_init_62 : decode cX4_init 62 = .ok (.putfield 31, 3) := by decide +kernel
theorem dX4_init_65 : decode cX4_init 65 = .ok (.aload_n 0, 1) := by decide +kernel
theorem dX4_init_66 : decode cX4_init 66 = .ok (.bipush 32, 2) := by decide +kernel
theorem dX4_init_68 : decode cX4_init 68 = .ok (.newarray .int, 2) := by decide +kernel
theorem dX4_init_70 : decode cX4_init 70 = .ok (.putfield 34, 3) := by decide +kernel
theorem dX4_init_73 : decode cX4_init 73 = .ok (.aload_n 0, 1) := by decide +kernel
theorem dX4_init_74 : decode cX4_init 74 = .ok (.bipush 20, 2) := by decide +kernel
theorem dX4_init_76 : decode cX4_init 76 = .ok (.newarray .int, 2) := by decide +kernel
theorem dX4_init_78 : decode cX4_init 78 = .ok (.putfield 37, 3) := by decide +kernel
theorem dX4_init_81 : decode cX4_init 81 = .ok (.aload_n 0, 1) := by decide +kernel
theorem dX4_init_82 : decode cX4_init 82 = .ok (.bipush 12, 2) := by decide +kernel
theorem dX4_init_84 : decode cX4_init 84 = .ok (.newarray .int, 2) := by decide +kernel
theorem dX4_init_86 : decode cX4_init 86 = .ok (.putfield 40, 3) := by decide +kernel
theorem dX4_init_89 : decode cX4_init 89 = .ok (.aload_n 0, 1) := by decide +kernel
theorem dX4_init_90 : decode cX4_init 90 = .ok (.bipush 32, 2) := by decide +kernel
theorem dX4_init_92 : decode cX4_init 92 = .ok (.newarray .int, 2) := by decide +kernel
theorem dX4_init_94 : decode cX4_init 94 = .ok (.putfield 43, 3) := by decide +kernel
theorem dX4_init_97 : decode cX4_init 97 = .ok (.aload_n 0, 1) := by decide +kernel
theorem dX4_init_98 : decode cX4_init 98 = .ok (.iconst (-1), 1) := by decide +kernel
theorem dX4_init_99 : decode cX4_init 99 = .ok (.putfield 46, 3) := by decide +kernel
theorem dX4_init_102 : decode cX4_init 102 = .ok (.return_, 1) := by decide +kernel
theorem dX4_in_0 : decode cX4_in 0 = .ok (.lload_n 0, 1) := by decide +kernel
theorem dX4_in_1 : decode cX4_in 1 = .ok (.lload_n 2, 1) := by decide +kernel
theorem dX4_in_2 : decode cX4_in 2 = .ok (.lcmp, 1) := by decide +kernel
theorem dX4_in_3 : decode cX4_in 3 = .ok (.ifCond .lt 14, 3) := by decide +kernel
theorem dX4_in_6 : decode cX4_in 6 = .ok (.lload_n 0, 1) := by decide +kernel
theorem dX4_in_7 : decode cX4_in 7 = .ok (.lload 4, 2) := by decide +kernel
theorem dX4_in_9 : decode cX4_in 9 = .ok (.lcmp, 1) := by decide +kernel
theorem dX4_in_10 : decode cX4_in 10 = .ok (.ifCond .gt 7, 3) := by decide +kernel
theorem dX4_in_13 : decode cX4_in 13 = .ok (.iconst 1, 1) := by decide +kernel
theorem dX4_in_14 : decode cX4_in 14 = .ok (.goto 4, 3) := by decide +kernel
theorem dX4_in_17 : decode cX4_in 17 = .ok (.iconst 0, 1) := by decide +kernel
theorem dX4_in_18 : decode cX4_in 18 = .ok (.ireturn, 1) := by decide +kernel
theorem dX4_letter_0 : decode cX4_letter 0 = .ok (.iload_n 1, 1) := by decide +kernel
theorem dX4_letter_1 : decode cX4_letter 1 = .ok (.i2l, 1) := by decide +kernel
theorem dX4_letter_2 : decode cX4_letter 2 = .ok (.lconst 1, 1) := by decide +kernel
theorem dX4_letter_3 : decode cX4_letter 3 = .ok (.ldc2_w 50, 3) := by decide +kernel
theorem dX4_letter_6 : decode cX4_letter 6 = .ok (.invokestatic 52, 3) := by decide +kernel
theorem dX4_letter_9 : decode cX4_letter 9 = .ok (.ifCond .ne 6, 3) := by decide +kernel
theorem dX4_letter_12 : decode cX4_letter 12 = .ok (.bipush (-102), 2) := by decide +kernel
theorem dX4_letter_14 : decode cX4_letter 14 = .ok (.ireturn, 1) := by decide +kernel
theorem dX4_letter_15 : decode cX4_letter 15 = .ok (.aload_n 0, 1) := by decide +kernel
theorem dX4_letter_16 : decode cX4_letter 16 = .ok (.getfield 56, 3) := by decide +kernel
theorem dX4_letter_19 : decode cX4_letter 19 = .ok (.bipush 14, 2) := by decide +kernel
theorem dX4_letter_21 : decode cX4_letter 21 = .ok (.if_icmp .ne 6, 3) := by decide +kernel
theorem dX4_letter_24 : decode cX4_letter 24 = .ok (.bipush (-104), 2) := by decide +kernel
theorem dX4_letter_26 : decode cX4_letter 26 = .ok (.ireturn, 1) := by decide +kernel
theorem dX4_letter_27 : decode cX4_letter 27 = .ok (.aload_n 0, 1) := by decide +kernel
theorem dX4_letter_28 : decode cX4_letter 28 = .ok (.getfield 7, 3) := by decide +kernel
theorem dX4_letter_31 : decode cX4_letter 31 = .ok (.aload_n 0, 1) := by decide +kernel
theorem dX4_letter_32 : decode cX4_letter 32 = .ok (.getfield 56, 3) := by decide +kernel
theorem dX4_letter_35 : decode cX4_letter 35 = .ok (.iload_n 1, 1) := by decide +kernel
theorem dX4_letter_36 : decode cX4_letter 36 = .ok (.iastore, 1) := by decide +kernel
theorem dX4_letter_37 : decode cX4_letter 37 = .ok (.aload_n 0, 1) := by decide +kernel
theorem dX4_letter_38 : decode cX4_letter 38 = .ok (.dup, 1) := by decide +kernel
theorem dX4_letter_39 : decode cX4_letter 39 = .ok (.getfield 56, 3) := by decide +kernel
theorem dX4_letter_42 : decode cX4_letter 42 = .ok (.iconst 1, 1) := by decide +kernel
theorem dX4_letter_43 : decode cX4_letter 43 = .ok (.iadd, 1) := by decide +kernel
theorem dX4_letter_44 : decode cX4_letter 44 = .ok (.putfield 56, 3) := by decide +kernel
theorem dX4_letter_47 : decode cX4_letter 47 = .ok (.aload_n 0, 1) := by decide +kernel
theorem dX4_letter_48 : decode cX4_letter 48 = .ok (.getfield 56, 3) := by decide +kernel
theorem dX4_letter_51 : decode cX4_letter 51 = .ok (.ireturn, 1) := by decide +kernel
theorem dX4_blank_0 : decode cX4_blank 0 = .ok (.aload_n 0, 1) := by decide +kernel
theorem dX4_blank_1 : decode cX4_blank 1 = .ok (.getfield 56, 3) := by decide +kernel
theorem dX4_blank_4 : decode cX4_blank 4 = .ok (.istore_n 1, 1) := by decide +kernel
theorem dX4_blank_5 : decode cX4_blank 5 = .ok (.aload_n 0, 1) := by decide +kernel
theorem dX4_blank_6 : decode cX4_blank 6 = .ok (.iconst 0, 1) := by decide +kernel
theorem dX4_blank_7 : decode cX4_blank 7 = .ok (.putfield 56, 3) := by decide +kernel
theorem dX4_blank_10 : decode cX4_blank 10 = .ok (.iload_n 1, 1) := by decide +kernel
theorem dX4_blank_11 : decode cX4_blank 11 = .ok (.ireturn, 1) := by decide +kernel
theorem dX4_faultOf_0 : decode cX4_faultOf 0 = .ok (.iconst 0, 1) := by decide +kernel
theorem dX4_faultOf_1 : decode cX4_faultOf 1 = .ok (.istore_n 1, 1) := by decide +kernel
theorem dX4_faultOf_2 : decode cX4_faultOf 2 = .ok (.iload_n 1, 1) := by decide +kernel
theorem dX4_faultOf_3 : decode cX4_faultOf 3 = .ok (.aload_n 0, 1) := by decide +kernel
theorem dX4_faultOf_4 : decode cX4_faultOf 4 = .ok (.getfield 56, 3) := by decide +kernel
theorem dX4_faultOf_7 : decode cX4_faultOf 7 = .ok (.if_icmp .ge 48, 3) := by decide +kernel
theorem dX4_faultOf_10 : decode cX4_faultOf 10 = .ok (.iload_n 1, 1) := by decide +kernel
theorem dX4_faultOf_11 : decode cX4_faultOf 11 = .ok (.bipush 12, 2) := by decide +kernel
theorem dX4_faultOf_13 : decode cX4_faultOf 13 = .ok (.if_icmp .ge 42, 3) := by decide +kernel
theorem dX4_faultOf_16 : decode cX4_faultOf 16 = .ok (.aload_n 0, 1) := by decide +kernel
theorem dX4_faultOf_17 : decode cX4_faultOf 17 = .ok (.getfield 7, 3) := by decide +kernel
theorem dX4_faultOf_20 : decode cX4_faultOf 20 = .ok (.iload_n 1, 1) := by decide +kernel
theorem dX4_faultOf_21 : decode cX4_faultOf 21 = .ok (.iaload, 1) := by decide +kernel
theorem dX4_faultOf_22 : decode cX4_faultOf 22 = .ok (.bipush 62, 2) := by decide +kernel
theorem dX4_faultOf_24 : decode cX4_faultOf 24 = .ok (.if_icmp .eq 25, 3) := by decide +kernel
theorem dX4_faultOf_27 : decode cX4_faultOf 27 = .ok (.aload_n 0, 1) := by decide +kernel
theorem dX4_faultOf_28 : decode cX4_faultOf 28 = .ok (.getfield 7, 3) := by decide +kernel
theorem dX4_faultOf_31 : decode cX4_faultOf 31 = .ok (.iload_n 1, 1) := by decide +kernel
theorem dX4_faultOf_32 : decode cX4_faultOf 32 = .ok (.iaload, 1) := by decide +kernel
theorem dX4_faultOf_33 : decode cX4_faultOf 33 = .ok (.bipush 60, 2) := by decide +kernel
theorem dX4_faultOf_35 : decode cX4_faultOf 35 = .ok (.if_icmp .eq 14, 3) := by decide +kernel
theorem dX4_faultOf_38 : decode cX4_faultOf 38 = .ok (.aload_n 0, 1) := by decide +kernel
theorem dX4_faultOf_39 : decode cX4_faultOf 39 = .ok (.getfield 7, 3) := by decide +kernel
theorem dX4_faultOf_42 : decode cX4_faultOf 42 = .ok (.iload_n 1, 1) := by decide +kernel
theorem dX4_faultOf_43 : decode cX4_faultOf 43 = .ok (.iaload, 1) := by decide +kernel
theorem dX4_faultOf_44 : decode cX4_faultOf 44 = .ok (.bipush 46, 2) := by decide +kernel
theorem dX4_faultOf_46 : decode cX4_faultOf 46 = .ok (.if_icmp .ne 9, 3) := by decide +kernel
theorem dX4_faultOf_49 : decode cX4_faultOf 49 = .ok (.iinc 1 1, 3) := by decide +kernel
theorem dX4_faultOf_52 : decode cX4_faultOf 52 = .ok (.goto (-50), 3) := by decide +kernel
theorem dX4_faultOf_55 : decode cX4_faultOf 55 = .ok (.iload_n 1, 1) := by decide +kernel
theorem dX4_faultOf_56 : decode cX4_faultOf 56 = .ok (.ireturn, 1) := by decide +kernel
theorem dX4_fault_0 : decode cX4_fault 0 = .ok (.aload_n 0, 1) := by decide +kernel
theorem dX4_fault_1 : decode cX4_fault 1 = .ok (.invokevirtual 59, 3) := by decide +kernel
theorem dX4_fault_4 : decode cX4_fault 4 = .ok (.ireturn, 1) := by decide +kernel
theorem dX4_currentMany_0 : decode cX4_currentMany 0 = .ok (.iconst 0, 1) := by decide +kernel
theorem dX4_currentMany_1 : decode cX4_currentMany 1 = .ok (.istore_n 1, 1) := by decide +kernel
theorem dX4_currentMany_2 : decode cX4_currentMany 2 = .ok (.iconst 0, 1) := by decide +kernel
theorem dX4_currentMany_3 : decode cX4_currentMany 3 = .ok (.istore_n 2, 1) := by decide +kernel
theorem dX4_currentMany_4 : decode cX4_currentMany 4 = .ok (.iload_n 2, 1) := by decide +kernel
theorem dX4_currentMany_5 : decode cX4_currentMany 5 = .ok (.bipush 12, 2) := by decide +kernel
theorem dX4_currentMany_7 : decode cX4_currentMany 7 = .ok (.if_icmp .ge 26, 3) := by decide +kernel
theorem dX4_currentMany_10 : decode cX4_currentMany 10 = .ok (.iload_n 1, 1) := by decide +kernel
theorem dX4_currentMany_11 : decode cX4_currentMany 11 = .ok (.aload_n 0, 1) := by decide +kernel
theorem dX4_currentMany_12 : decode cX4_currentMany 12 = .ok (.getfield 13, 3) := by decide +kernel
theorem dX4_currentMany_15 : decode cX4_currentMany 15 = .ok (.iload_n 2, 1) := by decide +kernel
theorem dX4_currentMany_16 : decode cX4_currentMany 16 = .ok (.iaload, 1) := by decide +kernel
theorem dX4_currentMany_17 : decode cX4_currentMany 17 = .ok (.ifCond .ne 7, 3) := by decide +kernel
theorem dX4_currentMany_20 : decode cX4_currentMany 20 = .ok (.iconst 0, 1) := by decide +kernel
theorem dX4_currentMany_21 : decode cX4_currentMany 21 = .ok (.goto 4, 3) := by decide +kernel
theorem dX4_currentMany_24 : decode cX4_currentMany 24 = .ok (.iconst 1, 1) := by decide +kernel
theorem dX4_currentMany_25 : decode cX4_currentMany 25 = .ok (.iadd, 1) := by decide +kernel
theorem dX4_currentMany_26 : decode cX4_currentMany 26 = .ok (.istore_n 1, 1) := by decide +kernel
theorem dX4_currentMany_27 : decode cX4_currentMany 27 = .ok (.iinc 2 1, 3) := by decide +kernel
theorem dX4_currentMany_30 : decode cX4_currentMany 30 = .ok (.goto (-26), 3) := by decide +kernel
theorem dX4_currentMany_33 : decode cX4_currentMany 33 = .ok (.iload_n 1, 1) := by decide +kernel
theorem dX4_currentMany_34 : decode cX4_currentMany 34 = .ok (.ireturn, 1) := by decide +kernel
theorem dX4_sea_0 : decode cX4_sea 0 = .ok (.aload_n 0, 1) := by decide +kernel
theorem dX4_sea_1 : decode cX4_sea 1 = .ok (.getfield 56, 3) := by decide +kernel
theorem dX4_sea_4 : decode cX4_sea 4 = .ok (.bipush 12, 2) := by decide +kernel
theorem dX4_sea_6 : decode cX4_sea 6 = .ok (.if_icmp .ne 12, 3) := by decide +kernel
theorem dX4_sea_9 : decode cX4_sea 9 = .ok (.aload_n 0, 1) := by decide +kernel
theorem dX4_sea_10 : decode cX4_sea 10 = .ok (.invokevirtual 59, 3) := by decide +kernel
theorem dX4_sea_13 : decode cX4_sea 13 = .ok (.bipush 12, 2) := by decide +kernel
theorem dX4_sea_15 : decode cX4_sea 15 = .ok (.if_icmp .ge 6, 3) := by decide +kernel
theorem dX4_sea_18 : decode cX4_sea 18 = .ok (.bipush (-103), 2) := by decide +kernel
theorem dX4_sea_20 : decode cX4_sea 20 = .ok (.ireturn, 1) := by decide +kernel
theorem dX4_sea_21 : decode cX4_sea 21 = .ok (.iconst 0, 1) := by decide +kernel
theorem dX4_sea_22 : decode cX4_sea 22 = .ok (.istore_n 1, 1) := by decide +kernel
theorem dX4_sea_23 : decode cX4_sea 23 = .ok (.iload_n 1, 1) := by decide +kernel
theorem dX4_sea_24 : decode cX4_sea 24 = .ok (.bipush 12, 2) := by decide +kernel
theorem dX4_sea_26 : decode cX4_sea 26 = .ok (.if_icmp .ge 46, 3) := by decide +kernel
theorem dX4_sea_29 : decode cX4_sea 29 = .ok (.aload_n 0, 1) := by decide +kernel
theorem dX4_sea_30 : decode cX4_sea 30 = .ok (.getfield 13, 3) := by decide +kernel
theorem dX4_sea_33 : decode cX4_sea 33 = .ok (.iload_n 1, 1) := by decide +kernel
theorem dX4_sea_34 : decode cX4_sea 34 = .ok (.aload_n 0, 1) := by decide +kernel
theorem dX4_sea_35 : decode cX4_sea 35 = .ok (.getfield 7, 3) := by decide +kernel
theorem dX4_sea_38 : decode cX4_sea 38 = .ok (.iload_n 1, 1) := by decide +kernel
theorem dX4_sea_39 : decode cX4_sea 39 = .ok (.iaload, 1) := by decide +kernel
theorem dX4_sea_40 : decode cX4_sea 40 = .ok (.bipush 62, 2) := by decide +kernel
theorem dX4_sea_42 : decode cX4_sea 42 = .ok (.if_icmp .ne 7, 3) := by decide +kernel
theorem dX4_sea_45 : decode cX4_sea 45 = .ok (.iconst 1, 1) := by decide +kernel
theorem dX4_sea_46 : decode cX4_sea 46 = .ok (.goto 19, 3) := by decide +kernel
theorem dX4_sea_49 : decode cX4_sea 49 = .ok (.aload_n 0, 1) := by decide +kernel
theorem dX4_sea_50 : decode cX4_sea 50 = .ok (.getfield 7, 3) := by decide +kernel
theorem dX4_sea_53 : decode cX4_sea 53 = .ok (.iload_n 1, 1) := by decide +kernel
theorem dX4_sea_54 : decode cX4_sea 54 = .ok (.iaload, 1) := by decide +kernel
theorem dX4_sea_55 : decode cX4_sea 55 = .ok (.bipush 60, 2) := by decide +kernel
theorem dX4_sea_57 : decode cX4_sea 57 = .ok (.if_icmp .ne 7, 3) := by decide +kernel
theorem dX4_sea_60 : decode cX4_sea 60 = .ok (.iconst (-1), 1) := by decide +kernel
theorem dX4_sea_61 : decode cX4_sea 61 = .ok (.goto 4, 3) := by decide +kernel
theorem dX4_sea_64 : decode cX4_sea 64 = .ok (.iconst 0, 1) := by decide +kernel
theorem dX4_sea_65 : decode cX4_sea 65 = .ok (.iastore, 1) := by decide +kernel
theorem dX4_sea_66 : decode cX4_sea 66 = .ok (.iinc 1 1, 3) := by decide +kernel
theorem dX4_sea_69 : decode cX4_sea 69 = .ok (.goto (-46), 3) := by decide +kernel
theorem dX4_sea_72 : decode cX4_sea 72 = .ok (.aload_n 0, 1) := by decide +kernel
theorem dX4_sea_73 : decode cX4_sea 73 = .ok (.iconst 1, 1) := by decide +kernel
theorem dX4_sea_74 : decode cX4_sea 74 = .ok (.putfield 63, 3) := by decide +kernel
theorem dX4_sea_77 : decode cX4_sea 77 = .ok (.aload_n 0, 1) := by decide +kernel
theorem dX4_sea_78 : decode cX4_sea 78 = .ok (.iconst 0, 1) := by decide +kernel
theorem dX4_sea_79 : decode cX4_sea 79 = .ok (.putfield 67, 3) := by decide +kernel
theorem dX4_sea_82 : decode cX4_sea 82 = .ok (.aload_n 0, 1) := by decide +kernel
theorem dX4_sea_83 : decode cX4_sea 83 = .ok (.iconst 0, 1) := by decide +kernel
theorem dX4_sea_84 : decode cX4_sea 84 = .ok (.putfield 70, 3) := by decide +kernel
theorem dX4_sea_87 : decode cX4_sea 87 = .ok (.aload_n 0, 1) := by decide +kernel
theorem dX4_sea_88 : decode cX4_sea 88 = .ok (.iconst 0, 1) := by decide +kernel
theorem dX4_sea_89 : decode cX4_sea 89 = .ok (.putfield 73, 3) := by decide +kernel
theorem dX4_sea_92 : decode cX4_sea 92 = .ok (.aload_n 0, 1) := by decide +kernel
theorem dX4_sea_93 : decode cX4_sea 93 = .ok (.iconst 0, 1) := by decide +kernel
theorem dX4_sea_94 : decode cX4_sea 94 = .ok (.putfield 76, 3) := by decide +kernel
theorem dX4_sea_97 : decode cX4_sea 97 = .ok (.aload_n 0, 1) := by decide +kernel
theorem dX4_sea_98 : decode cX4_sea 98 = .ok (.iconst 0, 1) := by decide +kernel
theorem dX4_sea_99 : decode cX4_sea 99 = .ok (.putfield 79, 3) := by decide +kernel
theorem dX4_sea_102 : decode cX4_sea 102 = .ok (.aload_n 0, 1) := by decide +kernel
theorem dX4_sea_103 : decode cX4_sea 103 = .ok (.iconst 0, 1) := by decide +kernel
theorem dX4_sea_104 : decode cX4_sea 104 = .ok (.putfield 82, 3) := by decide +kernel
theorem dX4_sea_107 : decode cX4_sea 107 = .ok (.aload_n 0, 1) := by decide +kernel
theorem dX4_sea_108 : decode cX4_sea 108 = .ok (.dup, 1) := by decide +kernel
theorem dX4_sea_109 : decode cX4_sea 109 = .ok (.getfield 85, 3) := by decide +kernel
theorem dX4_sea_112 : decode cX4_sea 112 = .ok (.iconst 1, 1) := by decide +kernel
theorem dX4_sea_113 : decode cX4_sea 113 = .ok (.iadd, 1) := by decide +kernel
theorem dX4_sea_114 : decode cX4_sea 114 = .ok (.putfield 85, 3) := by decide +kernel
theorem dX4_sea_117 : decode cX4_sea 117 = .ok (.aload_n 0, 1) := by decide +kernel
theorem dX4_sea_118 : decode cX4_sea 118 = .ok (.iconst 0, 1) := by decide +kernel
theorem dX4_sea_119 : decode cX4_sea 119 = .ok (.putfield 56, 3) := by decide +kernel
theorem dX4_sea_122 : decode cX4_sea 122 = .ok (.aload_n 0, 1) := by decide +kernel
theorem dX4_sea_123 : decode cX4_sea 123 = .ok (.invokevirtual 88, 3) := by decide +kernel
theorem dX4_sea_126 : decode cX4_sea 126 = .ok (.ireturn, 1) := by decide +kernel
theorem dX4_isIsland_0 : decode cX4_isIsland 0 = .ok (.iload_n 1, 1) := by decide +kernel
theorem dX4_isIsland_1 : decode cX4_isIsland 1 = .ok (.i2l, 1) := by decide +kernel
theorem dX4_isIsland_2 : decode cX4_isIsland 2 = .ok (.lconst 0, 1) := by decide +kernel
theorem dX4_isIsland_3 : decode cX4_isIsland 3 = .ok (.aload_n 0, 1) := by decide +kernel
theorem dX4_isIsland_4 : decode cX4_isIsland 4 = .ok (.getfield 76, 3) := by decide +kernel
theorem dX4_isIsland_7 : decode cX4_isIsland 7 = .ok (.iconst 1, 1) := by decide +kernel
theorem dX4_isIsland_8 : decode cX4_isIsland 8 = .ok (.isub, 1) := by decide +kernel
theorem dX4_isIsland_9 : decode cX4_isIsland 9 = .ok (.i2l, 1) := by decide +kernel
theorem dX4_isIsland_10 : decode cX4_isIsland 10 = .ok (.invokestatic 52, 3) := by decide +kernel
theorem dX4_isIsland_13 : decode cX4_isIsland 13 = .ok (.ireturn, 1) := by decide +kernel
theorem dX4_arePair_0 : decode cX4_arePair 0 = .ok (.aload_n 0, 1) := by decide +kernel
theorem dX4_arePair_1 : decode cX4_arePair 1 = .ok (.iload_n 1, 1) := by decide +kernel
theorem dX4_arePair_2 : decode cX4_arePair 2 = .ok (.invokevirtual 91, 3) := by decide +kernel
theorem dX4_arePair_5 : decode cX4_arePair 5 = .ok (.ifCond .eq 20, 3) := by decide +kernel
theorem dX4_arePair_8 : decode cX4_arePair 8 = .ok (.aload_n 0, 1) := by decide +kernel
theorem dX4_arePair_9 : decode cX4_arePair 9 = .ok (.iload_n 2, 1) := by decide +kernel
theorem dX4_arePair_10 : decode cX4_arePair 10 = .ok (.invokevirtual 91, 3) := by decide +kernel
theorem dX4_arePair_13 : decode cX4_arePair 13 = .ok (.ifCond .eq 12, 3) := by decide +kernel
theorem dX4_arePair_16 : decode cX4_arePair 16 = .ok (.iload_n 1, 1) := by decide +kernel
theorem dX4_arePair_17 : decode cX4_arePair 17 = .ok (.iload_n 2, 1) := by decide +kernel
theorem dX4_arePair_18 : decode cX4_arePair 18 = .ok (.if_icmp .eq 7, 3) := by decide +kernel
theorem dX4_arePair_21 : decode cX4_arePair 21 = .ok (.iconst 1, 1) := by decide +kernel
theorem dX4_arePair_22 : decode cX4_arePair 22 = .ok (.goto 4, 3) := by decide +kernel
theorem dX4_arePair_25 : decode cX4_arePair 25 = .ok (.iconst 0, 1) := by decide +kernel
theorem dX4_arePair_26 : decode cX4_arePair 26 = .ok (.ireturn, 1) := by decide +kernel
theorem dX4_whoIsAt_0 : decode cX4_whoIsAt 0 = .ok (.iconst (-1), 1) := by decide +kernel
theorem dX4_whoIsAt_1 : decode cX4_whoIsAt 1 = .ok (.istore_n 2, 1) := by decide +kernel
theorem dX4_whoIsAt_2 : decode cX4_whoIsAt 2 = .ok (.iconst 0, 1) := by decide +kernel
theorem dX4_whoIsAt_3 : decode cX4_whoIsAt 3 = .ok (.istore_n 3, 1) := by decide +kernel
theorem dX4_whoIsAt_4 : decode cX4_whoIsAt 4 = .ok (.iload_n 3, 1) := by decide +kernel
theorem dX4_whoIsAt_5 : decode cX4_whoIsAt 5 = .ok (.aload_n 0, 1) := by decide +kernel
theorem dX4_whoIsAt_6 : decode cX4_whoIsAt 6 = .ok (.getfield 76, 3) := by decide +kernel
theorem dX4_whoIsAt_9 : decode cX4_whoIsAt 9 = .ok (.if_icmp .ge 29, 3) := by decide +kernel
theorem dX4_whoIsAt_12 : decode cX4_whoIsAt 12 = .ok (.aload_n 0, 1) := by decide +kernel
theorem dX4_whoIsAt_13 : decode cX4_whoIsAt 13 = .ok (.getfield 16, 3) := by decide +kernel
theorem dX4_whoIsAt_16 : decode cX4_whoIsAt 16 = .ok (.iconst 4, 1) := by decide +kernel
theorem dX4_whoIsAt_17 : decode cX4_whoIsAt 17 = .ok (.iload_n 3, 1) := by decide +kernel
theorem dX4_whoIsAt_18 : decode cX4_whoIsAt 18 = .ok (.imul, 1) := by decide +kernel
theorem dX4_whoIsAt_19 : decode cX4_whoIsAt 19 = .ok (.iconst 2, 1) := by decide +kernel
theorem dX4_whoIsAt_20 : decode cX4_whoIsAt 20 = .ok (.iadd, 1) := by decide +kernel
theorem dX4_whoIsAt_21 : decode cX4_whoIsAt 21 = .ok (.iaload, 1) := by decide +kernel
theorem dX4_whoIsAt_22 : decode cX4_whoIsAt 22 = .ok (.iload_n 1, 1) := by decide +kernel
theorem dX4_whoIsAt_23 : decode cX4_whoIsAt 23 = .ok (.if_icmp .ne 7, 3) := by decide +kernel
theorem dX4_whoIsAt_26 : decode cX4_whoIsAt 26 = .ok (.iload_n 3, 1) := by decide +kernel
theorem dX4_whoIsAt_27 : decode cX4_whoIsAt 27 = .ok (.goto 4, 3) := by decide +kernel
theorem dX4_whoIsAt_30 : decode cX4_whoIsAt 30 = .ok (.iload_n 2, 1) := by decide +kernel
theorem dX4_whoIsAt_31 : decode cX4_whoIsAt 31 = .ok (.istore_n 2, 1) := by decide +kernel
theorem dX4_whoIsAt_32 : decode cX4_whoIsAt 32 = .ok (.iinc 3 1, 3) := by decide +kernel
theorem dX4_whoIsAt_35 : decode cX4_whoIsAt 35 = .ok (.goto (-31), 3) := by decide +kernel
theorem dX4_whoIsAt_38 : decode cX4_whoIsAt 38 = .ok (.iload_n 2, 1) := by decide +kernel
theorem dX4_whoIsAt_39 : decode cX4_whoIsAt 39 = .ok (.ireturn, 1) := by decide +kernel
theorem dX4_place_0 : decode cX4_place 0 = .ok (.aload_n 0, 1) := by decide +kernel
theorem dX4_place_1 : decode cX4_place 1 = .ok (.getfield 63, 3) := by decide +kernel
theorem dX4_place_4 : decode cX4_place 4 = .ok (.ifCond .eq 15, 3) := by decide +kernel
theorem dX4_place_7 : decode cX4_place 7 = .ok (.iload_n 1, 1) := by decide +kernel
theorem dX4_place_8 : decode cX4_place 8 = .ok (.i2l, 1) := by decide +kernel
theorem dX4_place_9 : decode cX4_place 9 = .ok (.lconst 0, 1) := by decide +kernel
theorem dX4_place_10 : decode cX4_place 10 = .ok (.ldc2_w 95, 3) := by decide +kernel
theorem dX4_place_13 : decode cX4_place 13 = .ok (.invokestatic 52, 3) := by decide +kernel
theorem dX4_place_16 : decode cX4_place 16 = .ok (.ifCond .ne 6, 3) := by decide +kernel
theorem dX4_place_19 : decode cX4_place 19 = .ok (.bipush (-101), 2) := by decide +kernel
theorem dX4_place_21 : decode cX4_place 21 = .ok (.ireturn, 1) := by decide +kernel
theorem dX4_place_22 : decode cX4_place 22 = .ok (.iload_n 2, 1) := by decide +kernel
theorem dX4_place_23 : decode cX4_place 23 = .ok (.ifCond .ne 12, 3) := by decide +kernel
theorem dX4_place_26 : decode cX4_place 26 = .ok (.aload_n 0, 1) := by decide +kernel
theorem dX4_place_27 : decode cX4_place 27 = .ok (.getfield 13, 3) := by decide +kernel
theorem dX4_place_30 : decode cX4_place 30 = .ok (.iload_n 1, 1) := by decide +kernel
theorem dX4_place_31 : decode cX4_place 31 = .ok (.iaload, 1) := by decide +kernel
theorem dX4_place_32 : decode cX4_place 32 = .ok (.goto 18, 3) := by decide +kernel
theorem dX4_place_35 : decode cX4_place 35 = .ok (.iload_n 2, 1) := by decide +kernel
theorem dX4_place_36 : decode cX4_place 36 = .ok (.iconst 1, 1) := by decide +kernel
theorem dX4_place_37 : decode cX4_place 37 = .ok (.if_icmp .ne 11, 3) := by decide +kernel
theorem dX4_place_40 : decode cX4_place 40 = .ok (.aload_n 0, 1) := by decide +kernel
theorem dX4_place_41 : decode cX4_place 41 = .ok (.iload_n 1, 1) := by decide +kernel
theorem dX4_place_42 : decode cX4_place 42 = .ok (.invokevirtual 97, 3) := by decide +kernel
theorem dX4_place_45 : decode cX4_place 45 = .ok (.goto 5, 3) := by decide +kernel
theorem dX4_place_48 : decode cX4_place 48 = .ok (.bipush (-102), 2) := by decide +kernel
theorem dX4_place_50 : decode cX4_place 50 = .ok (.ireturn, 1) := by decide +kernel
theorem dX4_wind_0 : decode cX4_wind 0 = .ok (.iload_n 1, 1) := by decide +kernel
theorem dX4_wind_1 : decode cX4_wind 1 = .ok (.i2l, 1) := by decide +kernel
theorem dX4_wind_2 : decode cX4_wind 2 = .ok (.ldc2_w 101, 3) := by decide +kernel
theorem dX4_wind_5 : decode cX4_wind 5 = .ok (.lconst 1, 1) := by decide +kernel
theorem dX4_wind_6 : decode cX4_wind 6 = .ok (.invokestatic 52, 3) := by decide +kernel
theorem dX4_wind_9 : decode cX4_wind 9 = .ok (.ifCond .ne 6, 3) := by decide +kernel
theorem dX4_wind_12 : decode cX4_wind 12 = .ok (.bipush (-102), 2) := by decide +kernel
theorem dX4_wind_14 : decode cX4_wind 14 = .ok (.ireturn, 1) := by decide +kernel
theorem dX4_wind_15 : decode cX4_wind 15 = .ok (.aload_n 0, 1) := by decide +kernel
theorem dX4_wind_16 : decode cX4_wind 16 = .ok (.getfield 63, 3) := by decide +kernel
theorem dX4_wind_19 : decode cX4_wind 19 = .ok (.ifCond .ne 6, 3) := by decide +kernel
theorem dX4_wind_22 : decode cX4_wind 22 = .ok (.bipush (-103), 2) := by decide +kernel
theorem dX4_wind_24 : decode cX4_wind 24 = .ok (.ireturn, 1) := by decide +kernel
theorem dX4_wind_25 : decode cX4_wind 25 = .ok (.aload_n 0, 1) := by decide +kernel
theorem dX4_wind_26 : decode cX4_wind 26 = .ok (.getfield 67, 3) := by decide +kernel
theorem dX4_wind_29 : decode cX4_wind 29 = .ok (.istore_n 2, 1) := by decide +kernel
theorem dX4_wind_30 : decode cX4_wind 30 = .ok (.aload_n 0, 1) := by decide +kernel
theorem dX4_wind_31 : decode cX4_wind 31 = .ok (.iload_n 1, 1) := by decide +kernel
theorem dX4_wind_32 : decode cX4_wind 32 = .ok (.putfield 67, 3) := by decide +kernel
theorem dX4_wind_35 : decode cX4_wind 35 = .ok (.iload_n 2, 1) := by decide +kernel
theorem dX4_wind_36 : decode cX4_wind 36 = .ok (.iconst 1, 1) := by decide +kernel
theorem dX4_wind_37 : decode cX4_wind 37 = .ok (.iadd, 1) := by decide +kernel
theorem dX4_wind_38 : decode cX4_wind 38 = .ok (.ireturn, 1) := by decide +kernel
theorem dX4_island_0 : decode cX4_island 0 = .ok (.iload_n 1, 1) := by decide +kernel
theorem dX4_island_1 : decode cX4_island 1 = .ok (.i2l, 1) := by decide +kernel
theorem dX4_island_2 : decode cX4_island 2 = .ok (.lconst 0, 1) := by decide +kernel
theorem dX4_island_3 : decode cX4_island 3 = .ok (.ldc2_w 103, 3) := by decide +kernel
theorem dX4_island_6 : decode cX4_island 6 = .ok (.invokestatic 52, 3) := by decide +kernel
theorem dX4_island_9 : decode cX4_island 9 = .ok (.ifCond .eq 15, 3) := by decide +kernel
theorem dX4_island_12 : decode cX4_island 12 = .ok (.iload_n 2, 1) := by decide +kernel
theorem dX4_island_13 : decode cX4_island 13 = .ok (.i2l, 1) := by decide +kernel
theorem dX4_island_14 : decode cX4_island 14 = .ok (.lconst 1, 1) := by decide +kernel
theorem dX4_island_15 : decode cX4_island 15 = .ok (.ldc2_w 105, 3) := by decide +kernel
theorem dX4_island_18 : decode cX4_island 18 = .ok (.invokestatic 52, 3) := by decide +kernel
theorem dX4_island_21 : decode cX4_island 21 = .ok (.ifCond .ne 6, 3) := by decide +kernel
theorem dX4_island_24 : decode cX4_island 24 = .ok (.bipush (-102), 2) := by decide +kernel
theorem dX4_island_26 : decode cX4_island 26 = .ok (.ireturn, 1) := by decide +kernel
theorem dX4_island_27 : decode cX4_island 27 = .ok (.aload_n 0, 1) := by decide +kernel
theorem dX4_island_28 : decode cX4_island 28 = .ok (.getfield 63, 3) := by decide +kernel
theorem dX4_island_31 : decode cX4_island 31 = .ok (.ifCond .eq 15, 3) := by decide +kernel
theorem dX4_island_34 : decode cX4_island 34 = .ok (.iload_n 3, 1) := by decide +kernel
theorem dX4_island_35 : decode cX4_island 35 = .ok (.i2l, 1) := by decide +kernel
theorem dX4_island_36 : decode cX4_island 36 = .ok (.lconst 0, 1) := by decide +kernel
theorem dX4_island_37 : decode cX4_island 37 = .ok (.ldc2_w 95, 3) := by decide +kernel
theorem dX4_island_40 : decode cX4_island 40 = .ok (.invokestatic 52, 3) := by decide +kernel
theorem dX4_island_43 : decode cX4_island 43 = .ok (.ifCond .ne 6, 3) := by decide +kernel
theorem dX4_island_46 : decode cX4_island 46 = .ok (.bipush (-101), 2) := by decide +kernel
theorem dX4_island_48 : decode cX4_island 48 = .ok (.ireturn, 1) := by decide +kernel
theorem dX4_island_49 : decode cX4_island 49 = .ok (.aload_n 0, 1) := by decide +kernel
theorem dX4_island_50 : decode cX4_island 50 = .ok (.iload_n 3, 1) := by decide +kernel
theorem dX4_island_51 : decode cX4_island 51 = .ok (.invokevirtual 97, 3) := by decide +kernel
theorem dX4_island_54 : decode cX4_island 54 = .ok (.iconst (-1), 1) := by decide +kernel
theorem dX4_island_55 : decode cX4_island 55 = .ok (.if_icmp .eq 6, 3) := by decide +kernel
theorem dX4_island_58 : decode cX4_island 58 = .ok (.bipush (-103), 2) := by decide +kernel
theorem dX4_island_60 : decode cX4_island 60 = .ok (.ireturn, 1) := by decide +kernel
theorem dX4_island_61 : decode cX4_island 61 = .ok (.aload_n 0, 1) := by decide +kernel
theorem dX4_island_62 : decode cX4_island 62 = .ok (.getfield 76, 3) := by decide +kernel
theorem dX4_island_65 : decode cX4_island 65 = .ok (.iconst 5, 1) := by decide +kernel
theorem dX4_island_66 : decode cX4_island 66 = .ok (.if_icmp .ne 6, 3) := by decide +kernel
theorem dX4_island_69 : decode cX4_island 69 = .ok (.bipush (-104), 2) := by decide +kernel
theorem dX4_island_71 : decode cX4_island 71 = .ok (.ireturn, 1) := by decide +kernel
theorem dX4_island_72 : decode cX4_island 72 = .ok (.aload_n 0, 1) := by decide +kernel
theorem dX4_island_73 : decode cX4_island 73 = .ok (.getfield 16, 3) := by decide +kernel
theorem dX4_island_76 : decode cX4_island 76 = .ok (.iconst 4, 1) := by decide +kernel
theorem dX4_island_77 : decode cX4_island 77 = .ok (.aload_n 0, 1) := by decide +kernel
theorem dX4_island_78 : decode cX4_island 78 = .ok (.getfield 76, 3) := by decide +kernel
theorem dX4_island_81 : decode cX4_island 81 = .ok (.imul, 1) := by decide +kernel
theorem dX4_island_82 : decode cX4_island 82 = .ok (.iload_n 1, 1) := by decide +kernel
theorem dX4_island_83 : decode cX4_island 83 = .ok (.iastore, 1) := by decide +kernel
theorem dX4_island_84 : decode cX4_island 84 = .ok (.aload_n 0, 1) := by decide +kernel
theorem dX4_island_85 : decode cX4_island 85 = .ok (.getfield 16, 3) := by decide +kernel
theorem dX4_island_88 : decode cX4_island 88 = .ok (.iconst 4, 1) := by decide +kernel
theorem dX4_island_89 : decode cX4_island 89 = .ok (.aload_n 0, 1) := by decide +kernel
theorem dX4_island_90 : decode cX4_island 90 = .ok (.getfield 76, 3) := by decide +kernel
theorem dX4_island_93 : decode cX4_island 93 = .ok (.imul, 1) := by decide +kernel
theorem dX4_island_94 : decode cX4_island 94 = .ok (.iconst 1, 1) := by decide +kernel
theorem dX4_island_95 : decode cX4_island 95 = .ok (.iadd, 1) := by decide +kernel
theorem dX4_island_96 : decode cX4_island 96 = .ok (.iload_n 2, 1) := by decide +kernel
theorem dX4_island_97 : decode cX4_island 97 = .ok (.iastore, 1) := by decide +kernel
theorem dX4_island_98 : decode cX4_island 98 = .ok (.aload_n 0, 1) := by decide +kernel
theorem dX4_island_99 : decode cX4_island 99 = .ok (.getfield 16, 3) := by decide +kernel
theorem dX4_island_102 : decode cX4_island 102 = .ok (.iconst 4, 1) := by decide +kernel
theorem dX4_island_103 : decode cX4_island 103 = .ok (.aload_n 0, 1) := by decide +kernel
theorem dX4_island_104 : decode cX4_island 104 = .ok (.getfield 76, 3) := by decide +kernel
theorem dX4_island_107 : decode cX4_island 107 = .ok (.imul, 1) := by decide +kernel
theorem dX4_island_108 : decode cX4_island 108 = .ok (.iconst 2, 1) := by decide +kernel
theorem dX4_island_109 : decode cX4_island 109 = .ok (.iadd, 1) := by decide +kernel
theorem dX4_island_110 : decode cX4_island 110 = .ok (.iload_n 3, 1) := by decide +kernel
theorem dX4_island_111 : decode cX4_island 111 = .ok (.iastore, 1) := by decide +kernel
theorem dX4_island_112 : decode cX4_island 112 = .ok (.aload_n 0, 1) := by decide +kernel
theorem dX4_island_113 : decode cX4_island 113 = .ok (.getfield 16, 3) := by decide +kernel
theorem dX4_island_116 : decode cX4_island 116 = .ok (.iconst 4, 1) := by decide +kernel
theorem dX4_island_117 : decode cX4_island 117 = .ok (.aload_n 0, 1) := by decide +kernel
theorem dX4_island_118 : decode cX4_island 118 = .ok (.getfield 76, 3) := by decide +kernel
theorem dX4_island_121 : decode cX4_island 121 = .ok (.imul, 1) := by decide +kernel
theorem dX4_island_122 : decode cX4_island 122 = .ok (.iconst 3, 1) := by decide +kernel
theorem dX4_island_123 : decode cX4_island 123 = .ok (.iadd, 1) := by decide +kernel
theorem dX4_island_124 : decode cX4_island 124 = .ok (.iconst 0, 1) := by decide +kernel
theorem dX4_island_125 : decode cX4_island 125 = .ok (.iastore, 1) := by decide +kernel
theorem dX4_island_126 : decode cX4_island 126 = .ok (.aload_n 0, 1) := by decide +kernel
theorem dX4_island_127 : decode cX4_island 127 = .ok (.dup, 1) := by decide +kernel
theorem dX4_island_128 : decode cX4_island 128 = .ok (.getfield 76, 3) := by decide +kernel
theorem dX4_island_131 : decode cX4_island 131 = .ok (.iconst 1, 1) := by decide +kernel
theorem dX4_island_132 : decode cX4_island 132 = .ok (.iadd, 1) := by decide +kernel
theorem dX4_island_133 : decode cX4_island 133 = .ok (.putfield 76, 3) := by decide +kernel
theorem dX4_island_136 : decode cX4_island 136 = .ok (.aload_n 0, 1) := by decide +kernel
theorem dX4_island_137 : decode cX4_island 137 = .ok (.getfield 76, 3) := by decide +kernel
theorem dX4_island_140 : decode cX4_island 140 = .ok (.iconst 1, 1) := by decide +kernel
theorem dX4_island_141 : decode cX4_island 141 = .ok (.isub, 1) := by decide +kernel
theorem dX4_island_142 : decode cX4_island 142 = .ok (.ireturn, 1) := by decide +kernel
theorem dX4_asItIs_0 : decode cX4_asItIs 0 = .ok (.aload_n 0, 1) := by decide +kernel
theorem dX4_asItIs_1 : decode cX4_asItIs 1 = .ok (.iconst 0, 1) := by decide +kernel
theorem dX4_asItIs_2 : decode cX4_asItIs 2 = .ok (.putfield 107, 3) := by decide +kernel
theorem dX4_asItIs_5 : decode cX4_asItIs 5 = .ok (.iconst 0, 1) := by decide +kernel
theorem dX4_asItIs_6 : decode cX4_asItIs 6 = .ok (.istore_n 1, 1) := by decide +kernel
theorem dX4_asItIs_7 : decode cX4_asItIs 7 = .ok (.iload_n 1, 1) := by decide +kernel
theorem dX4_asItIs_8 : decode cX4_asItIs 8 = .ok (.aload_n 0, 1) := by decide +kernel
theorem dX4_asItIs_9 : decode cX4_asItIs 9 = .ok (.getfield 76, 3) := by decide +kernel
theorem dX4_asItIs_12 : decode cX4_asItIs 12 = .ok (.if_icmp .ge 46, 3) := by decide +kernel
theorem dX4_asItIs_15 : decode cX4_asItIs 15 = .ok (.aload_n 0, 1) := by decide +kernel
theorem dX4_asItIs_16 : decode cX4_asItIs 16 = .ok (.getfield 22, 3) := by decide +kernel
theorem dX4_asItIs_19 : decode cX4_asItIs 19 = .ok (.iload_n 1, 1) := by decide +kernel
theorem dX4_asItIs_20 : decode cX4_asItIs 20 = .ok (.aload_n 0, 1) := by decide +kernel
theorem dX4_asItIs_21 : decode cX4_asItIs 21 = .ok (.getfield 16, 3) := by decide +kernel
theorem dX4_asItIs_24 : decode cX4_asItIs 24 = .ok (.iconst 4, 1) := by decide +kernel
theorem dX4_asItIs_25 : decode cX4_asItIs 25 = .ok (.iload_n 1, 1) := by decide +kernel
theorem dX4_asItIs_26 : decode cX4_asItIs 26 = .ok (.imul, 1) := by decide +kernel
theorem dX4_asItIs_27 : decode cX4_asItIs 27 = .ok (.iconst 2, 1) := by decide +kernel
theorem dX4_asItIs_28 : decode cX4_asItIs 28 = .ok (.iadd, 1) := by decide +kernel
theorem dX4_asItIs_29 : decode cX4_asItIs 29 = .ok (.iaload, 1) := by decide +kernel
theorem dX4_asItIs_30 : decode cX4_asItIs 30 = .ok (.iastore, 1) := by decide +kernel
theorem dX4_asItIs_31 : decode cX4_asItIs 31 = .ok (.aload_n 0, 1) := by decide +kernel
theorem dX4_asItIs_32 : decode cX4_asItIs 32 = .ok (.dup, 1) := by decide +kernel
theorem dX4_asItIs_33 : decode cX4_asItIs 33 = .ok (.getfield 107, 3) := by decide +kernel
theorem dX4_asItIs_36 : decode cX4_asItIs 36 = .ok (.aload_n 0, 1) := by decide +kernel
theorem dX4_asItIs_37 : decode cX4_asItIs 37 = .ok (.getfield 16, 3) := by decide +kernel
theorem dX4_asItIs_40 : decode cX4_asItIs 40 = .ok (.iconst 4, 1) := by decide +kernel
theorem dX4_asItIs_41 : decode cX4_asItIs 41 = .ok (.iload_n 1, 1) := by decide +kernel
theorem dX4_asItIs_42 : decode cX4_asItIs 42 = .ok (.imul, 1) := by decide +kernel
theorem dX4_asItIs_43 : decode cX4_asItIs 43 = .ok (.iconst 3, 1) := by decide +kernel
theorem dX4_asItIs_44 : decode cX4_asItIs 44 = .ok (.iadd, 1) := by decide +kernel
theorem dX4_asItIs_45 : decode cX4_asItIs 45 = .ok (.iaload, 1) := by decide +kernel
theorem dX4_asItIs_46 : decode cX4_asItIs 46 = .ok (.iload_n 1, 1) := by decide +kernel
theorem dX4_asItIs_47 : decode cX4_asItIs 47 = .ok (.ishl, 1) := by decide +kernel
theorem dX4_asItIs_48 : decode cX4_asItIs 48 = .ok (.ior, 1) := by decide +kernel
theorem dX4_asItIs_49 : decode cX4_asItIs 49 = .ok (.putfield 107, 3) := by decide +kernel
theorem dX4_asItIs_52 : decode cX4_asItIs 52 = .ok (.iinc 1 1, 3) := by decide +kernel
theorem dX4_asItIs_55 : decode cX4_asItIs 55 = .ok (.goto (-48), 3) := by decide +kernel
theorem dX4_asItIs_58 : decode cX4_asItIs 58 = .ok (.aload_n 0, 1) := by decide +kernel
theorem dX4_asItIs_59 : decode cX4_asItIs 59 = .ok (.aload_n 0, 1) := by decide +kernel
theorem dX4_asItIs_60 : decode cX4_asItIs 60 = .ok (.getfield 67, 3) := by decide +kernel
theorem dX4_asItIs_63 : decode cX4_asItIs 63 = .ok (.putfield 110, 3) := by decide +kernel
theorem dX4_asItIs_66 : decode cX4_asItIs 66 = .ok (.aload_n 0, 1) := by decide +kernel
theorem dX4_asItIs_67 : decode cX4_asItIs 67 = .ok (.aload_n 0, 1) := by decide +kernel
theorem dX4_asItIs_68 : decode cX4_asItIs 68 = .ok (.getfield 70, 3) := by decide +kernel
theorem dX4_asItIs_71 : decode cX4_asItIs 71 = .ok (.putfield 113, 3) := by decide +kernel
theorem dX4_asItIs_74 : decode cX4_asItIs 74 = .ok (.return_, 1) := by decide +kernel
theorem dX4_pushOf_0 : decode cX4_pushOf 0 = .ok (.aload_n 0, 1) := by decide +kernel
theorem dX4_pushOf_1 : decode cX4_pushOf 1 = .ok (.getfield 13, 3) := by decide +kernel
theorem dX4_pushOf_4 : decode cX4_pushOf 4 = .ok (.aload_n 0, 1) := by decide +kernel
theorem dX4_pushOf_5 : decode cX4_pushOf 5 = .ok (.getfield 22, 3) := by decide +kernel
theorem dX4_pushOf_8 : decode cX4_pushOf 8 = .ok (.iload_n 1, 1) := by decide +kernel
theorem dX4_pushOf_9 : decode cX4_pushOf 9 = .ok (.iaload, 1) := by decide +kernel
theorem dX4_pushOf_10 : decode cX4_pushOf 10 = .ok (.iaload, 1) := by decide +kernel
theorem dX4_pushOf_11 : decode cX4_pushOf 11 = .ok (.istore_n 2, 1) := by decide +kernel
theorem dX4_pushOf_12 : decode cX4_pushOf 12 = .ok (.aload_n 0, 1) := by decide +kernel
theorem dX4_pushOf_13 : decode cX4_pushOf 13 = .ok (.getfield 107, 3) := by decide +kernel
theorem dX4_pushOf_16 : decode cX4_pushOf 16 = .ok (.iload_n 1, 1) := by decide +kernel
theorem dX4_pushOf_17 : decode cX4_pushOf 17 = .ok (.ishr, 1) := by decide +kernel
theorem dX4_pushOf_18 : decode cX4_pushOf 18 = .ok (.iconst 1, 1) := by decide +kernel
theorem dX4_pushOf_19 : decode cX4_pushOf 19 = .ok (.iand, 1) := by decide +kernel
theorem dX4_pushOf_20 : decode cX4_pushOf 20 = .ok (.iconst 1, 1) := by decide +kernel
theorem dX4_pushOf_21 : decode cX4_pushOf 21 = .ok (.if_icmp .ne 5, 3) := by decide +kernel
theorem dX4_pushOf_24 : decode cX4_pushOf 24 = .ok (.iconst 0, 1) := by decide +kernel
theorem dX4_pushOf_25 : decode cX4_pushOf 25 = .ok (.ireturn, 1) := by decide +kernel
theorem dX4_pushOf_26 : decode cX4_pushOf 26 = .ok (.aload_n 0, 1) := by decide +kernel
theorem dX4_pushOf_27 : decode cX4_pushOf 27 = .ok (.getfield 16, 3) := by decide +kernel
theorem dX4_pushOf_30 : decode cX4_pushOf 30 = .ok (.iconst 4, 1) := by decide +kernel
theorem dX4_pushOf_31 : decode cX4_pushOf 31 = .ok (.iload_n 1, 1) := by decide +kernel
theorem dX4_pushOf_32 : decode cX4_pushOf 32 = .ok (.imul, 1) := by decide +kernel
theorem dX4_pushOf_33 : decode cX4_pushOf 33 = .ok (.iaload, 1) := by decide +kernel
theorem dX4_pushOf_34 : decode cX4_pushOf 34 = .ok (.tableswitch 57 0 3 #[30, 32, 34, 41], 30) := by decide +kernel
theorem dX4_pushOf_64 : decode cX4_pushOf 64 = .ok (.iload_n 2, 1) := by decide +kernel
theorem dX4_pushOf_65 : decode cX4_pushOf 65 = .ok (.ireturn, 1) := by decide +kernel
theorem dX4_pushOf_66 : decode cX4_pushOf 66 = .ok (.iconst 0, 1) := by decide +kernel
theorem dX4_pushOf_67 : decode cX4_pushOf 67 = .ok (.ireturn, 1) := by decide +kernel
theorem dX4_pushOf_68 : decode cX4_pushOf 68 = .ok (.iload_n 2, 1) := by decide +kernel
theorem dX4_pushOf_69 : decode cX4_pushOf 69 = .ok (.aload_n 0, 1) := by decide +kernel
theorem dX4_pushOf_70 : decode cX4_pushOf 70 = .ok (.getfield 110, 3) := by decide +kernel
theorem dX4_pushOf_73 : decode cX4_pushOf 73 = .ok (.iadd, 1) := by decide +kernel
theorem dX4_pushOf_74 : decode cX4_pushOf 74 = .ok (.ireturn, 1) := by decide +kernel
theorem dX4_pushOf_75 : decode cX4_pushOf 75 = .ok (.aload_n 0, 1) := by decide +kernel
theorem dX4_pushOf_76 : decode cX4_pushOf 76 = .ok (.getfield 113, 3) := by decide +kernel
theorem dX4_pushOf_79 : decode cX4_pushOf 79 = .ok (.iconst 2, 1) := by decide +kernel
theorem dX4_pushOf_80 : decode cX4_pushOf 80 = .ok (.irem, 1) := by decide +kernel
theorem dX4_pushOf_81 : decode cX4_pushOf 81 = .ok (.ifCond .ne 8, 3) := by decide +kernel
theorem dX4_pushOf_84 : decode cX4_pushOf 84 = .ok (.iload_n 2, 1) := by decide +kernel
theorem dX4_pushOf_85 : decode cX4_pushOf 85 = .ok (.ineg, 1) := by decide +kernel
theorem dX4_pushOf_86 : decode cX4_pushOf 86 = .ok (.goto 4, 3) := by decide +kernel
theorem dX4_pushOf_89 : decode cX4_pushOf 89 = .ok (.iload_n 2, 1) := by decide +kernel
theorem dX4_pushOf_90 : decode cX4_pushOf 90 = .ok (.ireturn, 1) := by decide +kernel
theorem dX4_pushOf_91 : decode cX4_pushOf 91 = .ok (.iload_n 2, 1) := by decide +kernel
theorem dX4_pushOf_92 : decode cX4_pushOf 92 = .ok (.iconst 2, 1) := by decide +kernel
theorem dX4_pushOf_93 : decode cX4_pushOf 93 = .ok (.aload_n 0, 1) := by decide +kernel
theorem dX4_pushOf_94 : decode cX4_pushOf 94 = .ok (.getfield 110, 3) := by decide +kernel
theorem dX4_pushOf_97 : decode cX4_pushOf 97 = .ok (.imul, 1) := by decide +kernel
theorem dX4_pushOf_98 : decode cX4_pushOf 98 = .ok (.iadd, 1) := by decide +kernel
theorem dX4_pushOf_99 : decode cX4_pushOf 99 = .ok (.ireturn, 1) := by decide +kernel
theorem dX4_areBeside_0 : decode cX4_areBeside 0 = .ok (.iload_n 0, 1) := by decide +kernel
theorem dX4_areBeside_1 : decode cX4_areBeside 1 = .ok (.iconst 1, 1) := by decide +kernel
theorem dX4_areBeside_2 : decode cX4_areBeside 2 = .ok (.iadd, 1) := by decide +kernel
theorem dX4_areBeside_3 : decode cX4_areBeside 3 = .ok (.bipush 12, 2) := by decide +kernel
theorem dX4_areBeside_5 : decode cX4_areBeside 5 = .ok (.irem, 1) := by decide +kernel
theorem dX4_areBeside_6 : decode cX4_areBeside 6 = .ok (.iload_n 1, 1) := by decide +kernel
theorem dX4_areBeside_7 : decode cX4_areBeside 7 = .ok (.if_icmp .eq 13, 3) := by decide +kernel
theorem dX4_areBeside_10 : decode cX4_areBeside 10 = .ok (.iload_n 1, 1) := by decide +kernel
theorem dX4_areBeside_11 : decode cX4_areBeside 11 = .ok (.iconst 1, 1) := by decide +kernel
theorem dX4_areBeside_12 : decode cX4_areBeside 12 = .ok (.iadd, 1) := by decide +kernel
theorem dX4_areBeside_13 : decode cX4_areBeside 13 = .ok (.bipush 12, 2) := by decide +kernel
theorem dX4_areBeside_15 : decode cX4_areBeside 15 = .ok (.irem, 1) := by decide +kernel
theorem dX4_areBeside_16 : decode cX4_areBeside 16 = .ok (.iload_n 0, 1) := by decide +kernel
theorem dX4_areBeside_17 : decode cX4_areBeside 17 = .ok (.if_icmp .ne 7, 3) := by decide +kernel
theorem dX4_areBeside_20 : decode cX4_areBeside 20 = .ok (.iconst 1, 1) := by decide +kernel
theorem dX4_areBeside_21 : decode cX4_areBeside 21 = .ok (.goto 4, 3) := by decide +kernel
theorem dX4_areBeside_24 : decode cX4_areBeside 24 = .ok (.iconst 0, 1) := by decide +kernel
theorem dX4_areBeside_25 : decode cX4_areBeside 25 = .ok (.ireturn, 1) := by decide +kernel
theorem dX4_areRoped_0 : decode cX4_areRoped 0 = .ok (.iconst 0, 1) := by decide +kernel
theorem dX4_areRoped_1 : decode cX4_areRoped 1 = .ok (.istore_n 3, 1) := by decide +kernel
theorem dX4_areRoped_2 : decode cX4_areRoped 2 = .ok (.iconst 0, 1) := by decide +kernel
theorem dX4_areRoped_3 : decode cX4_areRoped 3 = .ok (.istore 4, 2) := by decide +kernel
theorem dX4_areRoped_5 : decode cX4_areRoped 5 = .ok (.iload 4, 2) := by decide +kernel
theorem dX4_areRoped_7 : decode cX4_areRoped 7 = .ok (.aload_n 0, 1) := by decide +kernel
theorem dX4_areRoped_8 : decode cX4_areRoped 8 = .ok (.getfield 79, 3) := by decide +kernel
theorem dX4_areRoped_11 : decode cX4_areRoped 11 = .ok (.if_icmp .ge 75, 3) := by decide +kernel
theorem dX4_areRoped_14 : decode cX4_areRoped 14 = .ok (.iload_n 3, 1) := by decide +kernel
theorem dX4_areRoped_15 : decode cX4_areRoped 15 = .ok (.ifCond .ne 59, 3) := by decide +kernel
theorem dX4_areRoped_18 : decode cX4_areRoped 18 = .ok (.aload_n 0, 1) := by decide +kernel
theorem dX4_areRoped_19 : decode cX4_areRoped 19 = .ok (.getfield 19, 3) := by decide +kernel
theorem dX4_areRoped_22 : decode cX4_areRoped 22 = .ok (.iconst 2, 1) := by decide +kernel
theorem dX4_areRoped_23 : decode cX4_areRoped 23 = .ok (.iload 4, 2) := by decide +kernel
theorem dX4_areRoped_25 : decode cX4_areRoped 25 = .ok (.imul, 1) := by decide +kernel
theorem dX4_areRoped_26 : decode cX4_areRoped 26 = .ok (.iaload, 1) := by decide +kernel
theorem dX4_areRoped_27 : decode cX4_areRoped 27 = .ok (.iload_n 1, 1) := by decide +kernel
theorem dX4_areRoped_28 : decode cX4_areRoped 28 = .ok (.if_icmp .ne 18, 3) := by decide +kernel
theorem dX4_areRoped_31 : decode cX4_areRoped 31 = .ok (.aload_n 0, 1) := by decide +kernel
theorem dX4_areRoped_32 : decode cX4_areRoped 32 = .ok (.getfield 19, 3) := by decide +kernel
theorem dX4_areRoped_35 : decode cX4_areRoped 35 = .ok (.iconst 2, 1) := by decide +kernel
theorem dX4_areRoped_36 : decode cX4_areRoped 36 = .ok (.iload 4, 2) := by decide +kernel
theorem dX4_areRoped_38 : decode cX4_areRoped 38 = .ok (.imul, 1) := by decide +kernel
theorem dX4_areRoped_39 : decode cX4_areRoped 39 = .ok (.iconst 1, 1) := by decide +kernel
theorem dX4_areRoped_40 : decode cX4_areRoped 40 = .ok (.iadd, 1) := by decide +kernel
theorem dX4_areRoped_41 : decode cX4_areRoped 41 = .ok (.iaload, 1) := by decide +kernel
theorem dX4_areRoped_42 : decode cX4_areRoped 42 = .ok (.iload_n 2, 1) := by decide +kernel
theorem dX4_areRoped_43 : decode cX4_areRoped 43 = .ok (.if_icmp .eq 31, 3) := by decide +kernel
theorem dX4_areRoped_46 : decode cX4_areRoped 46 = .ok (.aload_n 0, 1) := by decide +kernel
theorem dX4_areRoped_47 : decode cX4_areRoped 47 = .ok (.getfield 19, 3) := by decide +kernel
theorem dX4_areRoped_50 : decode cX4_areRoped 50 = .ok (.iconst 2, 1) := by decide +kernel
theorem dX4_areRoped_51 : decode cX4_areRoped 51 = .ok (.iload 4, 2) := by decide +kernel
theorem dX4_areRoped_53 : decode cX4_areRoped 53 = .ok (.imul, 1) := by decide +kernel
theorem dX4_areRoped_54 : decode cX4_areRoped 54 = .ok (.iaload, 1) := by decide +kernel
theorem dX4_areRoped_55 : decode cX4_areRoped 55 = .ok (.iload_n 2, 1) := by decide +kernel
theorem dX4_areRoped_56 : decode cX4_areRoped 56 = .ok (.if_icmp .ne 22, 3) := by decide +kernel
theorem dX4_areRoped_59 : decode cX4_areRoped 59 = .ok (.aload_n 0, 1) := by decide +kernel
theorem dX4_areRoped_60 : decode cX4_areRoped 60 = .ok (.getfield 19, 3) := by decide +kernel
theorem dX4_areRoped_63 : decode cX4_areRoped 63 = .ok (.iconst 2, 1) := by decide +kernel
theorem dX4_areRoped_64 : decode cX4_areRoped 64 = .ok (.iload 4, 2) := by decide +kernel
theorem dX4_areRoped_66 : decode cX4_areRoped 66 = .ok (.imul, 1) := by decide +kernel
theorem dX4_areRoped_67 : decode cX4_areRoped 67 = .ok (.iconst 1, 1) := by decide +kernel
theorem dX4_areRoped_68 : decode cX4_areRoped 68 = .ok (.iadd, 1) := by decide +kernel
theorem dX4_areRoped_69 : decode cX4_areRoped 69 = .ok (.iaload, 1) := by decide +kernel
theorem dX4_areRoped_70 : decode cX4_areRoped 70 = .ok (.iload_n 1, 1) := by decide +kernel
theorem dX4_areRoped_71 : decode cX4_areRoped 71 = .ok (.if_icmp .ne 7, 3) := by decide +kernel
theorem dX4_areRoped_74 : decode cX4_areRoped 74 = .ok (.iconst 1, 1) := by decide +kernel
theorem dX4_areRoped_75 : decode cX4_areRoped 75 = .ok (.goto 4, 3) := by decide +kernel
theorem dX4_areRoped_78 : decode cX4_areRoped 78 = .ok (.iconst 0, 1) := by decide +kernel
theorem dX4_areRoped_79 : decode cX4_areRoped 79 = .ok (.istore_n 3, 1) := by decide +kernel
theorem dX4_areRoped_80 : decode cX4_areRoped 80 = .ok (.iinc 4 1, 3) := by decide +kernel
theorem dX4_areRoped_83 : decode cX4_areRoped 83 = .ok (.goto (-78), 3) := by decide +kernel
theorem dX4_areRoped_86 : decode cX4_areRoped 86 = .ok (.iload_n 3, 1) := by decide +kernel
theorem dX4_areRoped_87 : decode cX4_areRoped 87 = .ok (.ireturn, 1) := by decide +kernel
theorem dX4_partyBy_0 : decode cX4_partyBy 0 = .ok (.iconst 1, 1) := by decide +kernel
theorem dX4_partyBy_1 : decode cX4_partyBy 1 = .ok (.iload_n 1, 1) := by decide +kernel
theorem dX4_partyBy_2 : decode cX4_partyBy 2 = .ok (.ishl, 1) := by decide +kernel
theorem dX4_partyBy_3 : decode cX4_partyBy 3 = .ok (.istore_n 3, 1) := by decide +kernel
theorem dX4_partyBy_4 : decode cX4_partyBy 4 = .ok (.iconst 0, 1) := by decide +kernel
theorem dX4_partyBy_5 : decode cX4_partyBy 5 = .ok (.istore 4, 2) := by decide +kernel
theorem dX4_partyBy_7 : decode cX4_partyBy 7 = .ok (.iload 4, 2) := by decide +kernel
theorem dX4_partyBy_9 : decode cX4_partyBy 9 = .ok (.iconst 5, 1) := by decide +kernel
theorem dX4_partyBy_10 : decode cX4_partyBy 10 = .ok (.if_icmp .ge 80, 3) := by decide +kernel
theorem dX4_partyBy_13 : decode cX4_partyBy 13 = .ok (.iconst 0, 1) := by decide +kernel
theorem dX4_partyBy_14 : decode cX4_partyBy 14 = .ok (.istore 5, 2) := by decide +kernel
theorem dX4_partyBy_16 : decode cX4_partyBy 16 = .ok (.iload 5, 2) := by decide +kernel
theorem dX4_partyBy_18 : decode cX4_partyBy 18 = .ok (.aload_n 0, 1) := by decide +kernel
theorem dX4_partyBy_19 : decode cX4_partyBy 19 = .ok (.getfield 79, 3) := by decide +kernel
theorem dX4_partyBy_22 : decode cX4_partyBy 22 = .ok (.if_icmp .ge 62, 3) := by decide +kernel
theorem dX4_partyBy_25 : decode cX4_partyBy 25 = .ok (.iconst 1, 1) := by decide +kernel
theorem dX4_partyBy_26 : decode cX4_partyBy 26 = .ok (.aload_n 0, 1) := by decide +kernel
theorem dX4_partyBy_27 : decode cX4_partyBy 27 = .ok (.getfield 19, 3) := by decide +kernel
theorem dX4_partyBy_30 : decode cX4_partyBy 30 = .ok (.iconst 2, 1) := by decide +kernel
theorem dX4_partyBy_31 : decode cX4_partyBy 31 = .ok (.iload 5, 2) := by decide +kernel
theorem dX4_partyBy_33 : decode cX4_partyBy 33 = .ok (.imul, 1) := by decide +kernel
theorem dX4_partyBy_34 : decode cX4_partyBy 34 = .ok (.iaload, 1) := by decide +kernel
theorem dX4_partyBy_35 : decode cX4_partyBy 35 = .ok (.ishl, 1) := by decide +kernel
theorem dX4_partyBy_36 : decode cX4_partyBy 36 = .ok (.iconst 1, 1) := by decide +kernel
theorem dX4_partyBy_37 : decode cX4_partyBy 37 = .ok (.aload_n 0, 1) := by decide +kernel
theorem dX4_partyBy_38 : decode cX4_partyBy 38 = .ok (.getfield 19, 3) := by decide +kernel
theorem dX4_partyBy_41 : decode cX4_partyBy 41 = .ok (.iconst 2, 1) := by decide +kernel
theorem dX4_partyBy_42 : decode cX4_partyBy 42 = .ok (.iload 5, 2) := by decide +kernel
theorem dX4_partyBy_44 : decode cX4_partyBy 44 = .ok (.imul, 1) := by decide +kernel
theorem dX4_partyBy_45 : decode cX4_partyBy 45 = .ok (.iconst 1, 1) := by decide +kernel
theorem dX4_partyBy_46 : decode cX4_partyBy 46 = .ok (.iadd, 1) := by decide +kernel
theorem dX4_partyBy_47 : decode cX4_partyBy 47 = .ok (.iaload, 1) := by decide +kernel
theorem dX4_partyBy_48 : decode cX4_partyBy 48 = .ok (.ishl, 1) := by decide +kernel
theorem dX4_partyBy_49 : decode cX4_partyBy 49 = .ok (.ior, 1) := by decide +kernel
theorem dX4_partyBy_50 : decode cX4_partyBy 50 = .ok (.istore 6, 2) := by decide +kernel
theorem dX4_partyBy_52 : decode cX4_partyBy 52 = .ok (.iload_n 3, 1) := by decide +kernel
theorem dX4_partyBy_53 : decode cX4_partyBy 53 = .ok (.iload_n 2, 1) := by decide +kernel
theorem dX4_partyBy_54 : decode cX4_partyBy 54 = .ok (.iload 5, 2) := by decide +kernel
theorem dX4_partyBy_56 : decode cX4_partyBy 56 = .ok (.ishr, 1) := by decide +kernel
theorem dX4_partyBy_57 : decode cX4_partyBy 57 = .ok (.iconst 1, 1) := by decide +kernel
theorem dX4_partyBy_58 : decode cX4_partyBy 58 = .ok (.iand, 1) := by decide +kernel
theorem dX4_partyBy_59 : decode cX4_partyBy 59 = .ok (.iconst 1, 1) := by decide +kernel
theorem dX4_partyBy_60 : decode cX4_partyBy 60 = .ok (.if_icmp .ne 15, 3) := by decide +kernel
theorem dX4_partyBy_63 : decode cX4_partyBy 63 = .ok (.iload_n 3, 1) := by decide +kernel
theorem dX4_partyBy_64 : decode cX4_partyBy 64 = .ok (.iload 6, 2) := by decide +kernel
theorem dX4_partyBy_66 : decode cX4_partyBy 66 = .ok (.iand, 1) := by decide +kernel
theorem dX4_partyBy_67 : decode cX4_partyBy 67 = .ok (.ifCond .eq 8, 3) := by decide +kernel
theorem dX4_partyBy_70 : decode cX4_partyBy 70 = .ok (.iload 6, 2) := by decide +kernel
theorem dX4_partyBy_72 : decode cX4_partyBy 72 = .ok (.goto 4, 3) := by decide +kernel
theorem dX4_partyBy_75 : decode cX4_partyBy 75 = .ok (.iconst 0, 1) := by decide +kernel
theorem dX4_partyBy_76 : decode cX4_partyBy 76 = .ok (.ior, 1) := by decide +kernel
theorem dX4_partyBy_77 : decode cX4_partyBy 77 = .ok (.istore_n 3, 1) := by decide +kernel
theorem dX4_partyBy_78 : decode cX4_partyBy 78 = .ok (.iinc 5 1, 3) := by decide +kernel
theorem dX4_partyBy_81 : decode cX4_partyBy 81 = .ok (.goto (-65), 3) := by decide +kernel
theorem dX4_partyBy_84 : decode cX4_partyBy 84 = .ok (.iinc 4 1, 3) := by decide +kernel
theorem dX4_partyBy_87 : decode cX4_partyBy 87 = .ok (.goto (-80), 3) := by decide +kernel
theorem dX4_partyBy_90 : decode cX4_partyBy 90 = .ok (.iload_n 3, 1) := by decide +kernel
theorem dX4_partyBy_91 : decode cX4_partyBy 91 = .ok (.ireturn, 1) := by decide +kernel
theorem dX4_partyOf_0 : decode cX4_partyOf 0 = .ok (.aload_n 0, 1) := by decide +kernel
theorem dX4_partyOf_1 : decode cX4_partyOf 1 = .ok (.iload_n 1, 1) := by decide +kernel
theorem dX4_partyOf_2 : decode cX4_partyOf 2 = .ok (.bipush 63, 2) := by decide +kernel
theorem dX4_partyOf_4 : decode cX4_partyOf 4 = .ok (.invokevirtual 116, 3) := by decide +kernel
theorem dX4_partyOf_7 : decode cX4_partyOf 7 = .ok (.ireturn, 1) := by decide +kernel
theorem dX4_isFirst_0 : decode cX4_isFirst 0 = .ok (.aload_n 0, 1) := by decide +kernel
theorem dX4_isFirst_1 : decode cX4_isFirst 1 = .ok (.iload_n 1, 1) := by decide +kernel
theorem dX4_isFirst_2 : decode cX4_isFirst 2 = .ok (.invokevirtual 120, 3) := by decide +kernel
theorem dX4_isFirst_5 : decode cX4_isFirst 5 = .ok (.iconst 1, 1) := by decide +kernel
theorem dX4_isFirst_6 : decode cX4_isFirst 6 = .ok (.iload_n 1, 1) := by decide +kernel
theorem dX4_isFirst_7 : decode cX4_isFirst 7 = .ok (.ishl, 1) := by decide +kernel
theorem dX4_isFirst_8 : decode cX4_isFirst 8 = .ok (.iconst 1, 1) := by decide +kernel
theorem dX4_isFirst_9 : decode cX4_isFirst 9 = .ok (.isub, 1) := by decide +kernel
theorem dX4_isFirst_10 : decode cX4_isFirst 10 = .ok (.iand, 1) := by decide +kernel
theorem dX4_isFirst_11 : decode cX4_isFirst 11 = .ok (.ifCond .ne 7, 3) := by decide +kernel
theorem dX4_isFirst_14 : decode cX4_isFirst 14 = .ok (.iconst 1, 1) := by decide +kernel
theorem dX4_isFirst_15 : decode cX4_isFirst 15 = .ok (.goto 4, 3) := by decide +kernel
theorem dX4_isFirst_18 : decode cX4_isFirst 18 = .ok (.iconst 0, 1) := by decide +kernel
theorem dX4_isFirst_19 : decode cX4_isFirst 19 = .ok (.ireturn, 1) := by decide +kernel
theorem dX4_drifts_0 : decode cX4_drifts 0 = .ok (.iconst 0, 1) := by decide +kernel
theorem dX4_drifts_1 : decode cX4_drifts 1 = .ok (.istore_n 2, 1) := by decide +kernel
theorem dX4_drifts_2 : decode cX4_drifts 2 = .ok (.iconst 0, 1) := by decide +kernel
theorem dX4_drifts_3 : decode cX4_drifts 3 = .ok (.istore_n 3, 1) := by decide +kernel
theorem dX4_drifts_4 : decode cX4_drifts 4 = .ok (.iload_n 3, 1) := by decide +kernel
theorem dX4_drifts_5 : decode cX4_drifts 5 = .ok (.aload_n 0, 1) := by decide +kernel
theorem dX4_drifts_6 : decode cX4_drifts 6 = .ok (.getfield 76, 3) := by decide +kernel
theorem dX4_drifts_9 : decode cX4_drifts 9 = .ok (.if_icmp .ge 41, 3) := by decide +kernel
theorem dX4_drifts_12 : decode cX4_drifts 12 = .ok (.iload_n 2, 1) := by decide +kernel
theorem dX4_drifts_13 : decode cX4_drifts 13 = .ok (.iload_n 1, 1) := by decide +kernel
theorem dX4_drifts_14 : decode cX4_drifts 14 = .ok (.iload_n 3, 1) := by decide +kernel
theorem dX4_drifts_15 : decode cX4_drifts 15 = .ok (.ishr, 1) := by decide +kernel
theorem dX4_drifts_16 : decode cX4_drifts 16 = .ok (.iconst 1, 1) := by decide +kernel
theorem dX4_drifts_17 : decode cX4_drifts 17 = .ok (.iand, 1) := by decide +kernel
theorem dX4_drifts_18 : decode cX4_drifts 18 = .ok (.iconst 1, 1) := by decide +kernel
theorem dX4_drifts_19 : decode cX4_drifts 19 = .ok (.if_icmp .ne 22, 3) := by decide +kernel
theorem dX4_drifts_22 : decode cX4_drifts 22 = .ok (.aload_n 0, 1) := by decide +kernel
theorem dX4_drifts_23 : decode cX4_drifts 23 = .ok (.iload_n 3, 1) := by decide +kernel
theorem dX4_drifts_24 : decode cX4_drifts 24 = .ok (.invokevirtual 123, 3) := by decide +kernel
theorem dX4_drifts_27 : decode cX4_drifts 27 = .ok (.aload_n 0, 1) := by decide +kernel
theorem dX4_drifts_28 : decode cX4_drifts 28 = .ok (.getfield 16, 3) := by decide +kernel
theorem dX4_drifts_31 : decode cX4_drifts 31 = .ok (.iconst 4, 1) := by decide +kernel
theorem dX4_drifts_32 : decode cX4_drifts 32 = .ok (.iload_n 3, 1) := by decide +kernel
theorem dX4_drifts_33 : decode cX4_drifts 33 = .ok (.imul, 1) := by decide +kernel
theorem dX4_drifts_34 : decode cX4_drifts 34 = .ok (.iconst 1, 1) := by decide +kernel
theorem dX4_drifts_35 : decode cX4_drifts 35 = .ok (.iadd, 1) := by decide +kernel
theorem dX4_drifts_36 : decode cX4_drifts 36 = .ok (.iaload, 1) := by decide +kernel
theorem dX4_drifts_37 : decode cX4_drifts 37 = .ok (.imul, 1) := by decide +kernel
theorem dX4_drifts_38 : decode cX4_drifts 38 = .ok (.goto 4, 3) := by decide +kernel
theorem dX4_drifts_41 : decode cX4_drifts 41 = .ok (.iconst 0, 1) := by decide +kernel
theorem dX4_drifts_42 : decode cX4_drifts 42 = .ok (.iadd, 1) := by decide +kernel
theorem dX4_drifts_43 : decode cX4_drifts 43 = .ok (.istore_n 2, 1) := by decide +kernel
theorem dX4_drifts_44 : decode cX4_drifts 44 = .ok (.iinc 3 1, 3) := by decide +kernel
theorem dX4_drifts_47 : decode cX4_drifts 47 = .ok (.goto (-43), 3) := by decide +kernel
theorem dX4_drifts_50 : decode cX4_drifts 50 = .ok (.iload_n 2, 1) := by decide +kernel
theorem dX4_drifts_51 : decode cX4_drifts 51 = .ok (.ifCond .le 7, 3) := by decide +kernel
theorem dX4_drifts_54 : decode cX4_drifts 54 = .ok (.iconst 1, 1) := by decide +kernel
theorem dX4_drifts_55 : decode cX4_drifts 55 = .ok (.goto 13, 3) := by decide +kernel
theorem dX4_drifts_58 : decode cX4_drifts 58 = .ok (.iload_n 2, 1) := by decide +kernel
theorem dX4_drifts_59 : decode cX4_drifts 59 = .ok (.ifCond .ge 8, 3) := by decide +kernel
theorem dX4_drifts_62 : decode cX4_drifts 62 = .ok (.bipush 11, 2) := by decide +kernel
theorem dX4_drifts_64 : decode cX4_drifts 64 = .ok (.goto 4, 3) := by decide +kernel
theorem dX4_drifts_67 : decode cX4_drifts 67 = .ok (.iconst 0, 1) := by decide +kernel
theorem dX4_drifts_68 : decode cX4_drifts 68 = .ok (.istore_n 3, 1) := by decide +kernel
theorem dX4_drifts_69 : decode cX4_drifts 69 = .ok (.iconst 0, 1) := by decide +kernel
theorem dX4_drifts_70 : decode cX4_drifts 70 = .ok (.istore 4, 2) := by decide +kernel
theorem dX4_drifts_72 : decode cX4_drifts 72 = .ok (.iconst 0, 1) := by decide +kernel
theorem dX4_drifts_73 : decode cX4_drifts 73 = .ok (.istore 5, 2) := by decide +kernel
theorem dX4_drifts_75 : decode cX4_drifts 75 = .ok (.iload 5, 2) := by decide +kernel
theorem dX4_drifts_77 : decode cX4_drifts 77 = .ok (.aload_n 0, 1) := by decide +kernel
theorem dX4_drifts_78 : decode cX4_drifts 78 = .ok (.getfield 76, 3) := by decide +kernel
theorem dX4_drifts_81 : decode cX4_drifts 81 = .ok (.if_icmp .ge 80, 3) := by decide +kernel
theorem dX4_drifts_84 : decode cX4_drifts 84 = .ok (.iconst 0, 1) := by decide +kernel
theorem dX4_drifts_85 : decode cX4_drifts 85 = .ok (.istore 6, 2) := by decide +kernel
theorem dX4_drifts_87 : decode cX4_drifts 87 = .ok (.iload 6, 2) := by decide +kernel
theorem dX4_drifts_89 : decode cX4_drifts 89 = .ok (.aload_n 0, 1) := by decide +kernel
theorem dX4_drifts_90 : decode cX4_drifts 90 = .ok (.getfield 76, 3) := by decide +kernel
theorem dX4_drifts_93 : decode cX4_drifts 93 = .ok (.if_icmp .ge 62, 3) := by decide +kernel
theorem dX4_drifts_96 : decode cX4_drifts 96 = .ok (.iload 4, 2) := by decide +kernel
theorem dX4_drifts_98 : decode cX4_drifts 98 = .ok (.ifCond .ne 44, 3) := by decide +kernel
theorem dX4_drifts_101 : decode cX4_drifts 101 = .ok (.iload_n 1, 1) := by decide +kernel
theorem dX4_drifts_102 : decode cX4_drifts 102 = .ok (.iload 5, 2) := by decide +kernel
theorem dX4_drifts_104 : decode cX4_drifts 104 = .ok (.ishr, 1) := by decide +kernel
theorem dX4_drifts_105 : decode cX4_drifts 105 = .ok (.iconst 1, 1) := by decide +kernel
theorem dX4_drifts_106 : decode cX4_drifts 106 = .ok (.iand, 1) := by decide +kernel
theorem dX4_drifts_107 : decode cX4_drifts 107 = .ok (.iconst 1, 1) := by decide +kernel
theorem dX4_drifts_108 : decode cX4_drifts 108 = .ok (.if_icmp .ne 38, 3) := by decide +kernel
theorem dX4_drifts_111 : decode cX4_drifts 111 = .ok (.iload_n 1, 1) := by decide +kernel
theorem dX4_drifts_112 : decode cX4_drifts 112 = .ok (.iload 6, 2) := by decide +kernel
theorem dX4_drifts_114 : decode cX4_drifts 114 = .ok (.ishr, 1) := by decide +kernel
theorem dX4_drifts_115 : decode cX4_drifts 115 = .ok (.iconst 1, 1) := by decide +kernel
theorem dX4_drifts_116 : decode cX4_drifts 116 = .ok (.iand, 1) := by decide +kernel
theorem dX4_drifts_117 : decode cX4_drifts 117 = .ok (.ifCond .ne 29, 3) := by decide +kernel
theorem dX4_drifts_120 : decode cX4_drifts 120 = .ok (.aload_n 0, 1) := by decide +kernel
theorem dX4_drifts_121 : decode cX4_drifts 121 = .ok (.getfield 22, 3) := by decide +kernel
theorem dX4_drifts_124 : decode cX4_drifts 124 = .ok (.iload 5, 2) := by decide +kernel
theorem dX4_drifts_126 : decode cX4_drifts 126 = .ok (.iaload, 1) := by decide +kernel
theorem dX4_drifts_127 : decode cX4_drifts 127 = .ok (.iload_n 3, 1) := by decide +kernel
theorem dX4_drifts_128 : decode cX4_drifts 128 = .ok (.iadd, 1) := by decide +kernel
theorem dX4_drifts_129 : decode cX4_drifts 129 = .ok (.bipush 12, 2) := by decide +kernel
theorem dX4_drifts_131 : decode cX4_drifts 131 = .ok (.irem, 1) := by decide +kernel
theorem dX4_drifts_132 : decode cX4_drifts 132 = .ok (.aload_n 0, 1) := by decide +kernel
theorem dX4_drifts_133 : decode cX4_drifts 133 = .ok (.getfield 22, 3) := by decide +kernel
theorem dX4_drifts_136 : decode cX4_drifts 136 = .ok (.iload 6, 2) := by decide +kernel
theorem dX4_drifts_138 : decode cX4_drifts 138 = .ok (.iaload, 1) := by decide +kernel
theorem dX4_drifts_139 : decode cX4_drifts 139 = .ok (.if_icmp .ne 7, 3) := by decide +kernel
theorem dX4_drifts_142 : decode cX4_drifts 142 = .ok (.iconst 1, 1) := by decide +kernel
theorem dX4_drifts_143 : decode cX4_drifts 143 = .ok (.goto 4, 3) := by decide +kernel
theorem dX4_drifts_146 : decode cX4_drifts 146 = .ok (.iconst 0, 1) := by decide +kernel
theorem dX4_drifts_147 : decode cX4_drifts 147 = .ok (.istore 4, 2) := by decide +kernel
theorem dX4_drifts_149 : decode cX4_drifts 149 = .ok (.iinc 6 1, 3) := by decide +kernel
theorem dX4_drifts_152 : decode cX4_drifts 152 = .ok (.goto (-65), 3) := by decide +kernel
theorem dX4_drifts_155 : decode cX4_drifts 155 = .ok (.iinc 5 1, 3) := by decide +kernel
theorem dX4_drifts_158 : decode cX4_drifts 158 = .ok (.goto (-83), 3) := by decide +kernel
theorem dX4_drifts_161 : decode cX4_drifts 161 = .ok (.iconst 0, 1) := by decide +kernel
theorem dX4_drifts_162 : decode cX4_drifts 162 = .ok (.istore 5, 2) := by decide +kernel
theorem dX4_drifts_164 : decode cX4_drifts 164 = .ok (.iload 5, 2) := by decide +kernel
theorem dX4_drifts_166 : decode cX4_drifts 166 = .ok (.aload_n 0, 1) := by decide +kernel
theorem dX4_drifts_167 : decode cX4_drifts 167 = .ok (.getfield 76, 3) := by decide +kernel
theorem dX4_drifts_170 : decode cX4_drifts 170 = .ok (.if_icmp .ge 53, 3) := by decide +kernel
theorem dX4_drifts_173 : decode cX4_drifts 173 = .ok (.aload_n 0, 1) := by decide +kernel
theorem dX4_drifts_174 : decode cX4_drifts 174 = .ok (.getfield 22, 3) := by decide +kernel
theorem dX4_drifts_177 : decode cX4_drifts 177 = .ok (.iload 5, 2) := by decide +kernel
theorem dX4_drifts_179 : decode cX4_drifts 179 = .ok (.iload_n 1, 1) := by decide +kernel
theorem dX4_drifts_180 : decode cX4_drifts 180 = .ok (.iload 5, 2) := by decide +kernel
theorem dX4_drifts_182 : decode cX4_drifts 182 = .ok (.ishr, 1) := by decide +kernel
theorem dX4_drifts_183 : decode cX4_drifts 183 = .ok (.iconst 1, 1) := by decide +kernel
theorem dX4_drifts_184 : decode cX4_drifts 184 = .ok (.iand, 1) := by decide +kernel
theorem dX4_drifts_185 : decode cX4_drifts 185 = .ok (.iconst 1, 1) := by decide +kernel
theorem dX4_drifts_186 : decode cX4_drifts 186 = .ok (.if_icmp .ne 23, 3) := by decide +kernel
theorem dX4_drifts_189 : decode cX4_drifts 189 = .ok (.iload 4, 2) := by decide +kernel
theorem dX4_drifts_191 : decode cX4_drifts 191 = .ok (.ifCond .ne 18, 3) := by decide +kernel
theorem dX4_drifts_194 : decode cX4_drifts 194 = .ok (.aload_n 0, 1) := by decide +kernel
theorem dX4_drifts_195 : decode cX4_drifts 195 = .ok (.getfield 22, 3) := by decide +kernel
theorem dX4_drifts_198 : decode cX4_drifts 198 = .ok (.iload 5, 2) := by decide +kernel
theorem dX4_drifts_200 : decode cX4_drifts 200 = .ok (.iaload, 1) := by decide +kernel
theorem dX4_drifts_201 : decode cX4_drifts 201 = .ok (.iload_n 3, 1) := by decide +kernel
theorem dX4_drifts_202 : decode cX4_drifts 202 = .ok (.iadd, 1) := by decide +kernel
theorem dX4_drifts_203 : decode cX4_drifts 203 = .ok (.bipush 12, 2) := by decide +kernel
theorem dX4_drifts_205 : decode cX4_drifts 205 = .ok (.irem, 1) := by decide +kernel
theorem dX4_drifts_206 : decode cX4_drifts 206 = .ok (.goto 10, 3) := by decide +kernel
theorem dX4_drifts_209 : decode cX4_drifts 209 = .ok (.aload_n 0, 1) := by decide +kernel
theorem dX4_drifts_210 : decode cX4_drifts 210 = .ok (.getfield 22, 3) := by decide +kernel
theorem dX4_drifts_213 : decode cX4_drifts 213 = .ok (.iload 5, 2) := by decide +kernel
theorem dX4_drifts_215 : decode cX4_drifts 215 = .ok (.iaload, 1) := by decide +kernel
theorem dX4_drifts_216 : decode cX4_drifts 216 = .ok (.iastore, 1) := by decide +kernel
theorem dX4_drifts_217 : decode cX4_drifts 217 = .ok (.iinc 5 1, 3) := by decide +kernel
theorem dX4_drifts_220 : decode cX4_drifts 220 = .ok (.goto (-56), 3) := by decide +kernel
theorem dX4_drifts_223 : decode cX4_drifts 223 = .ok (.iload_n 3, 1) := by decide +kernel
theorem dX4_drifts_224 : decode cX4_drifts 224 = .ok (.ifCond .eq 12, 3) := by decide +kernel
theorem dX4_drifts_227 : decode cX4_drifts 227 = .ok (.iload 4, 2) := by decide +kernel
theorem dX4_drifts_229 : decode cX4_drifts 229 = .ok (.ifCond .eq 7, 3) := by decide +kernel
theorem dX4_drifts_232 : decode cX4_drifts 232 = .ok (.iconst 1, 1) := by decide +kernel
theorem dX4_drifts_233 : decode cX4_drifts 233 = .ok (.goto 4, 3) := by decide +kernel
theorem dX4_drifts_236 : decode cX4_drifts 236 = .ok (.iconst 0, 1) := by decide +kernel
theorem dX4_drifts_237 : decode cX4_drifts 237 = .ok (.ireturn, 1) := by decide +kernel
theorem dX4_passes_0 : decode cX4_passes 0 = .ok (.iconst 0, 1) := by decide +kernel
theorem dX4_passes_1 : decode cX4_passes 1 = .ok (.istore_n 1, 1) := by decide +kernel
theorem dX4_passes_2 : decode cX4_passes 2 = .ok (.iconst 0, 1) := by decide +kernel
theorem dX4_passes_3 : decode cX4_passes 3 = .ok (.istore_n 2, 1) := by decide +kernel
theorem dX4_passes_4 : decode cX4_passes 4 = .ok (.iload_n 2, 1) := by decide +kernel
theorem dX4_passes_5 : decode cX4_passes 5 = .ok (.aload_n 0, 1) := by decide +kernel
theorem dX4_passes_6 : decode cX4_passes 6 = .ok (.getfield 76, 3) := by decide +kernel
theorem dX4_passes_9 : decode cX4_passes 9 = .ok (.if_icmp .ge 33, 3) := by decide +kernel
theorem dX4_passes_12 : decode cX4_passes 12 = .ok (.iload_n 1, 1) := by decide +kernel
theorem dX4_passes_13 : decode cX4_passes 13 = .ok (.aload_n 0, 1) := by decide +kernel
theorem dX4_passes_14 : decode cX4_passes 14 = .ok (.iload_n 2, 1) := by decide +kernel
theorem dX4_passes_15 : decode cX4_passes 15 = .ok (.invokevirtual 126, 3) := by decide +kernel
theorem dX4_passes_18 : decode cX4_passes 18 = .ok (.ifCond .eq 15, 3) := by decide +kernel
theorem dX4_passes_21 : decode cX4_passes 21 = .ok (.aload_n 0, 1) := by decide +kernel
theorem dX4_passes_22 : decode cX4_passes 22 = .ok (.aload_n 0, 1) := by decide +kernel
theorem dX4_passes_23 : decode cX4_passes 23 = .ok (.iload_n 2, 1) := by decide +kernel
theorem dX4_passes_24 : decode cX4_passes 24 = .ok (.invokevirtual 120, 3) := by decide +kernel
theorem dX4_passes_27 : decode cX4_passes 27 = .ok (.invokevirtual 129, 3) := by decide +kernel
theorem dX4_passes_30 : decode cX4_passes 30 = .ok (.goto 4, 3) := by decide +kernel
theorem dX4_passes_33 : decode cX4_passes 33 = .ok (.iconst 0, 1) := by decide +kernel
theorem dX4_passes_34 : decode cX4_passes 34 = .ok (.iadd, 1) := by decide +kernel
theorem dX4_passes_35 : decode cX4_passes 35 = .ok (.istore_n 1, 1) := by decide +kernel
theorem dX4_passes_36 : decode cX4_passes 36 = .ok (.iinc 2 1, 3) := by decide +kernel
theorem dX4_passes_39 : decode cX4_passes 39 = .ok (.goto (-35), 3) := by decide +kernel
theorem dX4_passes_42 : decode cX4_passes 42 = .ok (.aload_n 0, 1) := by decide +kernel
theorem dX4_passes_43 : decode cX4_passes 43 = .ok (.dup, 1) := by decide +kernel
theorem dX4_passes_44 : decode cX4_passes 44 = .ok (.getfield 113, 3) := by decide +kernel
theorem dX4_passes_47 : decode cX4_passes 47 = .ok (.iconst 1, 1) := by decide +kernel
theorem dX4_passes_48 : decode cX4_passes 48 = .ok (.iadd, 1) := by decide +kernel
theorem dX4_passes_49 : decode cX4_passes 49 = .ok (.putfield 113, 3) := by decide +kernel
theorem dX4_passes_52 : decode cX4_passes 52 = .ok (.iload_n 1, 1) := by decide +kernel
theorem dX4_passes_53 : decode cX4_passes 53 = .ok (.ireturn, 1) := by decide +kernel
theorem dX4_besideBits_0 : decode cX4_besideBits 0 = .ok (.iconst 0, 1) := by decide +kernel
theorem dX4_besideBits_1 : decode cX4_besideBits 1 = .ok (.istore_n 2, 1) := by decide +kernel
theorem dX4_besideBits_2 : decode cX4_besideBits 2 = .ok (.iconst 0, 1) := by decide +kernel
theorem dX4_besideBits_3 : decode cX4_besideBits 3 = .ok (.istore_n 3, 1) := by decide +kernel
theorem dX4_besideBits_4 : decode cX4_besideBits 4 = .ok (.iload_n 3, 1) := by decide +kernel
theorem dX4_besideBits_5 : decode cX4_besideBits 5 = .ok (.aload_n 0, 1) := by decide +kernel
theorem dX4_besideBits_6 : decode cX4_besideBits 6 = .ok (.getfield 76, 3) := by decide +kernel
theorem dX4_besideBits_9 : decode cX4_besideBits 9 = .ok (.if_icmp .ge 45, 3) := by decide +kernel
theorem dX4_besideBits_12 : decode cX4_besideBits 12 = .ok (.iload_n 2, 1) := by decide +kernel
theorem dX4_besideBits_13 : decode cX4_besideBits 13 = .ok (.aload_n 0, 1) := by decide +kernel
theorem dX4_besideBits_14 : decode cX4_besideBits 14 = .ok (.getfield 16, 3) := by decide +kernel
theorem dX4_besideBits_17 : decode cX4_besideBits 17 = .ok (.iconst 4, 1) := by decide +kernel
theorem dX4_besideBits_18 : decode cX4_besideBits 18 = .ok (.iload_n 1, 1) := by decide +kernel
theorem dX4_besideBits_19 : decode cX4_besideBits 19 = .ok (.imul, 1) := by decide +kernel
theorem dX4_besideBits_20 : decode cX4_besideBits 20 = .ok (.iconst 2, 1) := by decide +kernel
theorem dX4_besideBits_21 : decode cX4_besideBits 21 = .ok (.iadd, 1) := by decide +kernel
theorem dX4_besideBits_22 : decode cX4_besideBits 22 = .ok (.iaload, 1) := by decide +kernel
theorem dX4_besideBits_23 : decode cX4_besideBits 23 = .ok (.aload_n 0, 1) := by decide +kernel
theorem dX4_besideBits_24 : decode cX4_besideBits 24 = .ok (.getfield 16, 3) := by decide +kernel
theorem dX4_besideBits_27 : decode cX4_besideBits 27 = .ok (.iconst 4, 1) := by decide +kernel
theorem dX4_besideBits_28 : decode cX4_besideBits 28 = .ok (.iload_n 3, 1) := by decide +kernel
theorem dX4_besideBits_29 : decode cX4_besideBits 29 = .ok (.imul, 1) := by decide +kernel
theorem dX4_besideBits_30 : decode cX4_besideBits 30 = .ok (.iconst 2, 1) := by decide +kernel
theorem dX4_besideBits_31 : decode cX4_besideBits 31 = .ok (.iadd, 1) := by decide +kernel
theorem dX4_besideBits_32 : decode cX4_besideBits 32 = .ok (.iaload, 1) := by decide +kernel
theorem dX4_besideBits_33 : decode cX4_besideBits 33 = .ok (.invokestatic 132, 3) := by decide +kernel
theorem dX4_besideBits_36 : decode cX4_besideBits 36 = .ok (.ifCond .eq 9, 3) := by decide +kernel
theorem dX4_besideBits_39 : decode cX4_besideBits 39 = .ok (.iconst 1, 1) := by decide +kernel
theorem dX4_besideBits_40 : decode cX4_besideBits 40 = .ok (.iload_n 3, 1) := by decide +kernel
theorem dX4_besideBits_41 : decode cX4_besideBits 41 = .ok (.ishl, 1) := by decide +kernel
theorem dX4_besideBits_42 : decode cX4_besideBits 42 = .ok (.goto 4, 3) := by decide +kernel
theorem dX4_besideBits_45 : decode cX4_besideBits 45 = .ok (.iconst 0, 1) := by decide +kernel
theorem dX4_besideBits_46 : decode cX4_besideBits 46 = .ok (.ior, 1) := by decide +kernel
theorem dX4_besideBits_47 : decode cX4_besideBits 47 = .ok (.istore_n 2, 1) := by decide +kernel
theorem dX4_besideBits_48 : decode cX4_besideBits 48 = .ok (.iinc 3 1, 3) := by decide +kernel
theorem dX4_besideBits_51 : decode cX4_besideBits 51 = .ok (.goto (-47), 3) := by decide +kernel
theorem dX4_besideBits_54 : decode cX4_besideBits 54 = .ok (.iload_n 2, 1) := by decide +kernel
theorem dX4_besideBits_55 : decode cX4_besideBits 55 = .ok (.ireturn, 1) := by decide +kernel
theorem dX4_ropedBits_0 : decode cX4_ropedBits 0 = .ok (.iconst 0, 1) := by decide +kernel
theorem dX4_ropedBits_1 : decode cX4_ropedBits 1 = .ok (.istore_n 2, 1) := by decide +kernel
theorem dX4_ropedBits_2 : decode cX4_ropedBits 2 = .ok (.iconst 0, 1) := by decide +kernel
theorem dX4_ropedBits_3 : decode cX4_ropedBits 3 = .ok (.istore_n 3, 1) := by decide +kernel
theorem dX4_ropedBits_4 : decode cX4_ropedBits 4 = .ok (.iload_n 3, 1) := by decide +kernel
theorem dX4_ropedBits_5 : decode cX4_ropedBits 5 = .ok (.aload_n 0, 1) := by decide +kernel
theorem dX4_ropedBits_6 : decode cX4_ropedBits 6 = .ok (.getfield 76, 3) := by decide +kernel
theorem dX4_ropedBits_9 : decode cX4_ropedBits 9 = .ok (.if_icmp .ge 28, 3) := by decide +kernel
theorem dX4_ropedBits_12 : decode cX4_ropedBits 12 = .ok (.iload_n 2, 1) := by decide +kernel
theorem dX4_ropedBits_13 : decode cX4_ropedBits 13 = .ok (.aload_n 0, 1) := by decide +kernel
theorem dX4_ropedBits_14 : decode cX4_ropedBits 14 = .ok (.iload_n 1, 1) := by decide +kernel
theorem dX4_ropedBits_15 : decode cX4_ropedBits 15 = .ok (.iload_n 3, 1) := by decide +kernel
theorem dX4_ropedBits_16 : decode cX4_ropedBits 16 = .ok (.invokevirtual 136, 3) := by decide +kernel
theorem dX4_ropedBits_19 : decode cX4_ropedBits 19 = .ok (.ifCond .eq 9, 3) := by decide +kernel
theorem dX4_ropedBits_22 : decode cX4_ropedBits 22 = .ok (.iconst 1, 1) := by decide +kernel
theorem dX4_ropedBits_23 : decode cX4_ropedBits 23 = .ok (.iload_n 3, 1) := by decide +kernel
theorem dX4_ropedBits_24 : decode cX4_ropedBits 24 = .ok (.ishl, 1) := by decide +kernel
theorem dX4_ropedBits_25 : decode cX4_ropedBits 25 = .ok (.goto 4, 3) := by decide +kernel
theorem dX4_ropedBits_28 : decode cX4_ropedBits 28 = .ok (.iconst 0, 1) := by decide +kernel
theorem dX4_ropedBits_29 : decode cX4_ropedBits 29 = .ok (.ior, 1) := by decide +kernel
theorem dX4_ropedBits_30 : decode cX4_ropedBits 30 = .ok (.istore_n 2, 1) := by decide +kernel
theorem dX4_ropedBits_31 : decode cX4_ropedBits 31 = .ok (.iinc 3 1, 3) := by decide +kernel
theorem dX4_ropedBits_34 : decode cX4_ropedBits 34 = .ok (.goto (-30), 3) := by decide +kernel
theorem dX4_ropedBits_37 : decode cX4_ropedBits 37 = .ok (.iload_n 2, 1) := by decide +kernel
theorem dX4_ropedBits_38 : decode cX4_ropedBits 38 = .ok (.ireturn, 1) := by decide +kernel
theorem dX4_tell_0 : decode cX4_tell 0 = .ok (.iload_n 2, 1) := by decide +kernel
theorem dX4_tell_1 : decode cX4_tell 1 = .ok (.tableswitch 100 0 7 #[47, 47, 47, 58, 71, 82, 88, 94], 47) := by decide +kernel
theorem dX4_tell_48 : decode cX4_tell 48 = .ok (.aload_n 0, 1) := by decide +kernel
theorem dX4_tell_49 : decode cX4_tell 49 = .ok (.getfield 16, 3) := by decide +kernel
theorem dX4_tell_52 : decode cX4_tell 52 = .ok (.iconst 4, 1) := by decide +kernel
theorem dX4_tell_53 : decode cX4_tell 53 = .ok (.iload_n 1, 1) := by decide +kernel
theorem dX4_tell_54 : decode cX4_tell 54 = .ok (.imul, 1) := by decide +kernel
theorem dX4_tell_55 : decode cX4_tell 55 = .ok (.iload_n 2, 1) := by decide +kernel
theorem dX4_tell_56 : decode cX4_tell 56 = .ok (.iadd, 1) := by decide +kernel
theorem dX4_tell_57 : decode cX4_tell 57 = .ok (.iaload, 1) := by decide +kernel
theorem dX4_tell_58 : decode cX4_tell 58 = .ok (.ireturn, 1) := by decide +kernel
theorem dX4_tell_59 : decode cX4_tell 59 = .ok (.aload_n 0, 1) := by decide +kernel
theorem dX4_tell_60 : decode cX4_tell 60 = .ok (.invokevirtual 139, 3) := by decide +kernel
theorem dX4_tell_63 : decode cX4_tell 63 = .ok (.aload_n 0, 1) := by decide +kernel
theorem dX4_tell_64 : decode cX4_tell 64 = .ok (.iload_n 1, 1) := by decide +kernel
theorem dX4_tell_65 : decode cX4_tell 65 = .ok (.invokevirtual 123, 3) := by decide +kernel
theorem dX4_tell_68 : decode cX4_tell 68 = .ok (.bipush 100, 2) := by decide +kernel
theorem dX4_tell_70 : decode cX4_tell 70 = .ok (.iadd, 1) := by decide +kernel
theorem dX4_tell_71 : decode cX4_tell 71 = .ok (.ireturn, 1) := by decide +kernel
theorem dX4_tell_72 : decode cX4_tell 72 = .ok (.aload_n 0, 1) := by decide +kernel
theorem dX4_tell_73 : decode cX4_tell 73 = .ok (.getfield 16, 3) := by decide +kernel
theorem dX4_tell_76 : decode cX4_tell 76 = .ok (.iconst 4, 1) := by decide +kernel
theorem dX4_tell_77 : decode cX4_tell 77 = .ok (.iload_n 1, 1) := by decide +kernel
theorem dX4_tell_78 : decode cX4_tell 78 = .ok (.imul, 1) := by decide +kernel
theorem dX4_tell_79 : decode cX4_tell 79 = .ok (.iconst 3, 1) := by decide +kernel
theorem dX4_tell_80 : decode cX4_tell 80 = .ok (.iadd, 1) := by decide +kernel
theorem dX4_tell_81 : decode cX4_tell 81 = .ok (.iaload, 1) := by decide +kernel
theorem dX4_tell_82 : decode cX4_tell 82 = .ok (.ireturn, 1) := by decide +kernel
theorem dX4_tell_83 : decode cX4_tell 83 = .ok (.aload_n 0, 1) := by decide +kernel
theorem dX4_tell_84 : decode cX4_tell 84 = .ok (.iload_n 1, 1) := by decide +kernel
theorem dX4_tell_85 : decode cX4_tell 85 = .ok (.invokevirtual 120, 3) := by decide +kernel
theorem dX4_tell_88 : decode cX4_tell 88 = .ok (.ireturn, 1) := by decide +kernel
theorem dX4_tell_89 : decode cX4_tell 89 = .ok (.aload_n 0, 1) := by decide +kernel
theorem dX4_tell_90 : decode cX4_tell 90 = .ok (.iload_n 1, 1) := by decide +kernel
theorem dX4_tell_91 : decode cX4_tell 91 = .ok (.invokevirtual 142, 3) := by decide +kernel
theorem dX4_tell_94 : decode cX4_tell 94 = .ok (.ireturn, 1) := by decide +kernel
theorem dX4_tell_95 : decode cX4_tell 95 = .ok (.aload_n 0, 1) := by decide +kernel
theorem dX4_tell_96 : decode cX4_tell 96 = .ok (.iload_n 1, 1) := by decide +kernel
theorem dX4_tell_97 : decode cX4_tell 97 = .ok (.invokevirtual 145, 3) := by decide +kernel
theorem dX4_tell_100 : decode cX4_tell 100 = .ok (.ireturn, 1) := by decide +kernel
theorem dX4_tell_101 : decode cX4_tell 101 = .ok (.bipush (-102), 2) := by decide +kernel
theorem dX4_tell_103 : decode cX4_tell 103 = .ok (.ireturn, 1) := by decide +kernel
theorem dX4_about_0 : decode cX4_about 0 = .ok (.aload_n 0, 1) := by decide +kernel
theorem dX4_about_1 : decode cX4_about 1 = .ok (.iload_n 1, 1) := by decide +kernel
theorem dX4_about_2 : decode cX4_about 2 = .ok (.invokevirtual 91, 3) := by decide +kernel
theorem dX4_about_5 : decode cX4_about 5 = .ok (.ifCond .eq 12, 3) := by decide +kernel
theorem dX4_about_8 : decode cX4_about 8 = .ok (.aload_n 0, 1) := by decide +kernel
theorem dX4_about_9 : decode cX4_about 9 = .ok (.iload_n 1, 1) := by decide +kernel
theorem dX4_about_10 : decode cX4_about 10 = .ok (.iload_n 2, 1) := by decide +kernel
theorem dX4_about_11 : decode cX4_about 11 = .ok (.invokevirtual 148, 3) := by decide +kernel
theorem dX4_about_14 : decode cX4_about 14 = .ok (.goto 5, 3) := by decide +kernel
theorem dX4_about_17 : decode cX4_about 17 = .ok (.bipush (-101), 2) := by decide +kernel
theorem dX4_about_19 : decode cX4_about 19 = .ok (.ireturn, 1) := by decide +kernel
theorem dX4_as_0 : decode cX4_as 0 = .ok (.aload_n 0, 1) := by decide +kernel
theorem dX4_as_1 : decode cX4_as 1 = .ok (.iload_n 1, 1) := by decide +kernel
theorem dX4_as_2 : decode cX4_as 2 = .ok (.invokevirtual 91, 3) := by decide +kernel
theorem dX4_as_5 : decode cX4_as 5 = .ok (.ifCond .ne 6, 3) := by decide +kernel
theorem dX4_as_8 : decode cX4_as 8 = .ok (.bipush (-101), 2) := by decide +kernel
theorem dX4_as_10 : decode cX4_as 10 = .ok (.ireturn, 1) := by decide +kernel
theorem dX4_as_11 : decode cX4_as 11 = .ok (.iload_n 2, 1) := by decide +kernel
theorem dX4_as_12 : decode cX4_as 12 = .ok (.i2l, 1) := by decide +kernel
theorem dX4_as_13 : decode cX4_as 13 = .ok (.lconst 0, 1) := by decide +kernel
theorem dX4_as_14 : decode cX4_as 14 = .ok (.ldc2_w 103, 3) := by decide +kernel
theorem dX4_as_17 : decode cX4_as 17 = .ok (.invokestatic 52, 3) := by decide +kernel
theorem dX4_as_20 : decode cX4_as 20 = .ok (.ifCond .ne 6, 3) := by decide +kernel
theorem dX4_as_23 : decode cX4_as 23 = .ok (.bipush (-102), 2) := by decide +kernel
theorem dX4_as_25 : decode cX4_as 25 = .ok (.ireturn, 1) := by decide +kernel
theorem dX4_as_26 : decode cX4_as 26 = .ok (.aload_n 0, 1) := by decide +kernel
theorem dX4_as_27 : decode cX4_as 27 = .ok (.getfield 16, 3) := by decide +kernel
theorem dX4_as_30 : decode cX4_as 30 = .ok (.iconst 4, 1) := by decide +kernel
theorem dX4_as_31 : decode cX4_as 31 = .ok (.iload_n 1, 1) := by decide +kernel
theorem dX4_as_32 : decode cX4_as 32 = .ok (.imul, 1) := by decide +kernel
theorem dX4_as_33 : decode cX4_as 33 = .ok (.iaload, 1) := by decide +kernel
theorem dX4_as_34 : decode cX4_as 34 = .ok (.istore_n 3, 1) := by decide +kernel
theorem dX4_as_35 : decode cX4_as 35 = .ok (.iload_n 2, 1) := by decide +kernel
theorem dX4_as_36 : decode cX4_as 36 = .ok (.ifCond .eq 18, 3) := by decide +kernel
theorem dX4_as_39 : decode cX4_as 39 = .ok (.iload_n 2, 1) := by decide +kernel
theorem dX4_as_40 : decode cX4_as 40 = .ok (.iload_n 3, 1) := by decide +kernel
theorem dX4_as_41 : decode cX4_as 41 = .ok (.if_icmp .eq 13, 3) := by decide +kernel
theorem dX4_as_44 : decode cX4_as 44 = .ok (.iload_n 2, 1) := by decide +kernel
theorem dX4_as_45 : decode cX4_as 45 = .ok (.iconst 2, 1) := by decide +kernel
theorem dX4_as_46 : decode cX4_as 46 = .ok (.if_icmp .ne 12, 3) := by decide +kernel
theorem dX4_as_49 : decode cX4_as 49 = .ok (.iload_n 3, 1) := by decide +kernel
theorem dX4_as_50 : decode cX4_as 50 = .ok (.iconst 4, 1) := by decide +kernel
theorem dX4_as_51 : decode cX4_as 51 = .ok (.if_icmp .ne 7, 3) := by decide +kernel
theorem dX4_as_54 : decode cX4_as 54 = .ok (.iconst 1, 1) := by decide +kernel
theorem dX4_as_55 : decode cX4_as 55 = .ok (.goto 4, 3) := by decide +kernel
theorem dX4_as_58 : decode cX4_as 58 = .ok (.iconst 0, 1) := by decide +kernel
theorem dX4_as_59 : decode cX4_as 59 = .ok (.istore 4, 2) := by decide +kernel
theorem dX4_as_61 : decode cX4_as 61 = .ok (.iload 4, 2) := by decide +kernel
theorem dX4_as_63 : decode cX4_as 63 = .ok (.ifCond .eq 7, 3) := by decide +kernel
theorem dX4_as_66 : decode cX4_as 66 = .ok (.iload_n 1, 1) := by decide +kernel
theorem dX4_as_67 : decode cX4_as 67 = .ok (.goto 4, 3) := by decide +kernel
theorem dX4_as_70 : decode cX4_as 70 = .ok (.iconst (-1), 1) := by decide +kernel
theorem dX4_as_71 : decode cX4_as 71 = .ok (.ireturn, 1) := by decide +kernel
theorem dX4_anchor_0 : decode cX4_anchor 0 = .ok (.aload_n 0, 1) := by decide +kernel
theorem dX4_anchor_1 : decode cX4_anchor 1 = .ok (.iload_n 1, 1) := by decide +kernel
theorem dX4_anchor_2 : decode cX4_anchor 2 = .ok (.invokevirtual 91, 3) := by decide +kernel
theorem dX4_anchor_5 : decode cX4_anchor 5 = .ok (.ifCond .ne 6, 3) := by decide +kernel
theorem dX4_anchor_8 : decode cX4_anchor 8 = .ok (.bipush (-101), 2) := by decide +kernel
theorem dX4_anchor_10 : decode cX4_anchor 10 = .ok (.ireturn, 1) := by decide +kernel
theorem dX4_anchor_11 : decode cX4_anchor 11 = .ok (.aload_n 0, 1) := by decide +kernel
theorem dX4_anchor_12 : decode cX4_anchor 12 = .ok (.getfield 16, 3) := by decide +kernel
theorem dX4_anchor_15 : decode cX4_anchor 15 = .ok (.iconst 4, 1) := by decide +kernel
theorem dX4_anchor_16 : decode cX4_anchor 16 = .ok (.iload_n 1, 1) := by decide +kernel
theorem dX4_anchor_17 : decode cX4_anchor 17 = .ok (.imul, 1) := by decide +kernel
theorem dX4_anchor_18 : decode cX4_anchor 18 = .ok (.iconst 3, 1) := by decide +kernel
theorem dX4_anchor_19 : decode cX4_anchor 19 = .ok (.iadd, 1) := by decide +kernel
theorem dX4_anchor_20 : decode cX4_anchor 20 = .ok (.iaload, 1) := by decide +kernel
theorem dX4_anchor_21 : decode cX4_anchor 21 = .ok (.istore_n 3, 1) := by decide +kernel
theorem dX4_anchor_22 : decode cX4_anchor 22 = .ok (.aload_n 0, 1) := by decide +kernel
theorem dX4_anchor_23 : decode cX4_anchor 23 = .ok (.getfield 16, 3) := by decide +kernel
theorem dX4_anchor_26 : decode cX4_anchor 26 = .ok (.iconst 4, 1) := by decide +kernel
theorem dX4_anchor_27 : decode cX4_anchor 27 = .ok (.iload_n 1, 1) := by decide +kernel
theorem dX4_anchor_28 : decode cX4_anchor 28 = .ok (.imul, 1) := by decide +kernel
theorem dX4_anchor_29 : decode cX4_anchor 29 = .ok (.iconst 3, 1) := by decide +kernel
theorem dX4_anchor_30 : decode cX4_anchor 30 = .ok (.iadd, 1) := by decide +kernel
theorem dX4_anchor_31 : decode cX4_anchor 31 = .ok (.iload_n 2, 1) := by decide +kernel
theorem dX4_anchor_32 : decode cX4_anchor 32 = .ok (.ifCond .eq 7, 3) := by decide +kernel
theorem dX4_anchor_35 : decode cX4_anchor 35 = .ok (.iconst 1, 1) := by decide +kernel
theorem dX4_anchor_36 : decode cX4_anchor 36 = .ok (.goto 4, 3) := by decide +kernel
theorem dX4_anchor_39 : decode cX4_anchor 39 = .ok (.iconst 0, 1) := by decide +kernel
theorem dX4_anchor_40 : decode cX4_anchor 40 = .ok (.iastore, 1) := by decide +kernel
theorem dX4_anchor_41 : decode cX4_anchor 41 = .ok (.iload_n 3, 1) := by decide +kernel
theorem dX4_anchor_42 : decode cX4_anchor 42 = .ok (.ireturn, 1) := by decide +kernel
theorem dX4_wed_0 : decode cX4_wed 0 = .ok (.aload_n 0, 1) := by decide +kernel
theorem dX4_wed_1 : decode cX4_wed 1 = .ok (.iload_n 1, 1) := by decide +kernel
theorem dX4_wed_2 : decode cX4_wed 2 = .ok (.iload_n 2, 1) := by decide +kernel
theorem dX4_wed_3 : decode cX4_wed 3 = .ok (.invokevirtual 151, 3) := by decide +kernel
theorem dX4_wed_6 : decode cX4_wed 6 = .ok (.ifCond .ne 6, 3) := by decide +kernel
theorem dX4_wed_9 : decode cX4_wed 9 = .ok (.bipush (-101), 2) := by decide +kernel
theorem dX4_wed_11 : decode cX4_wed 11 = .ok (.ireturn, 1) := by decide +kernel
theorem dX4_wed_12 : decode cX4_wed 12 = .ok (.aload_n 0, 1) := by decide +kernel
theorem dX4_wed_13 : decode cX4_wed 13 = .ok (.iload_n 1, 1) := by decide +kernel
theorem dX4_wed_14 : decode cX4_wed 14 = .ok (.iload_n 2, 1) := by decide +kernel
theorem dX4_wed_15 : decode cX4_wed 15 = .ok (.invokevirtual 136, 3) := by decide +kernel
theorem dX4_wed_18 : decode cX4_wed 18 = .ok (.ifCond .ne 29, 3) := by decide +kernel
theorem dX4_wed_21 : decode cX4_wed 21 = .ok (.aload_n 0, 1) := by decide +kernel
theorem dX4_wed_22 : decode cX4_wed 22 = .ok (.getfield 16, 3) := by decide +kernel
theorem dX4_wed_25 : decode cX4_wed 25 = .ok (.iconst 4, 1) := by decide +kernel
theorem dX4_wed_26 : decode cX4_wed 26 = .ok (.iload_n 1, 1) := by decide +kernel
theorem dX4_wed_27 : decode cX4_wed 27 = .ok (.imul, 1) := by decide +kernel
theorem dX4_wed_28 : decode cX4_wed 28 = .ok (.iconst 2, 1) := by decide +kernel
theorem dX4_wed_29 : decode cX4_wed 29 = .ok (.iadd, 1) := by decide +kernel
theorem dX4_wed_30 : decode cX4_wed 30 = .ok (.iaload, 1) := by decide +kernel
theorem dX4_wed_31 : decode cX4_wed 31 = .ok (.aload_n 0, 1) := by decide +kernel
theorem dX4_wed_32 : decode cX4_wed 32 = .ok (.getfield 16, 3) := by decide +kernel
theorem dX4_wed_35 : decode cX4_wed 35 = .ok (.iconst 4, 1) := by decide +kernel
theorem dX4_wed_36 : decode cX4_wed 36 = .ok (.iload_n 2, 1) := by decide +kernel
theorem dX4_wed_37 : decode cX4_wed 37 = .ok (.imul, 1) := by decide +kernel
theorem dX4_wed_38 : decode cX4_wed 38 = .ok (.iconst 2, 1) := by decide +kernel
theorem dX4_wed_39 : decode cX4_wed 39 = .ok (.iadd, 1) := by decide +kernel
theorem dX4_wed_40 : decode cX4_wed 40 = .ok (.iaload, 1) := by decide +kernel
theorem dX4_wed_41 : decode cX4_wed 41 = .ok (.invokestatic 132, 3) := by decide +kernel
theorem dX4_wed_44 : decode cX4_wed 44 = .ok (.ifCond .ne 6, 3) := by decide +kernel
theorem dX4_wed_47 : decode cX4_wed 47 = .ok (.bipush (-103), 2) := by decide +kernel
theorem dX4_wed_49 : decode cX4_wed 49 = .ok (.ireturn, 1) := by decide +kernel
theorem dX4_wed_50 : decode cX4_wed 50 = .ok (.aload_n 0, 1) := by decide +kernel
theorem dX4_wed_51 : decode cX4_wed 51 = .ok (.getfield 79, 3) := by decide +kernel
theorem dX4_wed_54 : decode cX4_wed 54 = .ok (.bipush 6, 2) := by decide +kernel
theorem dX4_wed_56 : decode cX4_wed 56 = .ok (.if_icmp .ne 6, 3) := by decide +kernel
theorem dX4_wed_59 : decode cX4_wed 59 = .ok (.bipush (-104), 2) := by decide +kernel
theorem dX4_wed_61 : decode cX4_wed 61 = .ok (.ireturn, 1) := by decide +kernel
theorem dX4_wed_62 : decode cX4_wed 62 = .ok (.aload_n 0, 1) := by decide +kernel
theorem dX4_wed_63 : decode cX4_wed 63 = .ok (.getfield 19, 3) := by decide +kernel
theorem dX4_wed_66 : decode cX4_wed 66 = .ok (.iconst 2, 1) := by decide +kernel
theorem dX4_wed_67 : decode cX4_wed 67 = .ok (.aload_n 0, 1) := by decide +kernel
theorem dX4_wed_68 : decode cX4_wed 68 = .ok (.getfield 79, 3) := by decide +kernel
theorem dX4_wed_71 : decode cX4_wed 71 = .ok (.imul, 1) := by decide +kernel
theorem dX4_wed_72 : decode cX4_wed 72 = .ok (.iload_n 1, 1) := by decide +kernel
theorem dX4_wed_73 : decode cX4_wed 73 = .ok (.iastore, 1) := by decide +kernel
theorem dX4_wed_74 : decode cX4_wed 74 = .ok (.aload_n 0, 1) := by decide +kernel
theorem dX4_wed_75 : decode cX4_wed 75 = .ok (.getfield 19, 3) := by decide +kernel
theorem dX4_wed_78 : decode cX4_wed 78 = .ok (.iconst 2, 1) := by decide +kernel
theorem dX4_wed_79 : decode cX4_wed 79 = .ok (.aload_n 0, 1) := by decide +kernel
theorem dX4_wed_80 : decode cX4_wed 80 = .ok (.getfield 79, 3) := by decide +kernel
theorem dX4_wed_83 : decode cX4_wed 83 = .ok (.imul, 1) := by decide +kernel
theorem dX4_wed_84 : decode cX4_wed 84 = .ok (.iconst 1, 1) := by decide +kernel
theorem dX4_wed_85 : decode cX4_wed 85 = .ok (.iadd, 1) := by decide +kernel
theorem dX4_wed_86 : decode cX4_wed 86 = .ok (.iload_n 2, 1) := by decide +kernel
theorem dX4_wed_87 : decode cX4_wed 87 = .ok (.iastore, 1) := by decide +kernel
theorem dX4_wed_88 : decode cX4_wed 88 = .ok (.aload_n 0, 1) := by decide +kernel
theorem dX4_wed_89 : decode cX4_wed 89 = .ok (.dup, 1) := by decide +kernel
theorem dX4_wed_90 : decode cX4_wed 90 = .ok (.getfield 79, 3) := by decide +kernel
theorem dX4_wed_93 : decode cX4_wed 93 = .ok (.iconst 1, 1) := by decide +kernel
theorem dX4_wed_94 : decode cX4_wed 94 = .ok (.iadd, 1) := by decide +kernel
theorem dX4_wed_95 : decode cX4_wed 95 = .ok (.putfield 79, 3) := by decide +kernel
theorem dX4_wed_98 : decode cX4_wed 98 = .ok (.aload_n 0, 1) := by decide +kernel
theorem dX4_wed_99 : decode cX4_wed 99 = .ok (.getfield 79, 3) := by decide +kernel
theorem dX4_wed_102 : decode cX4_wed 102 = .ok (.ireturn, 1) := by decide +kernel
theorem dX4_axe_0 : decode cX4_axe 0 = .ok (.aload_n 0, 1) := by decide +kernel
theorem dX4_axe_1 : decode cX4_axe 1 = .ok (.iload_n 1, 1) := by decide +kernel
theorem dX4_axe_2 : decode cX4_axe 2 = .ok (.iload_n 2, 1) := by decide +kernel
theorem dX4_axe_3 : decode cX4_axe 3 = .ok (.invokevirtual 151, 3) := by decide +kernel
theorem dX4_axe_6 : decode cX4_axe 6 = .ok (.ifCond .ne 6, 3) := by decide +kernel
theorem dX4_axe_9 : decode cX4_axe 9 = .ok (.bipush (-101), 2) := by decide +kernel
theorem dX4_axe_11 : decode cX4_axe 11 = .ok (.ireturn, 1) := by decide +kernel
theorem dX4_axe_12 : decode cX4_axe 12 = .ok (.aload_n 0, 1) := by decide +kernel
theorem dX4_axe_13 : decode cX4_axe 13 = .ok (.iload_n 1, 1) := by decide +kernel
theorem dX4_axe_14 : decode cX4_axe 14 = .ok (.iload_n 2, 1) := by decide +kernel
theorem dX4_axe_15 : decode cX4_axe 15 = .ok (.invokevirtual 136, 3) := by decide +kernel
theorem dX4_axe_18 : decode cX4_axe 18 = .ok (.ifCond .ne 6, 3) := by decide +kernel
theorem dX4_axe_21 : decode cX4_axe 21 = .ok (.bipush (-103), 2) := by decide +kernel
theorem dX4_axe_23 : decode cX4_axe 23 = .ok (.ireturn, 1) := by decide +kernel
theorem dX4_axe_24 : decode cX4_axe 24 = .ok (.iconst 0, 1) := by decide +kernel
theorem dX4_axe_25 : decode cX4_axe 25 = .ok (.istore_n 3, 1) := by decide +kernel
theorem dX4_axe_26 : decode cX4_axe 26 = .ok (.iconst 0, 1) := by decide +kernel
theorem dX4_axe_27 : decode cX4_axe 27 = .ok (.istore 4, 2) := by decide +kernel
theorem dX4_axe_29 : decode cX4_axe 29 = .ok (.iload 4, 2) := by decide +kernel
theorem dX4_axe_31 : decode cX4_axe 31 = .ok (.aload_n 0, 1) := by decide +kernel
theorem dX4_axe_32 : decode cX4_axe 32 = .ok (.getfield 79, 3) := by decide +kernel
theorem dX4_axe_35 : decode cX4_axe 35 = .ok (.if_icmp .ge 94, 3) := by decide +kernel
theorem dX4_axe_38 : decode cX4_axe 38 = .ok (.aload_n 0, 1) := by decide +kernel
theorem dX4_axe_39 : decode cX4_axe 39 = .ok (.getfield 19, 3) := by decide +kernel
theorem dX4_axe_42 : decode cX4_axe 42 = .ok (.iconst 2, 1) := by decide +kernel
theorem dX4_axe_43 : decode cX4_axe 43 = .ok (.iload 4, 2) := by decide +kernel
theorem dX4_axe_45 : decode cX4_axe 45 = .ok (.imul, 1) := by decide +kernel
theorem dX4_axe_46 : decode cX4_axe 46 = .ok (.iaload, 1) := by decide +kernel
theorem dX4_axe_47 : decode cX4_axe 47 = .ok (.istore 5, 2) := by decide +kernel
theorem dX4_axe_49 : decode cX4_axe 49 = .ok (.aload_n 0, 1) := by decide +kernel
theorem dX4_axe_50 : decode cX4_axe 50 = .ok (.getfield 19, 3) := by decide +kernel
theorem dX4_axe_53 : decode cX4_axe 53 = .ok (.iconst 2, 1) := by decide +kernel
theorem dX4_axe_54 : decode cX4_axe 54 = .ok (.iload 4, 2) := by decide +kernel
theorem dX4_axe_56 : decode cX4_axe 56 = .ok (.imul, 1) := by decide +kernel
theorem dX4_axe_57 : decode cX4_axe 57 = .ok (.iconst 1, 1) := by decide +kernel
theorem dX4_axe_58 : decode cX4_axe 58 = .ok (.iadd, 1) := by decide +kernel
theorem dX4_axe_59 : decode cX4_axe 59 = .ok (.iaload, 1) := by decide +kernel
theorem dX4_axe_60 : decode cX4_axe 60 = .ok (.istore 6, 2) := by decide +kernel
theorem dX4_axe_62 : decode cX4_axe 62 = .ok (.iload 5, 2) := by decide +kernel
theorem dX4_axe_64 : decode cX4_axe 64 = .ok (.iload_n 1, 1) := by decide +kernel
theorem dX4_axe_65 : decode cX4_axe 65 = .ok (.if_icmp .ne 9, 3) := by decide +kernel
theorem dX4_axe_68 : decode cX4_axe 68 = .ok (.iload 6, 2) := by decide +kernel
theorem dX4_axe_70 : decode cX4_axe 70 = .ok (.iload_n 2, 1) := by decide +kernel
theorem dX4_axe_71 : decode cX4_axe 71 = .ok (.if_icmp .eq 15, 3) := by decide +kernel
theorem dX4_axe_74 : decode cX4_axe 74 = .ok (.iload 5, 2) := by decide +kernel
theorem dX4_axe_76 : decode cX4_axe 76 = .ok (.iload_n 2, 1) := by decide +kernel
theorem dX4_axe_77 : decode cX4_axe 77 = .ok (.if_icmp .ne 13, 3) := by decide +kernel
theorem dX4_axe_80 : decode cX4_axe 80 = .ok (.iload 6, 2) := by decide +kernel
theorem dX4_axe_82 : decode cX4_axe 82 = .ok (.iload_n 1, 1) := by decide +kernel
theorem dX4_axe_83 : decode cX4_axe 83 = .ok (.if_icmp .ne 7, 3) := by decide +kernel
theorem dX4_axe_86 : decode cX4_axe 86 = .ok (.iconst 1, 1) := by decide +kernel
theorem dX4_axe_87 : decode cX4_axe 87 = .ok (.goto 4, 3) := by decide +kernel
theorem dX4_axe_90 : decode cX4_axe 90 = .ok (.iconst 0, 1) := by decide +kernel
theorem dX4_axe_91 : decode cX4_axe 91 = .ok (.istore 7, 2) := by decide +kernel
theorem dX4_axe_93 : decode cX4_axe 93 = .ok (.iload 7, 2) := by decide +kernel
theorem dX4_axe_95 : decode cX4_axe 95 = .ok (.ifCond .ne 28, 3) := by decide +kernel
theorem dX4_axe_98 : decode cX4_axe 98 = .ok (.aload_n 0, 1) := by decide +kernel
theorem dX4_axe_99 : decode cX4_axe 99 = .ok (.getfield 19, 3) := by decide +kernel
theorem dX4_axe_102 : decode cX4_axe 102 = .ok (.iconst 2, 1) := by decide +kernel
theorem dX4_axe_103 : decode cX4_axe 103 = .ok (.iload_n 3, 1) := by decide +kernel
theorem dX4_axe_104 : decode cX4_axe 104 = .ok (.imul, 1) := by decide +kernel
theorem dX4_axe_105 : decode cX4_axe 105 = .ok (.iload 5, 2) := by decide +kernel
theorem dX4_axe_107 : decode cX4_axe 107 = .ok (.iastore, 1) := by decide +kernel
theorem dX4_axe_108 : decode cX4_axe 108 = .ok (.aload_n 0, 1) := by decide +kernel
theorem dX4_axe_109 : decode cX4_axe 109 = .ok (.getfield 19, 3) := by decide +kernel
theorem dX4_axe_112 : decode cX4_axe 112 = .ok (.iconst 2, 1) := by decide +kernel
theorem dX4_axe_113 : decode cX4_axe 113 = .ok (.iload_n 3, 1) := by decide +kernel
theorem dX4_axe_114 : decode cX4_axe 114 = .ok (.imul, 1) := by decide +kernel
theorem dX4_axe_115 : decode cX4_axe 115 = .ok (.iconst 1, 1) := by decide +kernel
theorem dX4_axe_116 : decode cX4_axe 116 = .ok (.iadd, 1) := by decide +kernel
theorem dX4_axe_117 : decode cX4_axe 117 = .ok (.iload 6, 2) := by decide +kernel
theorem dX4_axe_119 : decode cX4_axe 119 = .ok (.iastore, 1) := by decide +kernel
theorem dX4_axe_120 : decode cX4_axe 120 = .ok (.iinc 3 1, 3) := by decide +kernel
theorem dX4_axe_123 : decode cX4_axe 123 = .ok (.iinc 4 1, 3) := by decide +kernel
theorem dX4_axe_126 : decode cX4_axe 126 = .ok (.goto (-97), 3) := by decide +kernel
theorem dX4_axe_129 : decode cX4_axe 129 = .ok (.aload_n 0, 1) := by decide +kernel
theorem dX4_axe_130 : decode cX4_axe 130 = .ok (.iload_n 3, 1) := by decide +kernel
theorem dX4_axe_131 : decode cX4_axe 131 = .ok (.putfield 79, 3) := by decide +kernel
theorem dX4_axe_134 : decode cX4_axe 134 = .ok (.aload_n 0, 1) := by decide +kernel
theorem dX4_axe_135 : decode cX4_axe 135 = .ok (.getfield 79, 3) := by decide +kernel
theorem dX4_axe_138 : decode cX4_axe 138 = .ok (.ireturn, 1) := by decide +kernel
theorem dX4_day_0 : decode cX4_day 0 = .ok (.aload_n 0, 1) := by decide +kernel
theorem dX4_day_1 : decode cX4_day 1 = .ok (.getfield 63, 3) := by decide +kernel
theorem dX4_day_4 : decode cX4_day 4 = .ok (.ifCond .ne 6, 3) := by decide +kernel
theorem dX4_day_7 : decode cX4_day 7 = .ok (.bipush (-103), 2) := by decide +kernel
theorem dX4_day_9 : decode cX4_day 9 = .ok (.ireturn, 1) := by decide +kernel
theorem dX4_day_10 : decode cX4_day 10 = .ok (.aload_n 0, 1) := by decide +kernel
theorem dX4_day_11 : decode cX4_day 11 = .ok (.invokevirtual 139, 3) := by decide +kernel
theorem dX4_day_14 : decode cX4_day 14 = .ok (.aload_n 0, 1) := by decide +kernel
theorem dX4_day_15 : decode cX4_day 15 = .ok (.invokevirtual 154, 3) := by decide +kernel
theorem dX4_day_18 : decode cX4_day 18 = .ok (.istore_n 1, 1) := by decide +kernel
theorem dX4_day_19 : decode cX4_day 19 = .ok (.iconst 0, 1) := by decide +kernel
theorem dX4_day_20 : decode cX4_day 20 = .ok (.istore_n 2, 1) := by decide +kernel
theorem dX4_day_21 : decode cX4_day 21 = .ok (.iload_n 2, 1) := by decide +kernel
theorem dX4_day_22 : decode cX4_day 22 = .ok (.aload_n 0, 1) := by decide +kernel
theorem dX4_day_23 : decode cX4_day 23 = .ok (.getfield 76, 3) := by decide +kernel
theorem dX4_day_26 : decode cX4_day 26 = .ok (.if_icmp .ge 25, 3) := by decide +kernel
theorem dX4_day_29 : decode cX4_day 29 = .ok (.aload_n 0, 1) := by decide +kernel
theorem dX4_day_30 : decode cX4_day 30 = .ok (.getfield 16, 3) := by decide +kernel
theorem dX4_day_33 : decode cX4_day 33 = .ok (.iconst 4, 1) := by decide +kernel
theorem dX4_day_34 : decode cX4_day 34 = .ok (.iload_n 2, 1) := by decide +kernel
theorem dX4_day_35 : decode cX4_day 35 = .ok (.imul, 1) := by decide +kernel
theorem dX4_day_36 : decode cX4_day 36 = .ok (.iconst 2, 1) := by decide +kernel
theorem dX4_day_37 : decode cX4_day 37 = .ok (.iadd, 1) := by decide +kernel
theorem dX4_day_38 : decode cX4_day 38 = .ok (.aload_n 0, 1) := by decide +kernel
theorem dX4_day_39 : decode cX4_day 39 = .ok (.getfield 22, 3) := by decide +kernel
theorem dX4_day_42 : decode cX4_day 42 = .ok (.iload_n 2, 1) := by decide +kernel
theorem dX4_day_43 : decode cX4_day 43 = .ok (.iaload, 1) := by decide +kernel
theorem dX4_day_44 : decode cX4_day 44 = .ok (.iastore, 1) := by decide +kernel
theorem dX4_day_45 : decode cX4_day 45 = .ok (.iinc 2 1, 3) := by decide +kernel
theorem dX4_day_48 : decode cX4_day 48 = .ok (.goto (-27), 3) := by decide +kernel
theorem dX4_day_51 : decode cX4_day 51 = .ok (.aload_n 0, 1) := by decide +kernel
theorem dX4_day_52 : decode cX4_day 52 = .ok (.aload_n 0, 1) := by decide +kernel
theorem dX4_day_53 : decode cX4_day 53 = .ok (.getfield 113, 3) := by decide +kernel
theorem dX4_day_56 : decode cX4_day 56 = .ok (.putfield 70, 3) := by decide +kernel
theorem dX4_day_59 : decode cX4_day 59 = .ok (.aload_n 0, 1) := by decide +kernel
theorem dX4_day_60 : decode cX4_day 60 = .ok (.dup, 1) := by decide +kernel
theorem dX4_day_61 : decode cX4_day 61 = .ok (.getfield 73, 3) := by decide +kernel
theorem dX4_day_64 : decode cX4_day 64 = .ok (.iload_n 1, 1) := by decide +kernel
theorem dX4_day_65 : decode cX4_day 65 = .ok (.iadd, 1) := by decide +kernel
theorem dX4_day_66 : decode cX4_day 66 = .ok (.putfield 73, 3) := by decide +kernel
theorem dX4_day_69 : decode cX4_day 69 = .ok (.iload_n 1, 1) := by decide +kernel
theorem dX4_day_70 : decode cX4_day 70 = .ok (.ireturn, 1) := by decide +kernel
theorem dX4_meetBy_0 : decode cX4_meetBy 0 = .ok (.aload_n 0, 1) := by decide +kernel
theorem dX4_meetBy_1 : decode cX4_meetBy 1 = .ok (.invokevirtual 139, 3) := by decide +kernel
theorem dX4_meetBy_4 : decode cX4_meetBy 4 = .ok (.aload_n 0, 1) := by decide +kernel
theorem dX4_meetBy_5 : decode cX4_meetBy 5 = .ok (.dup, 1) := by decide +kernel
theorem dX4_meetBy_6 : decode cX4_meetBy 6 = .ok (.getfield 107, 3) := by decide +kernel
theorem dX4_meetBy_9 : decode cX4_meetBy 9 = .ok (.iload_n 3, 1) := by decide +kernel
theorem dX4_meetBy_10 : decode cX4_meetBy 10 = .ok (.ior, 1) := by decide +kernel
theorem dX4_meetBy_11 : decode cX4_meetBy 11 = .ok (.putfield 107, 3) := by decide +kernel
theorem dX4_meetBy_14 : decode cX4_meetBy 14 = .ok (.iconst 0, 1) := by decide +kernel
theorem dX4_meetBy_15 : decode cX4_meetBy 15 = .ok (.istore 5, 2) := by decide +kernel
theorem dX4_meetBy_17 : decode cX4_meetBy 17 = .ok (.iload 5, 2) := by decide +kernel
theorem dX4_meetBy_19 : decode cX4_meetBy 19 = .ok (.iload 4, 2) := by decide +kernel
theorem dX4_meetBy_21 : decode cX4_meetBy 21 = .ok (.if_icmp .gt 36, 3) := by decide +kernel
theorem dX4_meetBy_24 : decode cX4_meetBy 24 = .ok (.aload_n 0, 1) := by decide +kernel
theorem dX4_meetBy_25 : decode cX4_meetBy 25 = .ok (.getfield 22, 3) := by decide +kernel
theorem dX4_meetBy_28 : decode cX4_meetBy 28 = .ok (.iload_n 1, 1) := by decide +kernel
theorem dX4_meetBy_29 : decode cX4_meetBy 29 = .ok (.iaload, 1) := by decide +kernel
theorem dX4_meetBy_30 : decode cX4_meetBy 30 = .ok (.aload_n 0, 1) := by decide +kernel
theorem dX4_meetBy_31 : decode cX4_meetBy 31 = .ok (.getfield 22, 3) := by decide +kernel
theorem dX4_meetBy_34 : decode cX4_meetBy 34 = .ok (.iload_n 2, 1) := by decide +kernel
theorem dX4_meetBy_35 : decode cX4_meetBy 35 = .ok (.iaload, 1) := by decide +kernel
theorem dX4_meetBy_36 : decode cX4_meetBy 36 = .ok (.invokestatic 132, 3) := by decide +kernel
theorem dX4_meetBy_39 : decode cX4_meetBy 39 = .ok (.ifCond .eq 6, 3) := by decide +kernel
theorem dX4_meetBy_42 : decode cX4_meetBy 42 = .ok (.iload 5, 2) := by decide +kernel
theorem dX4_meetBy_44 : decode cX4_meetBy 44 = .ok (.ireturn, 1) := by decide +kernel
theorem dX4_meetBy_45 : decode cX4_meetBy 45 = .ok (.aload_n 0, 1) := by decide +kernel
theorem dX4_meetBy_46 : decode cX4_meetBy 46 = .ok (.invokevirtual 154, 3) := by decide +kernel
theorem dX4_meetBy_49 : decode cX4_meetBy 49 = .ok (.istore 6, 2) := by decide +kernel
theorem dX4_meetBy_51 : decode cX4_meetBy 51 = .ok (.iinc 5 1, 3) := by decide +kernel
theorem dX4_meetBy_54 : decode cX4_meetBy 54 = .ok (.goto (-37), 3) := by decide +kernel
theorem dX4_meetBy_57 : decode cX4_meetBy 57 = .ok (.iconst (-1), 1) := by decide +kernel
theorem dX4_meetBy_58 : decode cX4_meetBy 58 = .ok (.ireturn, 1) := by decide +kernel
theorem dX4_meet_0 : decode cX4_meet 0 = .ok (.aload_n 0, 1) := by decide +kernel
theorem dX4_meet_1 : decode cX4_meet 1 = .ok (.iload_n 1, 1) := by decide +kernel
theorem dX4_meet_2 : decode cX4_meet 2 = .ok (.iload_n 2, 1) := by decide +kernel
theorem dX4_meet_3 : decode cX4_meet 3 = .ok (.invokevirtual 151, 3) := by decide +kernel
theorem dX4_meet_6 : decode cX4_meet 6 = .ok (.ifCond .eq 15, 3) := by decide +kernel
theorem dX4_meet_9 : decode cX4_meet 9 = .ok (.aload_n 0, 1) := by decide +kernel
theorem dX4_meet_10 : decode cX4_meet 10 = .ok (.iload_n 1, 1) := by decide +kernel
theorem dX4_meet_11 : decode cX4_meet 11 = .ok (.iload_n 2, 1) := by decide +kernel
theorem dX4_meet_12 : decode cX4_meet 12 = .ok (.iconst 0, 1) := by decide +kernel
