theorem dX0_init_0 : decode cX0_init 0 = .ok (.aload_n 0, 1) := by decide +kernel
theorem dX0_init_1 : decode cX0_init 1 = .ok (.invokespecial 3, 3) := by decide +kernel
theorem dX0_init_4 : decode cX0_init 4 = .ok (.aload_n 0, 1) := by decide +kernel
theorem dX0_init_5 : decode cX0_init 5 = .ok (.iconst 5, 1) := by decide +kernel
theorem dX0_init_6 : decode cX0_init 6 = .ok (.newarray .int, 2) := by decide +kernel
theorem dX0_init_8 : decode cX0_init 8 = .ok (.putfield 9, 3) := by decide +kernel
theorem dX0_init_11 : decode cX0_init 11 = .ok (.aload_n 0, 1) := by decide +kernel
theorem dX0_init_12 : decode cX0_init 12 = .ok (.iconst 5, 1) := by decide +kernel
theorem dX0_init_13 : decode cX0_init 13 = .ok (.newarray .int, 2) := by decide +kernel
theorem dX0_init_15 : decode cX0_init 15 = .ok (.putfield 15, 3) := by decide +kernel
theorem dX0_init_18 : decode cX0_init 18 = .ok (.aload_n 0, 1) := by decide +kernel
theorem dX0_init_19 : decode cX0_init 19 = .ok (.iconst 5, 1) := by decide +kernel
theorem dX0_init_20 : decode cX0_init 20 = .ok (.newarray .int, 2) := by decide +kernel
theorem dX0_init_22 : decode cX0_init 22 = .ok (.putfield 18, 3) := by decide +kernel
theorem dX0_init_25 : decode cX0_init 25 = .ok (.aload_n 0, 1) := by decide +kernel
theorem dX0_init_26 : decode cX0_init 26 = .ok (.iconst 5, 1) := by decide +kernel
theorem dX0_init_27 : decode cX0_init 27 = .ok (.newarray .int, 2) := by decide +kernel
theorem dX0_init_29 : decode cX0_init 29 = .ok (.putfield 21, 3) := by decide +kernel
theorem dX0_init_32 : decode cX0_init 32 = .ok (.aload_n 0, 1) := by decide +kernel
theorem dX0_init_33 : decode cX0_init 33 = .ok (.iconst 0, 1) := by decide +kernel
theorem dX0_init_34 : decode cX0_init 34 = .ok (.putfield 24, 3) := by decide +kernel
theorem dX0_init_37 : decode cX0_init 37 = .ok (.aload_n 0, 1) := by decide +kernel
theorem dX0_init_38 : decode cX0_init 38 = .ok (.iconst 0, 1) := by decide +kernel
theorem dX0_init_39 : decode cX0_init 39 = .ok (.putfield 28, 3) := by decide +kernel
theorem dX0_init_42 : decode cX0_init 42 = .ok (.aload_n 0, 1) := by decide +kernel
theorem dX0_init_43 : decode cX0_init 43 = .ok (.iconst (-1), 1) := by decide +kernel
theorem dX0_init_44 : decode cX0_init 44 = .ok (.putfield 31, 3) := by decide +kernel
theorem dX0_init_47 : decode cX0_init 47 = .ok (.return_, 1) := by decide +kernel
theorem dX0_solve_0 : decode cX0_solve 0 = .ok (.aload_n 0, 1) := by decide +kernel
theorem dX0_solve_1 : decode cX0_solve 1 = .ok (.aload_n 1, 1) := by decide +kernel
theorem dX0_solve_2 : decode cX0_solve 2 = .ok (.getfield 34, 3) := by decide +kernel
theorem dX0_solve_5 : decode cX0_solve 5 = .ok (.putfield 24, 3) := by decide +kernel
theorem dX0_solve_8 : decode cX0_solve 8 = .ok (.iconst 0, 1) := by decide +kernel
theorem dX0_solve_9 : decode cX0_solve 9 = .ok (.istore_n 3, 1) := by decide +kernel
theorem dX0_solve_10 : decode cX0_solve 10 = .ok (.iload_n 3, 1) := by decide +kernel
theorem dX0_solve_11 : decode cX0_solve 11 = .ok (.aload_n 0, 1) := by decide +kernel
theorem dX0_solve_12 : decode cX0_solve 12 = .ok (.getfield 24, 3) := by decide +kernel
theorem dX0_solve_15 : decode cX0_solve 15 = .ok (.if_icmp .ge 82, 3) := by decide +kernel
theorem dX0_solve_18 : decode cX0_solve 18 = .ok (.aload_n 0, 1) := by decide +kernel
theorem dX0_solve_19 : decode cX0_solve 19 = .ok (.getfield 9, 3) := by decide +kernel
theorem dX0_solve_22 : decode cX0_solve 22 = .ok (.iload_n 3, 1) := by decide +kernel
theorem dX0_solve_23 : decode cX0_solve 23 = .ok (.aload_n 1, 1) := by decide +kernel
theorem dX0_solve_24 : decode cX0_solve 24 = .ok (.getfield 37, 3) := by decide +kernel
theorem dX0_solve_27 : decode cX0_solve 27 = .ok (.iload_n 3, 1) := by decide +kernel
theorem dX0_solve_28 : decode cX0_solve 28 = .ok (.iaload, 1) := by decide +kernel
theorem dX0_solve_29 : decode cX0_solve 29 = .ok (.iastore, 1) := by decide +kernel
theorem dX0_solve_30 : decode cX0_solve 30 = .ok (.aload_n 0, 1) := by decide +kernel
theorem dX0_solve_31 : decode cX0_solve 31 = .ok (.getfield 15, 3) := by decide +kernel
theorem dX0_solve_34 : decode cX0_solve 34 = .ok (.iload_n 3, 1) := by decide +kernel
theorem dX0_solve_35 : decode cX0_solve 35 = .ok (.iconst 0, 1) := by decide +kernel
theorem dX0_solve_36 : decode cX0_solve 36 = .ok (.iastore, 1) := by decide +kernel
theorem dX0_solve_37 : decode cX0_solve 37 = .ok (.iconst 0, 1) := by decide +kernel
theorem dX0_solve_38 : decode cX0_solve 38 = .ok (.istore 4, 2) := by decide +kernel
theorem dX0_solve_40 : decode cX0_solve 40 = .ok (.iload 4, 2) := by decide +kernel
theorem dX0_solve_42 : decode cX0_solve 42 = .ok (.aload_n 0, 1) := by decide +kernel
theorem dX0_solve_43 : decode cX0_solve 43 = .ok (.getfield 24, 3) := by decide +kernel
theorem dX0_solve_46 : decode cX0_solve 46 = .ok (.if_icmp .ge 45, 3) := by decide +kernel
theorem dX0_solve_49 : decode cX0_solve 49 = .ok (.aload_n 2, 1) := by decide +kernel
theorem dX0_solve_50 : decode cX0_solve 50 = .ok (.iload_n 3, 1) := by decide +kernel
theorem dX0_solve_51 : decode cX0_solve 51 = .ok (.iconst 5, 1) := by decide +kernel
theorem dX0_solve_52 : decode cX0_solve 52 = .ok (.imul, 1) := by decide +kernel
theorem dX0_solve_53 : decode cX0_solve 53 = .ok (.iload 4, 2) := by decide +kernel
theorem dX0_solve_55 : decode cX0_solve 55 = .ok (.iadd, 1) := by decide +kernel
theorem dX0_solve_56 : decode cX0_solve 56 = .ok (.iaload, 1) := by decide +kernel
theorem dX0_solve_57 : decode cX0_solve 57 = .ok (.istore 5, 2) := by decide +kernel
theorem dX0_solve_59 : decode cX0_solve 59 = .ok (.iload 5, 2) := by decide +kernel
theorem dX0_solve_61 : decode cX0_solve 61 = .ok (.iconst (-1), 1) := by decide +kernel
theorem dX0_solve_62 : decode cX0_solve 62 = .ok (.if_icmp .eq 23, 3) := by decide +kernel
theorem dX0_solve_65 : decode cX0_solve 65 = .ok (.iload 5, 2) := by decide +kernel
theorem dX0_solve_67 : decode cX0_solve 67 = .ok (.bipush 30, 2) := by decide +kernel
theorem dX0_solve_69 : decode cX0_solve 69 = .ok (.if_icmp .gt 16, 3) := by decide +kernel
theorem dX0_solve_72 : decode cX0_solve 72 = .ok (.aload_n 0, 1) := by decide +kernel
theorem dX0_solve_73 : decode cX0_solve 73 = .ok (.getfield 15, 3) := by decide +kernel
theorem dX0_solve_76 : decode cX0_solve 76 = .ok (.iload_n 3, 1) := by decide +kernel
theorem dX0_solve_77 : decode cX0_solve 77 = .ok (.dup2, 1) := by decide +kernel
theorem dX0_solve_78 : decode cX0_solve 78 = .ok (.iaload, 1) := by decide +kernel
theorem dX0_solve_79 : decode cX0_solve 79 = .ok (.iconst 1, 1) := by decide +kernel
theorem dX0_solve_80 : decode cX0_solve 80 = .ok (.iload 4, 2) := by decide +kernel
theorem dX0_solve_82 : decode cX0_solve 82 = .ok (.ishl, 1) := by decide +kernel
theorem dX0_solve_83 : decode cX0_solve 83 = .ok (.ior, 1) := by decide +kernel
theorem dX0_solve_84 : decode cX0_solve 84 = .ok (.iastore, 1) := by decide +kernel
theorem dX0_solve_85 : decode cX0_solve 85 = .ok (.iinc 4 1, 3) := by decide +kernel
theorem dX0_solve_88 : decode cX0_solve 88 = .ok (.goto (-48), 3) := by decide +kernel
theorem dX0_solve_91 : decode cX0_solve 91 = .ok (.iinc 3 1, 3) := by decide +kernel
theorem dX0_solve_94 : decode cX0_solve 94 = .ok (.goto (-84), 3) := by decide +kernel
theorem dX0_solve_97 : decode cX0_solve 97 = .ok (.aload_n 0, 1) := by decide +kernel
theorem dX0_solve_98 : decode cX0_solve 98 = .ok (.getfield 18, 3) := by decide +kernel
theorem dX0_solve_101 : decode cX0_solve 101 = .ok (.iconst (-1), 1) := by decide +kernel
theorem dX0_solve_102 : decode cX0_solve 102 = .ok (.invokestatic 38, 3) := by decide +kernel
theorem dX0_solve_105 : decode cX0_solve 105 = .ok (.aload_n 0, 1) := by decide +kernel
theorem dX0_solve_106 : decode cX0_solve 106 = .ok (.getfield 21, 3) := by decide +kernel
theorem dX0_solve_109 : decode cX0_solve 109 = .ok (.iconst (-1), 1) := by decide +kernel
theorem dX0_solve_110 : decode cX0_solve 110 = .ok (.invokestatic 38, 3) := by decide +kernel
theorem dX0_solve_113 : decode cX0_solve 113 = .ok (.aload_n 0, 1) := by decide +kernel
theorem dX0_solve_114 : decode cX0_solve 114 = .ok (.iconst 0, 1) := by decide +kernel
theorem dX0_solve_115 : decode cX0_solve 115 = .ok (.putfield 28, 3) := by decide +kernel
theorem dX0_solve_118 : decode cX0_solve 118 = .ok (.aload_n 0, 1) := by decide +kernel
theorem dX0_solve_119 : decode cX0_solve 119 = .ok (.iconst (-1), 1) := by decide +kernel
theorem dX0_solve_120 : decode cX0_solve 120 = .ok (.putfield 31, 3) := by decide +kernel
theorem dX0_solve_123 : decode cX0_solve 123 = .ok (.aload_n 0, 1) := by decide +kernel
theorem dX0_solve_124 : decode cX0_solve 124 = .ok (.iconst 0, 1) := by decide +kernel
theorem dX0_solve_125 : decode cX0_solve 125 = .ok (.iconst 0, 1) := by decide +kernel
theorem dX0_solve_126 : decode cX0_solve 126 = .ok (.invokevirtual 44, 3) := by decide +kernel
theorem dX0_solve_129 : decode cX0_solve 129 = .ok (.return_, 1) := by decide +kernel
theorem dX0_goThrough_0 : decode cX0_goThrough 0 = .ok (.iload_n 1, 1) := by decide +kernel
theorem dX0_goThrough_1 : decode cX0_goThrough 1 = .ok (.aload_n 0, 1) := by decide +kernel
theorem dX0_goThrough_2 : decode cX0_goThrough 2 = .ok (.getfield 24, 3) := by decide +kernel
theorem dX0_goThrough_5 : decode cX0_goThrough 5 = .ok (.if_icmp .lt 9, 3) := by decide +kernel
theorem dX0_goThrough_8 : decode cX0_goThrough 8 = .ok (.aload_n 0, 1) := by decide +kernel
theorem dX0_goThrough_9 : decode cX0_goThrough 9 = .ok (.iload_n 2, 1) := by decide +kernel
theorem dX0_goThrough_10 : decode cX0_goThrough 10 = .ok (.invokevirtual 48, 3) := by decide +kernel
theorem dX0_goThrough_13 : decode cX0_goThrough 13 = .ok (.return_, 1) := by decide +kernel
theorem dX0_goThrough_14 : decode cX0_goThrough 14 = .ok (.aload_n 0, 1) := by decide +kernel
theorem dX0_goThrough_15 : decode cX0_goThrough 15 = .ok (.iload_n 1, 1) := by decide +kernel
theorem dX0_goThrough_16 : decode cX0_goThrough 16 = .ok (.iconst 1, 1) := by decide +kernel
theorem dX0_goThrough_17 : decode cX0_goThrough 17 = .ok (.iadd, 1) := by decide +kernel
theorem dX0_goThrough_18 : decode cX0_goThrough 18 = .ok (.iload_n 2, 1) := by decide +kernel
theorem dX0_goThrough_19 : decode cX0_goThrough 19 = .ok (.invokevirtual 44, 3) := by decide +kernel
theorem dX0_goThrough_22 : decode cX0_goThrough 22 = .ok (.aload_n 0, 1) := by decide +kernel
theorem dX0_goThrough_23 : decode cX0_goThrough 23 = .ok (.getfield 18, 3) := by decide +kernel
theorem dX0_goThrough_26 : decode cX0_goThrough 26 = .ok (.iload_n 1, 1) := by decide +kernel
theorem dX0_goThrough_27 : decode cX0_goThrough 27 = .ok (.iaload, 1) := by decide +kernel
theorem dX0_goThrough_28 : decode cX0_goThrough 28 = .ok (.iconst (-1), 1) := by decide +kernel
theorem dX0_goThrough_29 : decode cX0_goThrough 29 = .ok (.if_icmp .eq 4, 3) := by decide +kernel
theorem dX0_goThrough_32 : decode cX0_goThrough 32 = .ok (.return_, 1) := by decide +kernel
theorem dX0_goThrough_33 : decode cX0_goThrough 33 = .ok (.iload_n 1, 1) := by decide +kernel
theorem dX0_goThrough_34 : decode cX0_goThrough 34 = .ok (.iconst 1, 1) := by decide +kernel
theorem dX0_goThrough_35 : decode cX0_goThrough 35 = .ok (.iadd, 1) := by decide +kernel
theorem dX0_goThrough_36 : decode cX0_goThrough 36 = .ok (.istore_n 3, 1) := by decide +kernel
theorem dX0_goThrough_37 : decode cX0_goThrough 37 = .ok (.iload_n 3, 1) := by decide +kernel
theorem dX0_goThrough_38 : decode cX0_goThrough 38 = .ok (.aload_n 0, 1) := by decide +kernel
theorem dX0_goThrough_39 : decode cX0_goThrough 39 = .ok (.getfield 24, 3) := by decide +kernel
theorem dX0_goThrough_42 : decode cX0_goThrough 42 = .ok (.if_icmp .ge 71, 3) := by decide +kernel
theorem dX0_goThrough_45 : decode cX0_goThrough 45 = .ok (.aload_n 0, 1) := by decide +kernel
theorem dX0_goThrough_46 : decode cX0_goThrough 46 = .ok (.getfield 18, 3) := by decide +kernel
theorem dX0_goThrough_49 : decode cX0_goThrough 49 = .ok (.iload_n 3, 1) := by decide +kernel
theorem dX0_goThrough_50 : decode cX0_goThrough 50 = .ok (.iaload, 1) := by decide +kernel
theorem dX0_goThrough_51 : decode cX0_goThrough 51 = .ok (.iconst (-1), 1) := by decide +kernel
theorem dX0_goThrough_52 : decode cX0_goThrough 52 = .ok (.if_icmp .ne 55, 3) := by decide +kernel
theorem dX0_goThrough_55 : decode cX0_goThrough 55 = .ok (.aload_n 0, 1) := by decide +kernel
theorem dX0_goThrough_56 : decode cX0_goThrough 56 = .ok (.getfield 15, 3) := by decide +kernel
theorem dX0_goThrough_59 : decode cX0_goThrough 59 = .ok (.iload_n 1, 1) := by decide +kernel
theorem dX0_goThrough_60 : decode cX0_goThrough 60 = .ok (.iaload, 1) := by decide +kernel
theorem dX0_goThrough_61 : decode cX0_goThrough 61 = .ok (.iload_n 3, 1) := by decide +kernel
theorem dX0_goThrough_62 : decode cX0_goThrough 62 = .ok (.ishr, 1) := by decide +kernel
theorem dX0_goThrough_63 : decode cX0_goThrough 63 = .ok (.iconst 1, 1) := by decide +kernel
theorem dX0_goThrough_64 : decode cX0_goThrough 64 = .ok (.iand, 1) := by decide +kernel
theorem dX0_goThrough_65 : decode cX0_goThrough 65 = .ok (.iconst 1, 1) := by decide +kernel
theorem dX0_goThrough_66 : decode cX0_goThrough 66 = .ok (.if_icmp .ne 41, 3) := by decide +kernel
theorem dX0_goThrough_69 : decode cX0_goThrough 69 = .ok (.aload_n 0, 1) := by decide +kernel
theorem dX0_goThrough_70 : decode cX0_goThrough 70 = .ok (.getfield 18, 3) := by decide +kernel
theorem dX0_goThrough_73 : decode cX0_goThrough 73 = .ok (.iload_n 1, 1) := by decide +kernel
theorem dX0_goThrough_74 : decode cX0_goThrough 74 = .ok (.iload_n 3, 1) := by decide +kernel
theorem dX0_goThrough_75 : decode cX0_goThrough 75 = .ok (.iastore, 1) := by decide +kernel
theorem dX0_goThrough_76 : decode cX0_goThrough 76 = .ok (.aload_n 0, 1) := by decide +kernel
theorem dX0_goThrough_77 : decode cX0_goThrough 77 = .ok (.getfield 18, 3) := by decide +kernel
theorem dX0_goThrough_80 : decode cX0_goThrough 80 = .ok (.iload_n 3, 1) := by decide +kernel
theorem dX0_goThrough_81 : decode cX0_goThrough 81 = .ok (.iload_n 1, 1) := by decide +kernel
theorem dX0_goThrough_82 : decode cX0_goThrough 82 = .ok (.iastore, 1) := by decide +kernel
theorem dX0_goThrough_83 : decode cX0_goThrough 83 = .ok (.aload_n 0, 1) := by decide +kernel
theorem dX0_goThrough_84 : decode cX0_goThrough 84 = .ok (.iload_n 1, 1) := by decide +kernel
theorem dX0_goThrough_85 : decode cX0_goThrough 85 = .ok (.iconst 1, 1) := by decide +kernel
theorem dX0_goThrough_86 : decode cX0_goThrough 86 = .ok (.iadd, 1) := by decide +kernel
theorem dX0_goThrough_87 : decode cX0_goThrough 87 = .ok (.iload_n 2, 1) := by decide +kernel
theorem dX0_goThrough_88 : decode cX0_goThrough 88 = .ok (.iconst 1, 1) := by decide +kernel
theorem dX0_goThrough_89 : decode cX0_goThrough 89 = .ok (.iadd, 1) := by decide +kernel
theorem dX0_goThrough_90 : decode cX0_goThrough 90 = .ok (.invokevirtual 44, 3) := by decide +kernel
theorem dX0_goThrough_93 : decode cX0_goThrough 93 = .ok (.aload_n 0, 1) := by decide +kernel
theorem dX0_goThrough_94 : decode cX0_goThrough 94 = .ok (.getfield 18, 3) := by decide +kernel
theorem dX0_goThrough_97 : decode cX0_goThrough 97 = .ok (.iload_n 1, 1) := by decide +kernel
theorem dX0_goThrough_98 : decode cX0_goThrough 98 = .ok (.iconst (-1), 1) := by decide +kernel
theorem dX0_goThrough_99 : decode cX0_goThrough 99 = .ok (.iastore, 1) := by decide +kernel
theorem dX0_goThrough_100 : decode cX0_goThrough 100 = .ok (.aload_n 0, 1) := by decide +kernel
theorem dX0_goThrough_101 : decode cX0_goThrough 101 = .ok (.getfield 18, 3) := by decide +kernel
theorem dX0_goThrough_104 : decode cX0_goThrough 104 = .ok (.iload_n 3, 1) := by decide +kernel
theorem dX0_goThrough_105 : decode cX0_goThrough 105 = .ok (.iconst (-1), 1) := by decide +kernel
theorem dX0_goThrough_106 : decode cX0_goThrough 106 = .ok (.iastore, 1) := by decide +kernel
theorem dX0_goThrough_107 : decode cX0_goThrough 107 = .ok (.iinc 3 1, 3) := by decide +kernel
theorem dX0_goThrough_110 : decode cX0_goThrough 110 = .ok (.goto (-73), 3) := by decide +kernel
theorem dX0_goThrough_113 : decode cX0_goThrough 113 = .ok (.return_, 1) := by decide +kernel
theorem dX0_weigh_0 : decode cX0_weigh 0 = .ok (.aload_n 0, 1) := by decide +kernel
theorem dX0_weigh_1 : decode cX0_weigh 1 = .ok (.invokevirtual 52, 3) := by decide +kernel
theorem dX0_weigh_4 : decode cX0_weigh 4 = .ok (.ifCond .ne 4, 3) := by decide +kernel
theorem dX0_weigh_7 : decode cX0_weigh 7 = .ok (.return_, 1) := by decide +kernel
theorem dX0_weigh_8 : decode cX0_weigh 8 = .ok (.aload_n 0, 1) := by decide +kernel
theorem dX0_weigh_9 : decode cX0_weigh 9 = .ok (.dup, 1) := by decide +kernel
theorem dX0_weigh_10 : decode cX0_weigh 10 = .ok (.getfield 28, 3) := by decide +kernel
theorem dX0_weigh_13 : decode cX0_weigh 13 = .ok (.iconst 1, 1) := by decide +kernel
theorem dX0_weigh_14 : decode cX0_weigh 14 = .ok (.iadd, 1) := by decide +kernel
theorem dX0_weigh_15 : decode cX0_weigh 15 = .ok (.putfield 28, 3) := by decide +kernel
theorem dX0_weigh_18 : decode cX0_weigh 18 = .ok (.iload_n 1, 1) := by decide +kernel
theorem dX0_weigh_19 : decode cX0_weigh 19 = .ok (.aload_n 0, 1) := by decide +kernel
theorem dX0_weigh_20 : decode cX0_weigh 20 = .ok (.getfield 31, 3) := by decide +kernel
theorem dX0_weigh_23 : decode cX0_weigh 23 = .ok (.if_icmp .le 22, 3) := by decide +kernel
theorem dX0_weigh_26 : decode cX0_weigh 26 = .ok (.aload_n 0, 1) := by decide +kernel
theorem dX0_weigh_27 : decode cX0_weigh 27 = .ok (.iload_n 1, 1) := by decide +kernel
theorem dX0_weigh_28 : decode cX0_weigh 28 = .ok (.putfield 31, 3) := by decide +kernel
theorem dX0_weigh_31 : decode cX0_weigh 31 = .ok (.aload_n 0, 1) := by decide +kernel
theorem dX0_weigh_32 : decode cX0_weigh 32 = .ok (.getfield 18, 3) := by decide +kernel
theorem dX0_weigh_35 : decode cX0_weigh 35 = .ok (.iconst 0, 1) := by decide +kernel
theorem dX0_weigh_36 : decode cX0_weigh 36 = .ok (.aload_n 0, 1) := by decide +kernel
theorem dX0_weigh_37 : decode cX0_weigh 37 = .ok (.getfield 21, 3) := by decide +kernel
theorem dX0_weigh_40 : decode cX0_weigh 40 = .ok (.iconst 0, 1) := by decide +kernel
theorem dX0_weigh_41 : decode cX0_weigh 41 = .ok (.iconst 5, 1) := by decide +kernel
theorem dX0_weigh_42 : decode cX0_weigh 42 = .ok (.invokestatic 56, 3) := by decide +kernel
theorem dX0_weigh_45 : decode cX0_weigh 45 = .ok (.return_, 1) := by decide +kernel
theorem dX0_isStable_0 : decode cX0_isStable 0 = .ok (.iconst 0, 1) := by decide +kernel
theorem dX0_isStable_1 : decode cX0_isStable 1 = .ok (.istore_n 1, 1) := by decide +kernel
theorem dX0_isStable_2 : decode cX0_isStable 2 = .ok (.iload_n 1, 1) := by decide +kernel
theorem dX0_isStable_3 : decode cX0_isStable 3 = .ok (.aload_n 0, 1) := by decide +kernel
theorem dX0_isStable_4 : decode cX0_isStable 4 = .ok (.getfield 24, 3) := by decide +kernel
theorem dX0_isStable_7 : decode cX0_isStable 7 = .ok (.if_icmp .ge 91, 3) := by decide +kernel
theorem dX0_isStable_10 : decode cX0_isStable 10 = .ok (.iload_n 1, 1) := by decide +kernel
theorem dX0_isStable_11 : decode cX0_isStable 11 = .ok (.iconst 1, 1) := by decide +kernel
theorem dX0_isStable_12 : decode cX0_isStable 12 = .ok (.iadd, 1) := by decide +kernel
theorem dX0_isStable_13 : decode cX0_isStable 13 = .ok (.istore_n 2, 1) := by decide +kernel
theorem dX0_isStable_14 : decode cX0_isStable 14 = .ok (.iload_n 2, 1) := by decide +kernel
theorem dX0_isStable_15 : decode cX0_isStable 15 = .ok (.aload_n 0, 1) := by decide +kernel
theorem dX0_isStable_16 : decode cX0_isStable 16 = .ok (.getfield 24, 3) := by decide +kernel
theorem dX0_isStable_19 : decode cX0_isStable 19 = .ok (.if_icmp .ge 73, 3) := by decide +kernel
theorem dX0_isStable_22 : decode cX0_isStable 22 = .ok (.aload_n 0, 1) := by decide +kernel
theorem dX0_isStable_23 : decode cX0_isStable 23 = .ok (.getfield 15, 3) := by decide +kernel
theorem dX0_isStable_26 : decode cX0_isStable 26 = .ok (.iload_n 1, 1) := by decide +kernel
theorem dX0_isStable_27 : decode cX0_isStable 27 = .ok (.iaload, 1) := by decide +kernel
theorem dX0_isStable_28 : decode cX0_isStable 28 = .ok (.iload_n 2, 1) := by decide +kernel
theorem dX0_isStable_29 : decode cX0_isStable 29 = .ok (.ishr, 1) := by decide +kernel
theorem dX0_isStable_30 : decode cX0_isStable 30 = .ok (.iconst 1, 1) := by decide +kernel
theorem dX0_isStable_31 : decode cX0_isStable 31 = .ok (.iand, 1) := by decide +kernel
theorem dX0_isStable_32 : decode cX0_isStable 32 = .ok (.iconst 1, 1) := by decide +kernel
theorem dX0_isStable_33 : decode cX0_isStable 33 = .ok (.if_icmp .ne 7, 3) := by decide +kernel
theorem dX0_isStable_36 : decode cX0_isStable 36 = .ok (.iconst 1, 1) := by decide +kernel
theorem dX0_isStable_37 : decode cX0_isStable 37 = .ok (.goto 4, 3) := by decide +kernel
theorem dX0_isStable_40 : decode cX0_isStable 40 = .ok (.iconst 0, 1) := by decide +kernel
theorem dX0_isStable_41 : decode cX0_isStable 41 = .ok (.istore_n 3, 1) := by decide +kernel
theorem dX0_isStable_42 : decode cX0_isStable 42 = .ok (.iload_n 3, 1) := by decide +kernel
theorem dX0_isStable_43 : decode cX0_isStable 43 = .ok (.ifCond .eq 43, 3) := by decide +kernel
theorem dX0_isStable_46 : decode cX0_isStable 46 = .ok (.aload_n 0, 1) := by decide +kernel
theorem dX0_isStable_47 : decode cX0_isStable 47 = .ok (.getfield 18, 3) := by decide +kernel
theorem dX0_isStable_50 : decode cX0_isStable 50 = .ok (.iload_n 1, 1) := by decide +kernel
theorem dX0_isStable_51 : decode cX0_isStable 51 = .ok (.iaload, 1) := by decide +kernel
theorem dX0_isStable_52 : decode cX0_isStable 52 = .ok (.iload_n 2, 1) := by decide +kernel
theorem dX0_isStable_53 : decode cX0_isStable 53 = .ok (.if_icmp .eq 33, 3) := by decide +kernel
theorem dX0_isStable_56 : decode cX0_isStable 56 = .ok (.aload_n 0, 1) := by decide +kernel
theorem dX0_isStable_57 : decode cX0_isStable 57 = .ok (.iload_n 2, 1) := by decide +kernel
theorem dX0_isStable_58 : decode cX0_isStable 58 = .ok (.aload_n 0, 1) := by decide +kernel
theorem dX0_isStable_59 : decode cX0_isStable 59 = .ok (.getfield 18, 3) := by decide +kernel
theorem dX0_isStable_62 : decode cX0_isStable 62 = .ok (.iload_n 1, 1) := by decide +kernel
theorem dX0_isStable_63 : decode cX0_isStable 63 = .ok (.iaload, 1) := by decide +kernel
theorem dX0_isStable_64 : decode cX0_isStable 64 = .ok (.invokevirtual 62, 3) := by decide +kernel
theorem dX0_isStable_67 : decode cX0_isStable 67 = .ok (.ifCond .eq 19, 3) := by decide +kernel
theorem dX0_isStable_70 : decode cX0_isStable 70 = .ok (.aload_n 0, 1) := by decide +kernel
theorem dX0_isStable_71 : decode cX0_isStable 71 = .ok (.iload_n 1, 1) := by decide +kernel
theorem dX0_isStable_72 : decode cX0_isStable 72 = .ok (.aload_n 0, 1) := by decide +kernel
theorem dX0_isStable_73 : decode cX0_isStable 73 = .ok (.getfield 18, 3) := by decide +kernel
theorem dX0_isStable_76 : decode cX0_isStable 76 = .ok (.iload_n 2, 1) := by decide +kernel
theorem dX0_isStable_77 : decode cX0_isStable 77 = .ok (.iaload, 1) := by decide +kernel
theorem dX0_isStable_78 : decode cX0_isStable 78 = .ok (.invokevirtual 62, 3) := by decide +kernel
theorem dX0_isStable_81 : decode cX0_isStable 81 = .ok (.ifCond .eq 5, 3) := by decide +kernel
theorem dX0_isStable_84 : decode cX0_isStable 84 = .ok (.iconst 0, 1) := by decide +kernel
theorem dX0_isStable_85 : decode cX0_isStable 85 = .ok (.ireturn, 1) := by decide +kernel
theorem dX0_isStable_86 : decode cX0_isStable 86 = .ok (.iinc 2 1, 3) := by decide +kernel
theorem dX0_isStable_89 : decode cX0_isStable 89 = .ok (.goto (-75), 3) := by decide +kernel
theorem dX0_isStable_92 : decode cX0_isStable 92 = .ok (.iinc 1 1, 3) := by decide +kernel
theorem dX0_isStable_95 : decode cX0_isStable 95 = .ok (.goto (-93), 3) := by decide +kernel
theorem dX0_isStable_98 : decode cX0_isStable 98 = .ok (.iconst 1, 1) := by decide +kernel
theorem dX0_isStable_99 : decode cX0_isStable 99 = .ok (.ireturn, 1) := by decide +kernel
theorem dX0_likesBetter_0 : decode cX0_likesBetter 0 = .ok (.iload_n 2, 1) := by decide +kernel
theorem dX0_likesBetter_1 : decode cX0_likesBetter 1 = .ok (.iconst (-1), 1) := by decide +kernel
theorem dX0_likesBetter_2 : decode cX0_likesBetter 2 = .ok (.if_icmp .ne 5, 3) := by decide +kernel
theorem dX0_likesBetter_5 : decode cX0_likesBetter 5 = .ok (.iconst 1, 1) := by decide +kernel
theorem dX0_likesBetter_6 : decode cX0_likesBetter 6 = .ok (.ireturn, 1) := by decide +kernel
theorem dX0_likesBetter_7 : decode cX0_likesBetter 7 = .ok (.aload_n 0, 1) := by decide +kernel
theorem dX0_likesBetter_8 : decode cX0_likesBetter 8 = .ok (.getfield 9, 3) := by decide +kernel
theorem dX0_likesBetter_11 : decode cX0_likesBetter 11 = .ok (.iload_n 1, 1) := by decide +kernel
theorem dX0_likesBetter_12 : decode cX0_likesBetter 12 = .ok (.iaload, 1) := by decide +kernel
theorem dX0_likesBetter_13 : decode cX0_likesBetter 13 = .ok (.aload_n 0, 1) := by decide +kernel
theorem dX0_likesBetter_14 : decode cX0_likesBetter 14 = .ok (.getfield 9, 3) := by decide +kernel
theorem dX0_likesBetter_17 : decode cX0_likesBetter 17 = .ok (.iload_n 2, 1) := by decide +kernel
theorem dX0_likesBetter_18 : decode cX0_likesBetter 18 = .ok (.iaload, 1) := by decide +kernel
theorem dX0_likesBetter_19 : decode cX0_likesBetter 19 = .ok (.if_icmp .gt 23, 3) := by decide +kernel
theorem dX0_likesBetter_22 : decode cX0_likesBetter 22 = .ok (.aload_n 0, 1) := by decide +kernel
theorem dX0_likesBetter_23 : decode cX0_likesBetter 23 = .ok (.getfield 9, 3) := by decide +kernel
theorem dX0_likesBetter_26 : decode cX0_likesBetter 26 = .ok (.iload_n 1, 1) := by decide +kernel
theorem dX0_likesBetter_27 : decode cX0_likesBetter 27 = .ok (.iaload, 1) := by decide +kernel
theorem dX0_likesBetter_28 : decode cX0_likesBetter 28 = .ok (.aload_n 0, 1) := by decide +kernel
theorem dX0_likesBetter_29 : decode cX0_likesBetter 29 = .ok (.getfield 9, 3) := by decide +kernel
theorem dX0_likesBetter_32 : decode cX0_likesBetter 32 = .ok (.iload_n 2, 1) := by decide +kernel
theorem dX0_likesBetter_33 : decode cX0_likesBetter 33 = .ok (.iaload, 1) := by decide +kernel
theorem dX0_likesBetter_34 : decode cX0_likesBetter 34 = .ok (.if_icmp .ne 12, 3) := by decide +kernel
theorem dX0_likesBetter_37 : decode cX0_likesBetter 37 = .ok (.iload_n 1, 1) := by decide +kernel
theorem dX0_likesBetter_38 : decode cX0_likesBetter 38 = .ok (.iload_n 2, 1) := by decide +kernel
theorem dX0_likesBetter_39 : decode cX0_likesBetter 39 = .ok (.if_icmp .ge 7, 3) := by decide +kernel
theorem dX0_likesBetter_42 : decode cX0_likesBetter 42 = .ok (.iconst 1, 1) := by decide +kernel
theorem dX0_likesBetter_43 : decode cX0_likesBetter 43 = .ok (.goto 4, 3) := by decide +kernel
theorem dX0_likesBetter_46 : decode cX0_likesBetter 46 = .ok (.iconst 0, 1) := by decide +kernel
theorem dX0_likesBetter_47 : decode cX0_likesBetter 47 = .ok (.ireturn, 1) := by decide +kernel
theorem dX1_init_0 : decode cX1_init 0 = .ok (.aload_n 0, 1) := by decide +kernel
theorem dX1_init_1 : decode cX1_init 1 = .ok (.invokespecial 3, 3) := by decide +kernel
theorem dX1_init_4 : decode cX1_init 4 = .ok (.aload_n 0, 1) := by decide +kernel
theorem dX1_init_5 : decode cX1_init 5 = .ok (.bipush 8, 2) := by decide +kernel
theorem dX1_init_7 : decode cX1_init 7 = .ok (.newarray .int, 2) := by decide +kernel
theorem dX1_init_9 : decode cX1_init 9 = .ok (.putfield 9, 3) := by decide +kernel
theorem dX1_init_12 : decode cX1_init 12 = .ok (.aload_n 0, 1) := by decide +kernel
theorem dX1_init_13 : decode cX1_init 13 = .ok (.bipush 8, 2) := by decide +kernel
theorem dX1_init_15 : decode cX1_init 15 = .ok (.newarray .int, 2) := by decide +kernel
theorem dX1_init_17 : decode cX1_init 17 = .ok (.putfield 15, 3) := by decide +kernel
theorem dX1_init_20 : decode cX1_init 20 = .ok (.aload_n 0, 1) := by decide +kernel
theorem dX1_init_21 : decode cX1_init 21 = .ok (.bipush 8, 2) := by decide +kernel
theorem dX1_init_23 : decode cX1_init 23 = .ok (.newarray .int, 2) := by decide +kernel
theorem dX1_init_25 : decode cX1_init 25 = .ok (.putfield 18, 3) := by decide +kernel
theorem dX1_init_28 : decode cX1_init 28 = .ok (.aload_n 0, 1) := by decide +kernel
theorem dX1_init_29 : decode cX1_init 29 = .ok (.bipush 8, 2) := by decide +kernel
theorem dX1_init_31 : decode cX1_init 31 = .ok (.newarray .boolean, 2) := by decide +kernel
theorem dX1_init_33 : decode cX1_init 33 = .ok (.putfield 21, 3) := by decide +kernel
theorem dX1_init_36 : decode cX1_init 36 = .ok (.aload_n 0, 1) := by decide +kernel
theorem dX1_init_37 : decode cX1_init 37 = .ok (.iconst 0, 1) := by decide +kernel
theorem dX1_init_38 : decode cX1_init 38 = .ok (.putfield 25, 3) := by decide +kernel
theorem dX1_init_41 : decode cX1_init 41 = .ok (.return_, 1) := by decide +kernel
theorem dX1_add_0 : decode cX1_add 0 = .ok (.aload_n 0, 1) := by decide +kernel
theorem dX1_add_1 : decode cX1_add 1 = .ok (.getfield 9, 3) := by decide +kernel
theorem dX1_add_4 : decode cX1_add 4 = .ok (.aload_n 0, 1) := by decide +kernel
theorem dX1_add_5 : decode cX1_add 5 = .ok (.getfield 25, 3) := by decide +kernel
theorem dX1_add_8 : decode cX1_add 8 = .ok (.iload_n 1, 1) := by decide +kernel
theorem dX1_add_9 : decode cX1_add 9 = .ok (.iastore, 1) := by decide +kernel
theorem dX1_add_10 : decode cX1_add 10 = .ok (.aload_n 0, 1) := by decide +kernel
theorem dX1_add_11 : decode cX1_add 11 = .ok (.getfield 15, 3) := by decide +kernel
theorem dX1_add_14 : decode cX1_add 14 = .ok (.aload_n 0, 1) := by decide +kernel
theorem dX1_add_15 : decode cX1_add 15 = .ok (.getfield 25, 3) := by decide +kernel
theorem dX1_add_18 : decode cX1_add 18 = .ok (.iload_n 2, 1) := by decide +kernel
theorem dX1_add_19 : decode cX1_add 19 = .ok (.iastore, 1) := by decide +kernel
theorem dX1_add_20 : decode cX1_add 20 = .ok (.aload_n 0, 1) := by decide +kernel
theorem dX1_add_21 : decode cX1_add 21 = .ok (.getfield 18, 3) := by decide +kernel
theorem dX1_add_24 : decode cX1_add 24 = .ok (.aload_n 0, 1) := by decide +kernel
theorem dX1_add_25 : decode cX1_add 25 = .ok (.getfield 25, 3) := by decide +kernel
theorem dX1_add_28 : decode cX1_add 28 = .ok (.iload_n 3, 1) := by decide +kernel
theorem dX1_add_29 : decode cX1_add 29 = .ok (.iastore, 1) := by decide +kernel
theorem dX1_add_30 : decode cX1_add 30 = .ok (.aload_n 0, 1) := by decide +kernel
theorem dX1_add_31 : decode cX1_add 31 = .ok (.getfield 21, 3) := by decide +kernel
theorem dX1_add_34 : decode cX1_add 34 = .ok (.aload_n 0, 1) := by decide +kernel
theorem dX1_add_35 : decode cX1_add 35 = .ok (.getfield 25, 3) := by decide +kernel
theorem dX1_add_38 : decode cX1_add 38 = .ok (.iload 4, 2) := by decide +kernel
theorem dX1_add_40 : decode cX1_add 40 = .ok (.bastore, 1) := by decide +kernel
theorem dX1_add_41 : decode cX1_add 41 = .ok (.aload_n 0, 1) := by decide +kernel
theorem dX1_add_42 : decode cX1_add 42 = .ok (.dup, 1) := by decide +kernel
theorem dX1_add_43 : decode cX1_add 43 = .ok (.getfield 25, 3) := by decide +kernel
theorem dX1_add_46 : decode cX1_add 46 = .ok (.iconst 1, 1) := by decide +kernel
theorem dX1_add_47 : decode cX1_add 47 = .ok (.iadd, 1) := by decide +kernel
theorem dX1_add_48 : decode cX1_add 48 = .ok (.putfield 25, 3) := by decide +kernel
theorem dX1_add_51 : decode cX1_add 51 = .ok (.aload_n 0, 1) := by decide +kernel
theorem dX1_add_52 : decode cX1_add 52 = .ok (.getfield 25, 3) := by decide +kernel
theorem dX1_add_55 : decode cX1_add 55 = .ok (.ireturn, 1) := by decide +kernel
theorem dX1_copy_0 : decode cX1_copy 0 = .ok (.iconst 0, 1) := by decide +kernel
theorem dX1_copy_1 : decode cX1_copy 1 = .ok (.istore_n 2, 1) := by decide +kernel
theorem dX1_copy_2 : decode cX1_copy 2 = .ok (.iload_n 2, 1) := by decide +kernel
theorem dX1_copy_3 : decode cX1_copy 3 = .ok (.aload_n 1, 1) := by decide +kernel
theorem dX1_copy_4 : decode cX1_copy 4 = .ok (.getfield 25, 3) := by decide +kernel
theorem dX1_copy_7 : decode cX1_copy 7 = .ok (.if_icmp .ge 57, 3) := by decide +kernel
theorem dX1_copy_10 : decode cX1_copy 10 = .ok (.aload_n 0, 1) := by decide +kernel
theorem dX1_copy_11 : decode cX1_copy 11 = .ok (.getfield 9, 3) := by decide +kernel
theorem dX1_copy_14 : decode cX1_copy 14 = .ok (.iload_n 2, 1) := by decide +kernel
theorem dX1_copy_15 : decode cX1_copy 15 = .ok (.aload_n 1, 1) := by decide +kernel
theorem dX1_copy_16 : decode cX1_copy 16 = .ok (.getfield 9, 3) := by decide +kernel
theorem dX1_copy_19 : decode cX1_copy 19 = .ok (.iload_n 2, 1) := by decide +kernel
theorem dX1_copy_20 : decode cX1_copy 20 = .ok (.iaload, 1) := by decide +kernel
theorem dX1_copy_21 : decode cX1_copy 21 = .ok (.iastore, 1) := by decide +kernel
theorem dX1_copy_22 : decode cX1_copy 22 = .ok (.aload_n 0, 1) := by decide +kernel
theorem dX1_copy_23 : decode cX1_copy 23 = .ok (.getfield 15, 3) := by decide +kernel
theorem dX1_copy_26 : decode cX1_copy 26 = .ok (.iload_n 2, 1) := by decide +kernel
theorem dX1_copy_27 : decode cX1_copy 27 = .ok (.aload_n 1, 1) := by decide +kernel
theorem dX1_copy_28 : decode cX1_copy 28 = .ok (.getfield 15, 3) := by decide +kernel
theorem dX1_copy_31 : decode cX1_copy 31 = .ok (.iload_n 2, 1) := by decide +kernel
theorem dX1_copy_32 : decode cX1_copy 32 = .ok (.iaload, 1) := by decide +kernel
theorem dX1_copy_33 : decode cX1_copy 33 = .ok (.iastore, 1) := by decide +kernel
theorem dX1_copy_34 : decode cX1_copy 34 = .ok (.aload_n 0, 1) := by decide +kernel
theorem dX1_copy_35 : decode cX1_copy 35 = .ok (.getfield 18, 3) := by decide +kernel
theorem dX1_copy_38 : decode cX1_copy 38 = .ok (.iload_n 2, 1) := by decide +kernel
theorem dX1_copy_39 : decode cX1_copy 39 = .ok (.aload_n 1, 1) := by decide +kernel
theorem dX1_copy_40 : decode cX1_copy 40 = .ok (.getfield 18, 3) := by decide +kernel
theorem dX1_copy_43 : decode cX1_copy 43 = .ok (.iload_n 2, 1) := by decide +kernel
theorem dX1_copy_44 : decode cX1_copy 44 = .ok (.iaload, 1) := by decide +kernel
theorem dX1_copy_45 : decode cX1_copy 45 = .ok (.iastore, 1) := by decide +kernel
theorem dX1_copy_46 : decode cX1_copy 46 = .ok (.aload_n 0, 1) := by decide +kernel
theorem dX1_copy_47 : decode cX1_copy 47 = .ok (.getfield 21, 3) := by decide +kernel
theorem dX1_copy_50 : decode cX1_copy 50 = .ok (.iload_n 2, 1) := by decide +kernel
theorem dX1_copy_51 : decode cX1_copy 51 = .ok (.aload_n 1, 1) := by decide +kernel
theorem dX1_copy_52 : decode cX1_copy 52 = .ok (.getfield 21, 3) := by decide +kernel
theorem dX1_copy_55 : decode cX1_copy 55 = .ok (.iload_n 2, 1) := by decide +kernel
theorem dX1_copy_56 : decode cX1_copy 56 = .ok (.baload, 1) := by decide +kernel
theorem dX1_copy_57 : decode cX1_copy 57 = .ok (.bastore, 1) := by decide +kernel
theorem dX1_copy_58 : decode cX1_copy 58 = .ok (.iinc 2 1, 3) := by decide +kernel
theorem dX1_copy_61 : decode cX1_copy 61 = .ok (.goto (-59), 3) := by decide +kernel
theorem dX1_copy_64 : decode cX1_copy 64 = .ok (.aload_n 0, 1) := by decide +kernel
theorem dX1_copy_65 : decode cX1_copy 65 = .ok (.aload_n 1, 1) := by decide +kernel
theorem dX1_copy_66 : decode cX1_copy 66 = .ok (.getfield 25, 3) := by decide +kernel
theorem dX1_copy_69 : decode cX1_copy 69 = .ok (.putfield 25, 3) := by decide +kernel
theorem dX1_copy_72 : decode cX1_copy 72 = .ok (.return_, 1) := by decide +kernel
theorem dX1_lastDay_0 : decode cX1_lastDay 0 = .ok (.iconst (-1), 1) := by decide +kernel
theorem dX1_lastDay_1 : decode cX1_lastDay 1 = .ok (.istore_n 1, 1) := by decide +kernel
theorem dX1_lastDay_2 : decode cX1_lastDay 2 = .ok (.iconst 0, 1) := by decide +kernel
theorem dX1_lastDay_3 : decode cX1_lastDay 3 = .ok (.istore_n 2, 1) := by decide +kernel
theorem dX1_lastDay_4 : decode cX1_lastDay 4 = .ok (.iload_n 2, 1) := by decide +kernel
theorem dX1_lastDay_5 : decode cX1_lastDay 5 = .ok (.aload_n 0, 1) := by decide +kernel
theorem dX1_lastDay_6 : decode cX1_lastDay 6 = .ok (.getfield 25, 3) := by decide +kernel
theorem dX1_lastDay_9 : decode cX1_lastDay 9 = .ok (.if_icmp .ge 20, 3) := by decide +kernel
theorem dX1_lastDay_12 : decode cX1_lastDay 12 = .ok (.iload_n 1, 1) := by decide +kernel
theorem dX1_lastDay_13 : decode cX1_lastDay 13 = .ok (.aload_n 0, 1) := by decide +kernel
theorem dX1_lastDay_14 : decode cX1_lastDay 14 = .ok (.getfield 18, 3) := by decide +kernel
theorem dX1_lastDay_17 : decode cX1_lastDay 17 = .ok (.iload_n 2, 1) := by decide +kernel
theorem dX1_lastDay_18 : decode cX1_lastDay 18 = .ok (.iaload, 1) := by decide +kernel
theorem dX1_lastDay_19 : decode cX1_lastDay 19 = .ok (.invokestatic 29, 3) := by decide +kernel
theorem dX1_lastDay_22 : decode cX1_lastDay 22 = .ok (.istore_n 1, 1) := by decide +kernel
theorem dX1_lastDay_23 : decode cX1_lastDay 23 = .ok (.iinc 2 1, 3) := by decide +kernel
theorem dX1_lastDay_26 : decode cX1_lastDay 26 = .ok (.goto (-22), 3) := by decide +kernel
theorem dX1_lastDay_29 : decode cX1_lastDay 29 = .ok (.iload_n 1, 1) := by decide +kernel
theorem dX1_lastDay_30 : decode cX1_lastDay 30 = .ok (.ireturn, 1) := by decide +kernel
theorem dX1_holdOn_0 : decode cX1_holdOn 0 = .ok (.iconst 0, 1) := by decide +kernel
theorem dX1_holdOn_1 : decode cX1_holdOn 1 = .ok (.istore_n 3, 1) := by decide +kernel
theorem dX1_holdOn_2 : decode cX1_holdOn 2 = .ok (.iload_n 3, 1) := by decide +kernel
theorem dX1_holdOn_3 : decode cX1_holdOn 3 = .ok (.aload_n 0, 1) := by decide +kernel
theorem dX1_holdOn_4 : decode cX1_holdOn 4 = .ok (.getfield 25, 3) := by decide +kernel
theorem dX1_holdOn_7 : decode cX1_holdOn 7 = .ok (.if_icmp .ge 46, 3) := by decide +kernel
theorem dX1_holdOn_10 : decode cX1_holdOn 10 = .ok (.aload_n 0, 1) := by decide +kernel
theorem dX1_holdOn_11 : decode cX1_holdOn 11 = .ok (.getfield 18, 3) := by decide +kernel
theorem dX1_holdOn_14 : decode cX1_holdOn 14 = .ok (.iload_n 3, 1) := by decide +kernel
theorem dX1_holdOn_15 : decode cX1_holdOn 15 = .ok (.iaload, 1) := by decide +kernel
theorem dX1_holdOn_16 : decode cX1_holdOn 16 = .ok (.iload_n 1, 1) := by decide +kernel
theorem dX1_holdOn_17 : decode cX1_holdOn 17 = .ok (.if_icmp .ne 30, 3) := by decide +kernel
theorem dX1_holdOn_20 : decode cX1_holdOn 20 = .ok (.aload_n 2, 1) := by decide +kernel
theorem dX1_holdOn_21 : decode cX1_holdOn 21 = .ok (.aload_n 0, 1) := by decide +kernel
theorem dX1_holdOn_22 : decode cX1_holdOn 22 = .ok (.getfield 9, 3) := by decide +kernel
theorem dX1_holdOn_25 : decode cX1_holdOn 25 = .ok (.iload_n 3, 1) := by decide +kernel
theorem dX1_holdOn_26 : decode cX1_holdOn 26 = .ok (.iaload, 1) := by decide +kernel
theorem dX1_holdOn_27 : decode cX1_holdOn 27 = .ok (.aload_n 0, 1) := by decide +kernel
theorem dX1_holdOn_28 : decode cX1_holdOn 28 = .ok (.getfield 15, 3) := by decide +kernel
theorem dX1_holdOn_31 : decode cX1_holdOn 31 = .ok (.iload_n 3, 1) := by decide +kernel
theorem dX1_holdOn_32 : decode cX1_holdOn 32 = .ok (.iaload, 1) := by decide +kernel
theorem dX1_holdOn_33 : decode cX1_holdOn 33 = .ok (.invokevirtual 35, 3) := by decide +kernel
theorem dX1_holdOn_36 : decode cX1_holdOn 36 = .ok (.aload_n 0, 1) := by decide +kernel
theorem dX1_holdOn_37 : decode cX1_holdOn 37 = .ok (.getfield 21, 3) := by decide +kernel
theorem dX1_holdOn_40 : decode cX1_holdOn 40 = .ok (.iload_n 3, 1) := by decide +kernel
theorem dX1_holdOn_41 : decode cX1_holdOn 41 = .ok (.baload, 1) := by decide +kernel
theorem dX1_holdOn_42 : decode cX1_holdOn 42 = .ok (.if_icmp .eq 5, 3) := by decide +kernel
theorem dX1_holdOn_45 : decode cX1_holdOn 45 = .ok (.iconst 0, 1) := by decide +kernel
theorem dX1_holdOn_46 : decode cX1_holdOn 46 = .ok (.ireturn, 1) := by decide +kernel
theorem dX1_holdOn_47 : decode cX1_holdOn 47 = .ok (.iinc 3 1, 3) := by decide +kernel
theorem dX1_holdOn_50 : decode cX1_holdOn 50 = .ok (.goto (-48), 3) := by decide +kernel
theorem dX1_holdOn_53 : decode cX1_holdOn 53 = .ok (.iconst 1, 1) := by decide +kernel
theorem dX1_holdOn_54 : decode cX1_holdOn 54 = .ok (.ireturn, 1) := by decide +kernel
theorem dX2_init_0 : decode cX2_init 0 = .ok (.aload_n 0, 1) := by decide +kernel
theorem dX2_init_1 : decode cX2_init 1 = .ok (.invokespecial 3, 3) := by decide +kernel
theorem dX2_init_4 : decode cX2_init 4 = .ok (.aload_n 0, 1) := by decide +kernel
theorem dX2_init_5 : decode cX2_init 5 = .ok (.bipush 12, 2) := by decide +kernel
theorem dX2_init_7 : decode cX2_init 7 = .ok (.newarray .int, 2) := by decide +kernel
theorem dX2_init_9 : decode cX2_init 9 = .ok (.putfield 9, 3) := by decide +kernel
theorem dX2_init_12 : decode cX2_init 12 = .ok (.aload_n 0, 1) := by decide +kernel
theorem dX2_init_13 : decode cX2_init 13 = .ok (.iconst 5, 1) := by decide +kernel
theorem dX2_init_14 : decode cX2_init 14 = .ok (.newarray .int, 2) := by decide +kernel
theorem dX2_init_16 : decode cX2_init 16 = .ok (.putfield 15, 3) := by decide +kernel
theorem dX2_init_19 : decode cX2_init 19 = .ok (.aload_n 0, 1) := by decide +kernel
theorem dX2_init_20 : decode cX2_init 20 = .ok (.iconst 5, 1) := by decide +kernel
theorem dX2_init_21 : decode cX2_init 21 = .ok (.newarray .int, 2) := by decide +kernel
theorem dX2_init_23 : decode cX2_init 23 = .ok (.putfield 18, 3) := by decide +kernel
theorem dX2_init_26 : decode cX2_init 26 = .ok (.aload_n 0, 1) := by decide +kernel
theorem dX2_init_27 : decode cX2_init 27 = .ok (.iconst 5, 1) := by decide +kernel
theorem dX2_init_28 : decode cX2_init 28 = .ok (.newarray .int, 2) := by decide +kernel
theorem dX2_init_30 : decode cX2_init 30 = .ok (.putfield 21, 3) := by decide +kernel
theorem dX2_init_33 : decode cX2_init 33 = .ok (.aload_n 0, 1) := by decide +kernel
theorem dX2_init_34 : decode cX2_init 34 = .ok (.iconst 5, 1) := by decide +kernel
theorem dX2_init_35 : decode cX2_init 35 = .ok (.newarray .int, 2) := by decide +kernel
theorem dX2_init_37 : decode cX2_init 37 = .ok (.putfield 24, 3) := by decide +kernel
theorem dX2_init_40 : decode cX2_init 40 = .ok (.aload_n 0, 1) := by decide +kernel
theorem dX2_init_41 : decode cX2_init 41 = .ok (.iconst 5, 1) := by decide +kernel
theorem dX2_init_42 : decode cX2_init 42 = .ok (.newarray .int, 2) := by decide +kernel
theorem dX2_init_44 : decode cX2_init 44 = .ok (.putfield 27, 3) := by decide +kernel
theorem dX2_init_47 : decode cX2_init 47 = .ok (.aload_n 0, 1) := by decide +kernel
theorem dX2_init_48 : decode cX2_init 48 = .ok (.iconst 0, 1) := by decide +kernel
theorem dX2_init_49 : decode cX2_init 49 = .ok (.putfield 30, 3) := by decide +kernel
theorem dX2_init_52 : decode cX2_init 52 = .ok (.aload_n 0, 1) := by decide +kernel
theorem dX2_init_53 : decode cX2_init 53 = .ok (.iconst 0, 1) := by decide +kernel
theorem dX2_init_54 : decode cX2_init 54 = .ok (.putfield 34, 3) := by decide +kernel
theorem dX2_init_57 : decode cX2_init 57 = .ok (.aload_n 0, 1) := by decide +kernel
theorem dX2_init_58 : decode cX2_init 58 = .ok (.iconst 0, 1) := by decide +kernel
theorem dX2_init_59 : decode cX2_init 59 = .ok (.putfield 37, 3) := by decide +kernel
theorem dX2_init_62 : decode cX2_init 62 = .ok (.aload_n 0, 1) := by decide +kernel
theorem dX2_init_63 : decode cX2_init 63 = .ok (.iconst 0, 1) := by decide +kernel
theorem dX2_init_64 : decode cX2_init 64 = .ok (.putfield 40, 3) := by decide +kernel
theorem dX2_init_67 : decode cX2_init 67 = .ok (.aload_n 0, 1) := by decide +kernel
theorem dX2_init_68 : decode cX2_init 68 = .ok (.iconst 0, 1) := by decide +kernel
theorem dX2_init_69 : decode cX2_init 69 = .ok (.putfield 43, 3) := by decide +kernel
theorem dX2_init_72 : decode cX2_init 72 = .ok (.aload_n 0, 1) := by decide +kernel
theorem dX2_init_73 : decode cX2_init 73 = .ok (.iconst 0, 1) := by decide +kernel
theorem dX2_init_74 : decode cX2_init 74 = .ok (.putfield 46, 3) := by decide +kernel
theorem dX2_init_77 : decode cX2_init 77 = .ok (.return_, 1) := by decide +kernel
theorem dX2_clear_0 : decode cX2_clear 0 = .ok (.aload_n 0, 1) := by decide +kernel
theorem dX2_clear_1 : decode cX2_clear 1 = .ok (.iconst 0, 1) := by decide +kernel
theorem dX2_clear_2 : decode cX2_clear 2 = .ok (.putfield 30, 3) := by decide +kernel
theorem dX2_clear_5 : decode cX2_clear 5 = .ok (.aload_n 0, 1) := by decide +kernel
theorem dX2_clear_6 : decode cX2_clear 6 = .ok (.iconst 0, 1) := by decide +kernel
theorem dX2_clear_7 : decode cX2_clear 7 = .ok (.putfield 34, 3) := by decide +kernel
theorem dX2_clear_10 : decode cX2_clear 10 = .ok (.aload_n 0, 1) := by decide +kernel
theorem dX2_clear_11 : decode cX2_clear 11 = .ok (.iconst 0, 1) := by decide +kernel
theorem dX2_clear_12 : decode cX2_clear 12 = .ok (.putfield 37, 3) := by decide +kernel
theorem dX2_clear_15 : decode cX2_clear 15 = .ok (.aload_n 0, 1) := by decide +kernel
theorem dX2_clear_16 : decode cX2_clear 16 = .ok (.iconst 0, 1) := by decide +kernel
theorem dX2_clear_17 : decode cX2_clear 17 = .ok (.putfield 40, 3) := by decide +kernel
theorem dX2_clear_20 : decode cX2_clear 20 = .ok (.aload_n 0, 1) := by decide +kernel
theorem dX2_clear_21 : decode cX2_clear 21 = .ok (.iconst 0, 1) := by decide +kernel
theorem dX2_clear_22 : decode cX2_clear 22 = .ok (.putfield 43, 3) := by decide +kernel
theorem dX2_clear_25 : decode cX2_clear 25 = .ok (.aload_n 0, 1) := by decide +kernel
theorem dX2_clear_26 : decode cX2_clear 26 = .ok (.iconst 0, 1) := by decide +kernel
theorem dX2_clear_27 : decode cX2_clear 27 = .ok (.putfield 46, 3) := by decide +kernel
theorem dX2_clear_30 : decode cX2_clear 30 = .ok (.return_, 1) := by decide +kernel
theorem dX2_copy_0 : decode cX2_copy 0 = .ok (.aload_n 1, 1) := by decide +kernel
theorem dX2_copy_1 : decode cX2_copy 1 = .ok (.getfield 9, 3) := by decide +kernel
theorem dX2_copy_4 : decode cX2_copy 4 = .ok (.iconst 0, 1) := by decide +kernel
theorem dX2_copy_5 : decode cX2_copy 5 = .ok (.aload_n 0, 1) := by decide +kernel
theorem dX2_copy_6 : decode cX2_copy 6 = .ok (.getfield 9, 3) := by decide +kernel
theorem dX2_copy_9 : decode cX2_copy 9 = .ok (.iconst 0, 1) := by decide +kernel
theorem dX2_copy_10 : decode cX2_copy 10 = .ok (.bipush 12, 2) := by decide +kernel
theorem dX2_copy_12 : decode cX2_copy 12 = .ok (.invokestatic 49, 3) := by decide +kernel
theorem dX2_copy_15 : decode cX2_copy 15 = .ok (.aload_n 1, 1) := by decide +kernel
theorem dX2_copy_16 : decode cX2_copy 16 = .ok (.getfield 15, 3) := by decide +kernel
theorem dX2_copy_19 : decode cX2_copy 19 = .ok (.iconst 0, 1) := by decide +kernel
theorem dX2_copy_20 : decode cX2_copy 20 = .ok (.aload_n 0, 1) := by decide +kernel
theorem dX2_copy_21 : decode cX2_copy 21 = .ok (.getfield 15, 3) := by decide +kernel
theorem dX2_copy_24 : decode cX2_copy 24 = .ok (.iconst 0, 1) := by decide +kernel
theorem dX2_copy_25 : decode cX2_copy 25 = .ok (.iconst 5, 1) := by decide +kernel
theorem dX2_copy_26 : decode cX2_copy 26 = .ok (.invokestatic 49, 3) := by decide +kernel
theorem dX2_copy_29 : decode cX2_copy 29 = .ok (.aload_n 1, 1) := by decide +kernel
theorem dX2_copy_30 : decode cX2_copy 30 = .ok (.getfield 18, 3) := by decide +kernel
theorem dX2_copy_33 : decode cX2_copy 33 = .ok (.iconst 0, 1) := by decide +kernel
theorem dX2_copy_34 : decode cX2_copy 34 = .ok (.aload_n 0, 1) := by decide +kernel
theorem dX2_copy_35 : decode cX2_copy 35 = .ok (.getfield 18, 3) := by decide +kernel
theorem dX2_copy_38 : decode cX2_copy 38 = .ok (.iconst 0, 1) := by decide +kernel
theorem dX2_copy_39 : decode cX2_copy 39 = .ok (.iconst 5, 1) := by decide +kernel
theorem dX2_copy_40 : decode cX2_copy 40 = .ok (.invokestatic 49, 3) := by decide +kernel
theorem dX2_copy_43 : decode cX2_copy 43 = .ok (.aload_n 1, 1) := by decide +kernel
theorem dX2_copy_44 : decode cX2_copy 44 = .ok (.getfield 21, 3) := by decide +kernel
theorem dX2_copy_47 : decode cX2_copy 47 = .ok (.iconst 0, 1) := by decide +kernel
theorem dX2_copy_48 : decode cX2_copy 48 = .ok (.aload_n 0, 1) := by decide +kernel
theorem dX2_copy_49 : decode cX2_copy 49 = .ok (.getfield 21, 3) := by decide +kernel
theorem dX2_copy_52 : decode cX2_copy 52 = .ok (.iconst 0, 1) := by decide +kernel
theorem dX2_copy_53 : decode cX2_copy 53 = .ok (.iconst 5, 1) := by decide +kernel
theorem dX2_copy_54 : decode cX2_copy 54 = .ok (.invokestatic 49, 3) := by decide +kernel
theorem dX2_copy_57 : decode cX2_copy 57 = .ok (.aload_n 1, 1) := by decide +kernel
theorem dX2_copy_58 : decode cX2_copy 58 = .ok (.getfield 24, 3) := by decide +kernel
theorem dX2_copy_61 : decode cX2_copy 61 = .ok (.iconst 0, 1) := by decide +kernel
theorem dX2_copy_62 : decode cX2_copy 62 = .ok (.aload_n 0, 1) := by decide +kernel
theorem dX2_copy_63 : decode cX2_copy 63 = .ok (.getfield 24, 3) := by decide +kernel
theorem dX2_copy_66 : decode cX2_copy 66 = .ok (.iconst 0, 1) := by decide +kernel
theorem dX2_copy_67 : decode cX2_copy 67 = .ok (.iconst 5, 1) := by decide +kernel
theorem dX2_copy_68 : decode cX2_copy 68 = .ok (.invokestatic 49, 3) := by decide +kernel
theorem dX2_copy_71 : decode cX2_copy 71 = .ok (.aload_n 1, 1) := by decide +kernel
theorem dX2_copy_72 : decode cX2_copy 72 = .ok (.getfield 27, 3) := by decide +kernel
theorem dX2_copy_75 : decode cX2_copy 75 = .ok (.iconst 0, 1) := by decide +kernel
theorem dX2_copy_76 : decode cX2_copy 76 = .ok (.aload_n 0, 1) := by decide +kernel
theorem dX2_copy_77 : decode cX2_copy 77 = .ok (.getfield 27, 3) := by decide +kernel
theorem dX2_copy_80 : decode cX2_copy 80 = .ok (.iconst 0, 1) := by decide +kernel
theorem dX2_copy_81 : decode cX2_copy 81 = .ok (.iconst 5, 1) := by decide +kernel
theorem dX2_copy_82 : decode cX2_copy 82 = .ok (.invokestatic 49, 3) := by decide +kernel
theorem dX2_copy_85 : decode cX2_copy 85 = .ok (.aload_n 0, 1) := by decide +kernel
theorem dX2_copy_86 : decode cX2_copy 86 = .ok (.aload_n 1, 1) := by decide +kernel
theorem dX2_copy_87 : decode cX2_copy 87 = .ok (.getfield 30, 3) := by decide +kernel
theorem dX2_copy_90 : decode cX2_copy 90 = .ok (.putfield 30, 3) := by decide +kernel
theorem dX2_copy_93 : decode cX2_copy 93 = .ok (.aload_n 0, 1) := by decide +kernel
theorem dX2_copy_94 : decode cX2_copy 94 = .ok (.aload_n 1, 1) := by decide +kernel
theorem dX2_copy_95 : decode cX2_copy 95 = .ok (.getfield 34, 3) := by decide +kernel
theorem dX2_copy_98 : decode cX2_copy 98 = .ok (.putfield 34, 3) := by decide +kernel
theorem dX2_copy_101 : decode cX2_copy 101 = .ok (.aload_n 0, 1) := by decide +kernel
theorem dX2_copy_102 : decode cX2_copy 102 = .ok (.aload_n 1, 1) := by decide +kernel
theorem dX2_copy_103 : decode cX2_copy 103 = .ok (.getfield 37, 3) := by decide +kernel
theorem dX2_copy_106 : decode cX2_copy 106 = .ok (.putfield 37, 3) := by decide +kernel
theorem dX2_copy_109 : decode cX2_copy 109 = .ok (.aload_n 0, 1) := by decide +kernel
theorem dX2_copy_110 : decode cX2_copy 110 = .ok (.aload_n 1, 1) := by decide +kernel
theorem dX2_copy_111 : decode cX2_copy 111 = .ok (.getfield 40, 3) := by decide +kernel
theorem dX2_copy_114 : decode cX2_copy 114 = .ok (.putfield 40, 3) := by decide +kernel
theorem dX2_copy_117 : decode cX2_copy 117 = .ok (.aload_n 0, 1) := by decide +kernel
theorem dX2_copy_118 : decode cX2_copy 118 = .ok (.aload_n 1, 1) := by decide +kernel
theorem dX2_copy_119 : decode cX2_copy 119 = .ok (.getfield 43, 3) := by decide +kernel
theorem dX2_copy_122 : decode cX2_copy 122 = .ok (.putfield 43, 3) := by decide +kernel
theorem dX2_copy_125 : decode cX2_copy 125 = .ok (.aload_n 0, 1) := by decide +kernel
theorem dX2_copy_126 : decode cX2_copy 126 = .ok (.aload_n 1, 1) := by decide +kernel
theorem dX2_copy_127 : decode cX2_copy 127 = .ok (.getfield 46, 3) := by decide +kernel
theorem dX2_copy_130 : decode cX2_copy 130 = .ok (.putfield 46, 3) := by decide +kernel
theorem dX2_copy_133 : decode cX2_copy 133 = .ok (.return_, 1) := by decide +kernel
theorem dX2_currents_0 : decode cX2_currents 0 = .ok (.iconst 0, 1) := by decide +kernel
theorem dX2_currents_1 : decode cX2_currents 1 = .ok (.istore_n 1, 1) := by decide +kernel
theorem dX2_currents_2 : decode cX2_currents 2 = .ok (.iconst 0, 1) := by decide +kernel
theorem dX2_currents_3 : decode cX2_currents 3 = .ok (.istore_n 2, 1) := by decide +kernel
theorem dX2_currents_4 : decode cX2_currents 4 = .ok (.iload_n 2, 1) := by decide +kernel
theorem dX2_currents_5 : decode cX2_currents 5 = .ok (.bipush 12, 2) := by decide +kernel
theorem dX2_currents_7 : decode cX2_currents 7 = .ok (.if_icmp .ge 26, 3) := by decide +kernel
theorem dX2_currents_10 : decode cX2_currents 10 = .ok (.iload_n 1, 1) := by decide +kernel
theorem dX2_currents_11 : decode cX2_currents 11 = .ok (.aload_n 0, 1) := by decide +kernel
theorem dX2_currents_12 : decode cX2_currents 12 = .ok (.getfield 9, 3) := by decide +kernel
theorem dX2_currents_15 : decode cX2_currents 15 = .ok (.iload_n 2, 1) := by decide +kernel
theorem dX2_currents_16 : decode cX2_currents 16 = .ok (.iaload, 1) := by decide +kernel
theorem dX2_currents_17 : decode cX2_currents 17 = .ok (.ifCond .ne 7, 3) := by decide +kernel
theorem dX2_currents_20 : decode cX2_currents 20 = .ok (.iconst 0, 1) := by decide +kernel
theorem dX2_currents_21 : decode cX2_currents 21 = .ok (.goto 4, 3) := by decide +kernel
theorem dX2_currents_24 : decode cX2_currents 24 = .ok (.iconst 1, 1) := by decide +kernel
theorem dX2_currents_25 : decode cX2_currents 25 = .ok (.iadd, 1) := by decide +kernel
theorem dX2_currents_26 : decode cX2_currents 26 = .ok (.istore_n 1, 1) := by decide +kernel
theorem dX2_currents_27 : decode cX2_currents 27 = .ok (.iinc 2 1, 3) := by decide +kernel
theorem dX2_currents_30 : decode cX2_currents 30 = .ok (.goto (-26), 3) := by decide +kernel
theorem dX2_currents_33 : decode cX2_currents 33 = .ok (.iload_n 1, 1) := by decide +kernel
theorem dX2_currents_34 : decode cX2_currents 34 = .ok (.ireturn, 1) := by decide +kernel
theorem dX2_add_0 : decode cX2_add 0 = .ok (.aload_n 0, 1) := by decide +kernel
theorem dX2_add_1 : decode cX2_add 1 = .ok (.getfield 30, 3) := by decide +kernel
theorem dX2_add_4 : decode cX2_add 4 = .ok (.istore 4, 2) := by decide +kernel
theorem dX2_add_6 : decode cX2_add 6 = .ok (.aload_n 0, 1) := by decide +kernel
theorem dX2_add_7 : decode cX2_add 7 = .ok (.getfield 15, 3) := by decide +kernel
theorem dX2_add_10 : decode cX2_add 10 = .ok (.iload 4, 2) := by decide +kernel
theorem dX2_add_12 : decode cX2_add 12 = .ok (.iload_n 1, 1) := by decide +kernel
theorem dX2_add_13 : decode cX2_add 13 = .ok (.iastore, 1) := by decide +kernel
theorem dX2_add_14 : decode cX2_add 14 = .ok (.aload_n 0, 1) := by decide +kernel
theorem dX2_add_15 : decode cX2_add 15 = .ok (.getfield 18, 3) := by decide +kernel
theorem dX2_add_18 : decode cX2_add 18 = .ok (.iload 4, 2) := by decide +kernel
theorem dX2_add_20 : decode cX2_add 20 = .ok (.iload_n 2, 1) := by decide +kernel
theorem dX2_add_21 : decode cX2_add 21 = .ok (.iastore, 1) := by decide +kernel
theorem dX2_add_22 : decode cX2_add 22 = .ok (.aload_n 0, 1) := by decide +kernel
theorem dX2_add_23 : decode cX2_add 23 = .ok (.getfield 21, 3) := by decide +kernel
theorem dX2_add_26 : decode cX2_add 26 = .ok (.iload 4, 2) := by decide +kernel
theorem dX2_add_28 : decode cX2_add 28 = .ok (.iload_n 3, 1) := by decide +kernel
theorem dX2_add_29 : decode cX2_add 29 = .ok (.iastore, 1) := by decide +kernel
theorem dX2_add_30 : decode cX2_add 30 = .ok (.aload_n 0, 1) := by decide +kernel
theorem dX2_add_31 : decode cX2_add 31 = .ok (.getfield 24, 3) := by decide +kernel
theorem dX2_add_34 : decode cX2_add 34 = .ok (.iload 4, 2) := by decide +kernel
theorem dX2_add_36 : decode cX2_add 36 = .ok (.iconst 0, 1) := by decide +kernel
theorem dX2_add_37 : decode cX2_add 37 = .ok (.iastore, 1) := by decide +kernel
theorem dX2_add_38 : decode cX2_add 38 = .ok (.aload_n 0, 1) := by decide +kernel
theorem dX2_add_39 : decode cX2_add 39 = .ok (.getfield 27, 3) := by decide +kernel
theorem dX2_add_42 : decode cX2_add 42 = .ok (.iload 4, 2) := by decide +kernel
theorem dX2_add_44 : decode cX2_add 44 = .ok (.iconst 1, 1) := by decide +kernel
theorem dX2_add_45 : decode cX2_add 45 = .ok (.iload 4, 2) := by decide +kernel
theorem dX2_add_47 : decode cX2_add 47 = .ok (.ishl, 1) := by decide +kernel
theorem dX2_add_48 : decode cX2_add 48 = .ok (.iastore, 1) := by decide +kernel
theorem dX2_add_49 : decode cX2_add 49 = .ok (.aload_n 0, 1) := by decide +kernel
theorem dX2_add_50 : decode cX2_add 50 = .ok (.dup, 1) := by decide +kernel
theorem dX2_add_51 : decode cX2_add 51 = .ok (.getfield 30, 3) := by decide +kernel
theorem dX2_add_54 : decode cX2_add 54 = .ok (.iconst 1, 1) := by decide +kernel
theorem dX2_add_55 : decode cX2_add 55 = .ok (.iadd, 1) := by decide +kernel
theorem dX2_add_56 : decode cX2_add 56 = .ok (.putfield 30, 3) := by decide +kernel
theorem dX2_add_59 : decode cX2_add 59 = .ok (.iload 4, 2) := by decide +kernel
theorem dX2_add_61 : decode cX2_add 61 = .ok (.ireturn, 1) := by decide +kernel
theorem dX2_islandAt_0 : decode cX2_islandAt 0 = .ok (.iconst 0, 1) := by decide +kernel
theorem dX2_islandAt_1 : decode cX2_islandAt 1 = .ok (.istore_n 2, 1) := by decide +kernel
theorem dX2_islandAt_2 : decode cX2_islandAt 2 = .ok (.iload_n 2, 1) := by decide +kernel
theorem dX2_islandAt_3 : decode cX2_islandAt 3 = .ok (.aload_n 0, 1) := by decide +kernel
theorem dX2_islandAt_4 : decode cX2_islandAt 4 = .ok (.getfield 30, 3) := by decide +kernel
theorem dX2_islandAt_7 : decode cX2_islandAt 7 = .ok (.if_icmp .ge 21, 3) := by decide +kernel
theorem dX2_islandAt_10 : decode cX2_islandAt 10 = .ok (.aload_n 0, 1) := by decide +kernel
theorem dX2_islandAt_11 : decode cX2_islandAt 11 = .ok (.getfield 21, 3) := by decide +kernel
theorem dX2_islandAt_14 : decode cX2_islandAt 14 = .ok (.iload_n 2, 1) := by decide +kernel
theorem dX2_islandAt_15 : decode cX2_islandAt 15 = .ok (.iaload, 1) := by decide +kernel
theorem dX2_islandAt_16 : decode cX2_islandAt 16 = .ok (.iload_n 1, 1) := by decide +kernel
theorem dX2_islandAt_17 : decode cX2_islandAt 17 = .ok (.if_icmp .ne 5, 3) := by decide +kernel
theorem dX2_islandAt_20 : decode cX2_islandAt 20 = .ok (.iload_n 2, 1) := by decide +kernel
theorem dX2_islandAt_21 : decode cX2_islandAt 21 = .ok (.ireturn, 1) := by decide +kernel
theorem dX2_islandAt_22 : decode cX2_islandAt 22 = .ok (.iinc 2 1, 3) := by decide +kernel
theorem dX2_islandAt_25 : decode cX2_islandAt 25 = .ok (.goto (-23), 3) := by decide +kernel
theorem dX2_islandAt_28 : decode cX2_islandAt 28 = .ok (.iconst (-1), 1) := by decide +kernel
theorem dX2_islandAt_29 : decode cX2_islandAt 29 = .ok (.ireturn, 1) := by decide +kernel
theorem dX2_isAnchored_0 : decode cX2_isAnchored 0 = .ok (.aload_n 0, 1) := by decide +kernel
theorem dX2_isAnchored_1 : decode cX2_isAnchored 1 = .ok (.getfield 37, 3) := by decide +kernel
theorem dX2_isAnchored_4 : decode cX2_isAnchored 4 = .ok (.iload_n 1, 1) := by decide +kernel
theorem dX2_isAnchored_5 : decode cX2_isAnchored 5 = .ok (.ishr, 1) := by decide +kernel
theorem dX2_isAnchored_6 : decode cX2_isAnchored 6 = .ok (.iconst 1, 1) := by decide +kernel
theorem dX2_isAnchored_7 : decode cX2_isAnchored 7 = .ok (.iand, 1) := by decide +kernel
theorem dX2_isAnchored_8 : decode cX2_isAnchored 8 = .ok (.iconst 1, 1) := by decide +kernel
theorem dX2_isAnchored_9 : decode cX2_isAnchored 9 = .ok (.if_icmp .ne 7, 3) := by decide +kernel
theorem dX2_isAnchored_12 : decode cX2_isAnchored 12 = .ok (.iconst 1, 1) := by decide +kernel
theorem dX2_isAnchored_13 : decode cX2_isAnchored 13 = .ok (.goto 4, 3) := by decide +kernel
theorem dX2_isAnchored_16 : decode cX2_isAnchored 16 = .ok (.iconst 0, 1) := by decide +kernel
theorem dX2_isAnchored_17 : decode cX2_isAnchored 17 = .ok (.ireturn, 1) := by decide +kernel
theorem dX2_pushOf_0 : decode cX2_pushOf 0 = .ok (.aload_n 0, 1) := by decide +kernel
theorem dX2_pushOf_1 : decode cX2_pushOf 1 = .ok (.getfield 37, 3) := by decide +kernel
theorem dX2_pushOf_4 : decode cX2_pushOf 4 = .ok (.iload_n 1, 1) := by decide +kernel
theorem dX2_pushOf_5 : decode cX2_pushOf 5 = .ok (.ishr, 1) := by decide +kernel
theorem dX2_pushOf_6 : decode cX2_pushOf 6 = .ok (.iconst 1, 1) := by decide +kernel
theorem dX2_pushOf_7 : decode cX2_pushOf 7 = .ok (.iand, 1) := by decide +kernel
theorem dX2_pushOf_8 : decode cX2_pushOf 8 = .ok (.iconst 1, 1) := by decide +kernel
theorem dX2_pushOf_9 : decode cX2_pushOf 9 = .ok (.if_icmp .ne 5, 3) := by decide +kernel
theorem dX2_pushOf_12 : decode cX2_pushOf 12 = .ok (.iconst 0, 1) := by decide +kernel
theorem dX2_pushOf_13 : decode cX2_pushOf 13 = .ok (.ireturn, 1) := by decide +kernel
theorem dX2_pushOf_14 : decode cX2_pushOf 14 = .ok (.aload_n 0, 1) := by decide +kernel
theorem dX2_pushOf_15 : decode cX2_pushOf 15 = .ok (.getfield 15, 3) := by decide +kernel
theorem dX2_pushOf_18 : decode cX2_pushOf 18 = .ok (.iload_n 1, 1) := by decide +kernel
theorem dX2_pushOf_19 : decode cX2_pushOf 19 = .ok (.iaload, 1) := by decide +kernel
theorem dX2_pushOf_20 : decode cX2_pushOf 20 = .ok (.istore_n 2, 1) := by decide +kernel
theorem dX2_pushOf_21 : decode cX2_pushOf 21 = .ok (.aload_n 0, 1) := by decide +kernel
theorem dX2_pushOf_22 : decode cX2_pushOf 22 = .ok (.getfield 9, 3) := by decide +kernel
theorem dX2_pushOf_25 : decode cX2_pushOf 25 = .ok (.aload_n 0, 1) := by decide +kernel
theorem dX2_pushOf_26 : decode cX2_pushOf 26 = .ok (.getfield 21, 3) := by decide +kernel
theorem dX2_pushOf_29 : decode cX2_pushOf 29 = .ok (.iload_n 1, 1) := by decide +kernel
theorem dX2_pushOf_30 : decode cX2_pushOf 30 = .ok (.iaload, 1) := by decide +kernel
theorem dX2_pushOf_31 : decode cX2_pushOf 31 = .ok (.iaload, 1) := by decide +kernel
theorem dX2_pushOf_32 : decode cX2_pushOf 32 = .ok (.istore_n 3, 1) := by decide +kernel
theorem dX2_pushOf_33 : decode cX2_pushOf 33 = .ok (.iload_n 2, 1) := by decide +kernel
theorem dX2_pushOf_34 : decode cX2_pushOf 34 = .ok (.iconst 3, 1) := by decide +kernel
theorem dX2_pushOf_35 : decode cX2_pushOf 35 = .ok (.if_icmp .ne 15, 3) := by decide +kernel
theorem dX2_pushOf_38 : decode cX2_pushOf 38 = .ok (.aload_n 0, 1) := by decide +kernel
theorem dX2_pushOf_39 : decode cX2_pushOf 39 = .ok (.getfield 43, 3) := by decide +kernel
theorem dX2_pushOf_42 : decode cX2_pushOf 42 = .ok (.iconst 2, 1) := by decide +kernel
theorem dX2_pushOf_43 : decode cX2_pushOf 43 = .ok (.irem, 1) := by decide +kernel
theorem dX2_pushOf_44 : decode cX2_pushOf 44 = .ok (.ifCond .ne 6, 3) := by decide +kernel
theorem dX2_pushOf_47 : decode cX2_pushOf 47 = .ok (.iload_n 3, 1) := by decide +kernel
theorem dX2_pushOf_48 : decode cX2_pushOf 48 = .ok (.ineg, 1) := by decide +kernel
theorem dX2_pushOf_49 : decode cX2_pushOf 49 = .ok (.istore_n 3, 1) := by decide +kernel
theorem dX2_pushOf_50 : decode cX2_pushOf 50 = .ok (.getstatic 55, 3) := by decide +kernel
theorem dX2_pushOf_53 : decode cX2_pushOf 53 = .ok (.iload_n 2, 1) := by decide +kernel
theorem dX2_pushOf_54 : decode cX2_pushOf 54 = .ok (.iaload, 1) := by decide +kernel
theorem dX2_pushOf_55 : decode cX2_pushOf 55 = .ok (.iload_n 3, 1) := by decide +kernel
theorem dX2_pushOf_56 : decode cX2_pushOf 56 = .ok (.imul, 1) := by decide +kernel
theorem dX2_pushOf_57 : decode cX2_pushOf 57 = .ok (.getstatic 58, 3) := by decide +kernel
theorem dX2_pushOf_60 : decode cX2_pushOf 60 = .ok (.iload_n 2, 1) := by decide +kernel
theorem dX2_pushOf_61 : decode cX2_pushOf 61 = .ok (.iaload, 1) := by decide +kernel
theorem dX2_pushOf_62 : decode cX2_pushOf 62 = .ok (.aload_n 0, 1) := by decide +kernel
theorem dX2_pushOf_63 : decode cX2_pushOf 63 = .ok (.getfield 40, 3) := by decide +kernel
theorem dX2_pushOf_66 : decode cX2_pushOf 66 = .ok (.imul, 1) := by decide +kernel
theorem dX2_pushOf_67 : decode cX2_pushOf 67 = .ok (.iadd, 1) := by decide +kernel
theorem dX2_pushOf_68 : decode cX2_pushOf 68 = .ok (.ireturn, 1) := by decide +kernel
theorem dX2_areBeside_0 : decode cX2_areBeside 0 = .ok (.aload_n 0, 1) := by decide +kernel
theorem dX2_areBeside_1 : decode cX2_areBeside 1 = .ok (.getfield 21, 3) := by decide +kernel
theorem dX2_areBeside_4 : decode cX2_areBeside 4 = .ok (.iload_n 1, 1) := by decide +kernel
theorem dX2_areBeside_5 : decode cX2_areBeside 5 = .ok (.iaload, 1) := by decide +kernel
theorem dX2_areBeside_6 : decode cX2_areBeside 6 = .ok (.iconst 1, 1) := by decide +kernel
theorem dX2_areBeside_7 : decode cX2_areBeside 7 = .ok (.invokestatic 61, 3) := by decide +kernel
theorem dX2_areBeside_10 : decode cX2_areBeside 10 = .ok (.aload_n 0, 1) := by decide +kernel
theorem dX2_areBeside_11 : decode cX2_areBeside 11 = .ok (.getfield 21, 3) := by decide +kernel
theorem dX2_areBeside_14 : decode cX2_areBeside 14 = .ok (.iload_n 2, 1) := by decide +kernel
theorem dX2_areBeside_15 : decode cX2_areBeside 15 = .ok (.iaload, 1) := by decide +kernel
theorem dX2_areBeside_16 : decode cX2_areBeside 16 = .ok (.if_icmp .eq 22, 3) := by decide +kernel
theorem dX2_areBeside_19 : decode cX2_areBeside 19 = .ok (.aload_n 0, 1) := by decide +kernel
theorem dX2_areBeside_20 : decode cX2_areBeside 20 = .ok (.getfield 21, 3) := by decide +kernel
theorem dX2_areBeside_23 : decode cX2_areBeside 23 = .ok (.iload_n 2, 1) := by decide +kernel
theorem dX2_areBeside_24 : decode cX2_areBeside 24 = .ok (.iaload, 1) := by decide +kernel
theorem dX2_areBeside_25 : decode cX2_areBeside 25 = .ok (.iconst 1, 1) := by decide +kernel
theorem dX2_areBeside_26 : decode cX2_areBeside 26 = .ok (.invokestatic 61, 3) := by decide +kernel
theorem dX2_areBeside_29 : decode cX2_areBeside 29 = .ok (.aload_n 0, 1) := by decide +kernel
theorem dX2_areBeside_30 : decode cX2_areBeside 30 = .ok (.getfield 21, 3) := by decide +kernel
theorem dX2_areBeside_33 : decode cX2_areBeside 33 = .ok (.iload_n 1, 1) := by decide +kernel
theorem dX2_areBeside_34 : decode cX2_areBeside 34 = .ok (.iaload, 1) := by decide +kernel
theorem dX2_areBeside_35 : decode cX2_areBeside 35 = .ok (.if_icmp .ne 7, 3) := by decide +kernel
theorem dX2_areBeside_38 : decode cX2_areBeside 38 = .ok (.iconst 1, 1) := by decide +kernel
theorem dX2_areBeside_39 : decode cX2_areBeside 39 = .ok (.goto 4, 3) := by decide +kernel
theorem dX2_areBeside_42 : decode cX2_areBeside 42 = .ok (.iconst 0, 1) := by decide +kernel
theorem dX2_areBeside_43 : decode cX2_areBeside 43 = .ok (.ireturn, 1) := by decide +kernel
theorem dX2_neighbours_0 : decode cX2_neighbours 0 = .ok (.iconst 0, 1) := by decide +kernel
theorem dX2_neighbours_1 : decode cX2_neighbours 1 = .ok (.istore_n 2, 1) := by decide +kernel
theorem dX2_neighbours_2 : decode cX2_neighbours 2 = .ok (.iconst 0, 1) := by decide +kernel
theorem dX2_neighbours_3 : decode cX2_neighbours 3 = .ok (.istore_n 3, 1) := by decide +kernel
theorem dX2_neighbours_4 : decode cX2_neighbours 4 = .ok (.iload_n 3, 1) := by decide +kernel
theorem dX2_neighbours_5 : decode cX2_neighbours 5 = .ok (.aload_n 0, 1) := by decide +kernel
theorem dX2_neighbours_6 : decode cX2_neighbours 6 = .ok (.getfield 30, 3) := by decide +kernel
theorem dX2_neighbours_9 : decode cX2_neighbours 9 = .ok (.if_icmp .ge 24, 3) := by decide +kernel
theorem dX2_neighbours_12 : decode cX2_neighbours 12 = .ok (.aload_n 0, 1) := by decide +kernel
theorem dX2_neighbours_13 : decode cX2_neighbours 13 = .ok (.iload_n 1, 1) := by decide +kernel
theorem dX2_neighbours_14 : decode cX2_neighbours 14 = .ok (.iload_n 3, 1) := by decide +kernel
theorem dX2_neighbours_15 : decode cX2_neighbours 15 = .ok (.invokevirtual 65, 3) := by decide +kernel
theorem dX2_neighbours_18 : decode cX2_neighbours 18 = .ok (.ifCond .eq 9, 3) := by decide +kernel
theorem dX2_neighbours_21 : decode cX2_neighbours 21 = .ok (.iload_n 2, 1) := by decide +kernel
theorem dX2_neighbours_22 : decode cX2_neighbours 22 = .ok (.iconst 1, 1) := by decide +kernel
theorem dX2_neighbours_23 : decode cX2_neighbours 23 = .ok (.iload_n 3, 1) := by decide +kernel
theorem dX2_neighbours_24 : decode cX2_neighbours 24 = .ok (.ishl, 1) := by decide +kernel
theorem dX2_neighbours_25 : decode cX2_neighbours 25 = .ok (.ior, 1) := by decide +kernel
theorem dX2_neighbours_26 : decode cX2_neighbours 26 = .ok (.istore_n 2, 1) := by decide +kernel
theorem dX2_neighbours_27 : decode cX2_neighbours 27 = .ok (.iinc 3 1, 3) := by decide +kernel
theorem dX2_neighbours_30 : decode cX2_neighbours 30 = .ok (.goto (-26), 3) := by decide +kernel
theorem dX2_neighbours_33 : decode cX2_neighbours 33 = .ok (.iload_n 2, 1) := by decide +kernel
theorem dX2_neighbours_34 : decode cX2_neighbours 34 = .ok (.ireturn, 1) := by decide +kernel
theorem dX2_pairsBeside_0 : decode cX2_pairsBeside 0 = .ok (.iconst 0, 1) := by decide +kernel
theorem dX2_pairsBeside_1 : decode cX2_pairsBeside 1 = .ok (.istore_n 1, 1) := by decide +kernel
theorem dX2_pairsBeside_2 : decode cX2_pairsBeside 2 = .ok (.iconst 0, 1) := by decide +kernel
theorem dX2_pairsBeside_3 : decode cX2_pairsBeside 3 = .ok (.istore_n 2, 1) := by decide +kernel
theorem dX2_pairsBeside_4 : decode cX2_pairsBeside 4 = .ok (.iload_n 2, 1) := by decide +kernel
theorem dX2_pairsBeside_5 : decode cX2_pairsBeside 5 = .ok (.aload_n 0, 1) := by decide +kernel
theorem dX2_pairsBeside_6 : decode cX2_pairsBeside 6 = .ok (.getfield 30, 3) := by decide +kernel
theorem dX2_pairsBeside_9 : decode cX2_pairsBeside 9 = .ok (.if_icmp .ge 20, 3) := by decide +kernel
theorem dX2_pairsBeside_12 : decode cX2_pairsBeside 12 = .ok (.iload_n 1, 1) := by decide +kernel
theorem dX2_pairsBeside_13 : decode cX2_pairsBeside 13 = .ok (.aload_n 0, 1) := by decide +kernel
theorem dX2_pairsBeside_14 : decode cX2_pairsBeside 14 = .ok (.iload_n 2, 1) := by decide +kernel
theorem dX2_pairsBeside_15 : decode cX2_pairsBeside 15 = .ok (.invokevirtual 69, 3) := by decide +kernel
theorem dX2_pairsBeside_18 : decode cX2_pairsBeside 18 = .ok (.invokestatic 73, 3) := by decide +kernel
theorem dX2_pairsBeside_21 : decode cX2_pairsBeside 21 = .ok (.iadd, 1) := by decide +kernel
theorem dX2_pairsBeside_22 : decode cX2_pairsBeside 22 = .ok (.istore_n 1, 1) := by decide +kernel
theorem dX2_pairsBeside_23 : decode cX2_pairsBeside 23 = .ok (.iinc 2 1, 3) := by decide +kernel
theorem dX2_pairsBeside_26 : decode cX2_pairsBeside 26 = .ok (.goto (-22), 3) := by decide +kernel
theorem dX2_pairsBeside_29 : decode cX2_pairsBeside 29 = .ok (.iload_n 1, 1) := by decide +kernel
theorem dX2_pairsBeside_30 : decode cX2_pairsBeside 30 = .ok (.iconst 2, 1) := by decide +kernel
theorem dX2_pairsBeside_31 : decode cX2_pairsBeside 31 = .ok (.idiv, 1) := by decide +kernel
theorem dX2_pairsBeside_32 : decode cX2_pairsBeside 32 = .ok (.ireturn, 1) := by decide +kernel
theorem dX2_noteMeetings_0 : decode cX2_noteMeetings 0 = .ok (.iconst 0, 1) := by decide +kernel
theorem dX2_noteMeetings_1 : decode cX2_noteMeetings 1 = .ok (.istore_n 3, 1) := by decide +kernel
theorem dX2_noteMeetings_2 : decode cX2_noteMeetings 2 = .ok (.iload_n 3, 1) := by decide +kernel
theorem dX2_noteMeetings_3 : decode cX2_noteMeetings 3 = .ok (.aload_n 0, 1) := by decide +kernel
theorem dX2_noteMeetings_4 : decode cX2_noteMeetings 4 = .ok (.getfield 30, 3) := by decide +kernel
theorem dX2_noteMeetings_7 : decode cX2_noteMeetings 7 = .ok (.if_icmp .ge 69, 3) := by decide +kernel
theorem dX2_noteMeetings_10 : decode cX2_noteMeetings 10 = .ok (.iload_n 3, 1) := by decide +kernel
theorem dX2_noteMeetings_11 : decode cX2_noteMeetings 11 = .ok (.iconst 1, 1) := by decide +kernel
theorem dX2_noteMeetings_12 : decode cX2_noteMeetings 12 = .ok (.iadd, 1) := by decide +kernel
theorem dX2_noteMeetings_13 : decode cX2_noteMeetings 13 = .ok (.istore 4, 2) := by decide +kernel
theorem dX2_noteMeetings_15 : decode cX2_noteMeetings 15 = .ok (.iload 4, 2) := by decide +kernel
theorem dX2_noteMeetings_17 : decode cX2_noteMeetings 17 = .ok (.aload_n 0, 1) := by decide +kernel
theorem dX2_noteMeetings_18 : decode cX2_noteMeetings 18 = .ok (.getfield 30, 3) := by decide +kernel
theorem dX2_noteMeetings_21 : decode cX2_noteMeetings 21 = .ok (.if_icmp .ge 49, 3) := by decide +kernel
theorem dX2_noteMeetings_24 : decode cX2_noteMeetings 24 = .ok (.aload_n 1, 1) := by decide +kernel
theorem dX2_noteMeetings_25 : decode cX2_noteMeetings 25 = .ok (.iload_n 3, 1) := by decide +kernel
theorem dX2_noteMeetings_26 : decode cX2_noteMeetings 26 = .ok (.iconst 5, 1) := by decide +kernel
theorem dX2_noteMeetings_27 : decode cX2_noteMeetings 27 = .ok (.imul, 1) := by decide +kernel
theorem dX2_noteMeetings_28 : decode cX2_noteMeetings 28 = .ok (.iload 4, 2) := by decide +kernel
theorem dX2_noteMeetings_30 : decode cX2_noteMeetings 30 = .ok (.iadd, 1) := by decide +kernel
theorem dX2_noteMeetings_31 : decode cX2_noteMeetings 31 = .ok (.iaload, 1) := by decide +kernel
theorem dX2_noteMeetings_32 : decode cX2_noteMeetings 32 = .ok (.iconst (-1), 1) := by decide +kernel
theorem dX2_noteMeetings_33 : decode cX2_noteMeetings 33 = .ok (.if_icmp .ne 31, 3) := by decide +kernel
theorem dX2_noteMeetings_36 : decode cX2_noteMeetings 36 = .ok (.aload_n 0, 1) := by decide +kernel
theorem dX2_noteMeetings_37 : decode cX2_noteMeetings 37 = .ok (.iload_n 3, 1) := by decide +kernel
theorem dX2_noteMeetings_38 : decode cX2_noteMeetings 38 = .ok (.iload 4, 2) := by decide +kernel
theorem dX2_noteMeetings_40 : decode cX2_noteMeetings 40 = .ok (.invokevirtual 65, 3) := by decide +kernel
theorem dX2_noteMeetings_43 : decode cX2_noteMeetings 43 = .ok (.ifCond .eq 21, 3) := by decide +kernel
theorem dX2_noteMeetings_46 : decode cX2_noteMeetings 46 = .ok (.aload_n 1, 1) := by decide +kernel
theorem dX2_noteMeetings_47 : decode cX2_noteMeetings 47 = .ok (.iload_n 3, 1) := by decide +kernel
theorem dX2_noteMeetings_48 : decode cX2_noteMeetings 48 = .ok (.iconst 5, 1) := by decide +kernel
theorem dX2_noteMeetings_49 : decode cX2_noteMeetings 49 = .ok (.imul, 1) := by decide +kernel
theorem dX2_noteMeetings_50 : decode cX2_noteMeetings 50 = .ok (.iload 4, 2) := by decide +kernel
theorem dX2_noteMeetings_52 : decode cX2_noteMeetings 52 = .ok (.iadd, 1) := by decide +kernel
theorem dX2_noteMeetings_53 : decode cX2_noteMeetings 53 = .ok (.iload_n 2, 1) := by decide +kernel
theorem dX2_noteMeetings_54 : decode cX2_noteMeetings 54 = .ok (.iastore, 1) := by decide +kernel
theorem dX2_noteMeetings_55 : decode cX2_noteMeetings 55 = .ok (.aload_n 1, 1) := by decide +kernel
theorem dX2_noteMeetings_56 : decode cX2_noteMeetings 56 = .ok (.iload 4, 2) := by decide +kernel
theorem dX2_noteMeetings_58 : decode cX2_noteMeetings 58 = .ok (.iconst 5, 1) := by decide +kernel
theorem dX2_noteMeetings_59 : decode cX2_noteMeetings 59 = .ok (.imul, 1) := by decide +kernel
theorem dX2_noteMeetings_60 : decode cX2_noteMeetings 60 = .ok (.iload_n 3, 1) := by decide +kernel
theorem dX2_noteMeetings_61 : decode cX2_noteMeetings 61 = .ok (.iadd, 1) := by decide +kernel
theorem dX2_noteMeetings_62 : decode cX2_noteMeetings 62 = .ok (.iload_n 2, 1) := by decide +kernel
theorem dX2_noteMeetings_63 : decode cX2_noteMeetings 63 = .ok (.iastore, 1) := by decide +kernel
theorem dX2_noteMeetings_64 : decode cX2_noteMeetings 64 = .ok (.iinc 4 1, 3) := by decide +kernel
theorem dX2_noteMeetings_67 : decode cX2_noteMeetings 67 = .ok (.goto (-52), 3) := by decide +kernel
theorem dX2_noteMeetings_70 : decode cX2_noteMeetings 70 = .ok (.iinc 3 1, 3) := by decide +kernel
theorem dX2_noteMeetings_73 : decode cX2_noteMeetings 73 = .ok (.goto (-71), 3) := by decide +kernel
theorem dX2_noteMeetings_76 : decode cX2_noteMeetings 76 = .ok (.return_, 1) := by decide +kernel
theorem dX2_areRoped_0 : decode cX2_areRoped 0 = .ok (.aload_n 0, 1) := by decide +kernel
theorem dX2_areRoped_1 : decode cX2_areRoped 1 = .ok (.getfield 24, 3) := by decide +kernel
theorem dX2_areRoped_4 : decode cX2_areRoped 4 = .ok (.iload_n 1, 1) := by decide +kernel
theorem dX2_areRoped_5 : decode cX2_areRoped 5 = .ok (.iaload, 1) := by decide +kernel
theorem dX2_areRoped_6 : decode cX2_areRoped 6 = .ok (.iload_n 2, 1) := by decide +kernel
theorem dX2_areRoped_7 : decode cX2_areRoped 7 = .ok (.ishr, 1) := by decide +kernel
theorem dX2_areRoped_8 : decode cX2_areRoped 8 = .ok (.iconst 1, 1) := by decide +kernel
theorem dX2_areRoped_9 : decode cX2_areRoped 9 = .ok (.iand, 1) := by decide +kernel
theorem dX2_areRoped_10 : decode cX2_areRoped 10 = .ok (.iconst 1, 1) := by decide +kernel
theorem dX2_areRoped_11 : decode cX2_areRoped 11 = .ok (.if_icmp .ne 7, 3) := by decide +kernel
theorem dX2_areRoped_14 : decode cX2_areRoped 14 = .ok (.iconst 1, 1) := by decide +kernel
theorem dX2_areRoped_15 : decode cX2_areRoped 15 = .ok (.goto 4, 3) := by decide +kernel
theorem dX2_areRoped_18 : decode cX2_areRoped 18 = .ok (.iconst 0, 1) := by decide +kernel
theorem dX2_areRoped_19 : decode cX2_areRoped 19 = .ok (.ireturn, 1) := by decide +kernel
theorem dX2_tie_0 : decode cX2_tie 0 = .ok (.aload_n 0, 1) := by decide +kernel
theorem dX2_tie_1 : decode cX2_tie 1 = .ok (.getfield 24, 3) := by decide +kernel
theorem dX2_tie_4 : decode cX2_tie 4 = .ok (.iload_n 1, 1) := by decide +kernel
theorem dX2_tie_5 : decode cX2_tie 5 = .ok (.dup2, 1) := by decide +kernel
theorem dX2_tie_6 : decode cX2_tie 6 = .ok (.iaload, 1) := by decide +kernel
theorem dX2_tie_7 : decode cX2_tie 7 = .ok (.iconst 1, 1) := by decide +kernel
theorem dX2_tie_8 : decode cX2_tie 8 = .ok (.iload_n 2, 1) := by decide +kernel
theorem dX2_tie_9 : decode cX2_tie 9 = .ok (.ishl, 1) := by decide +kernel
theorem dX2_tie_10 : decode cX2_tie 10 = .ok (.ior, 1) := by decide +kernel
theorem dX2_tie_11 : decode cX2_tie 11 = .ok (.iastore, 1) := by decide +kernel
theorem dX2_tie_12 : decode cX2_tie 12 = .ok (.aload_n 0, 1) := by decide +kernel
theorem dX2_tie_13 : decode cX2_tie 13 = .ok (.getfield 24, 3) := by decide +kernel
theorem dX2_tie_16 : decode cX2_tie 16 = .ok (.iload_n 2, 1) := by decide +kernel
theorem dX2_tie_17 : decode cX2_tie 17 = .ok (.dup2, 1) := by decide +kernel
theorem dX2_tie_18 : decode cX2_tie 18 = .ok (.iaload, 1) := by decide +kernel
theorem dX2_tie_19 : decode cX2_tie 19 = .ok (.iconst 1, 1) := by decide +kernel
theorem dX2_tie_20 : decode cX2_tie 20 = .ok (.iload_n 1, 1) := by decide +kernel
theorem dX2_tie_21 : decode cX2_tie 21 = .ok (.ishl, 1) := by decide +kernel
theorem dX2_tie_22 : decode cX2_tie 22 = .ok (.ior, 1) := by decide +kernel
theorem dX2_tie_23 : decode cX2_tie 23 = .ok (.iastore, 1) := by decide +kernel
theorem dX2_tie_24 : decode cX2_tie 24 = .ok (.aload_n 0, 1) := by decide +kernel
theorem dX2_tie_25 : decode cX2_tie 25 = .ok (.dup, 1) := by decide +kernel
theorem dX2_tie_26 : decode cX2_tie 26 = .ok (.getfield 34, 3) := by decide +kernel
theorem dX2_tie_29 : decode cX2_tie 29 = .ok (.iconst 1, 1) := by decide +kernel
theorem dX2_tie_30 : decode cX2_tie 30 = .ok (.iadd, 1) := by decide +kernel
theorem dX2_tie_31 : decode cX2_tie 31 = .ok (.putfield 34, 3) := by decide +kernel
theorem dX2_tie_34 : decode cX2_tie 34 = .ok (.aload_n 0, 1) := by decide +kernel
theorem dX2_tie_35 : decode cX2_tie 35 = .ok (.invokevirtual 78, 3) := by decide +kernel
theorem dX2_tie_38 : decode cX2_tie 38 = .ok (.return_, 1) := by decide +kernel
theorem dX2_cut_0 : decode cX2_cut 0 = .ok (.aload_n 0, 1) := by decide +kernel
theorem dX2_cut_1 : decode cX2_cut 1 = .ok (.getfield 24, 3) := by decide +kernel
theorem dX2_cut_4 : decode cX2_cut 4 = .ok (.iload_n 1, 1) := by decide +kernel
theorem dX2_cut_5 : decode cX2_cut 5 = .ok (.dup2, 1) := by decide +kernel
theorem dX2_cut_6 : decode cX2_cut 6 = .ok (.iaload, 1) := by decide +kernel
theorem dX2_cut_7 : decode cX2_cut 7 = .ok (.iconst 1, 1) := by decide +kernel
theorem dX2_cut_8 : decode cX2_cut 8 = .ok (.iload_n 2, 1) := by decide +kernel
theorem dX2_cut_9 : decode cX2_cut 9 = .ok (.ishl, 1) := by decide +kernel
theorem dX2_cut_10 : decode cX2_cut 10 = .ok (.iconst (-1), 1) := by decide +kernel
theorem dX2_cut_11 : decode cX2_cut 11 = .ok (.ixor, 1) := by decide +kernel
theorem dX2_cut_12 : decode cX2_cut 12 = .ok (.iand, 1) := by decide +kernel
theorem dX2_cut_13 : decode cX2_cut 13 = .ok (.iastore, 1) := by decide +kernel
theorem dX2_cut_14 : decode cX2_cut 14 = .ok (.aload_n 0, 1) := by decide +kernel
theorem dX2_cut_15 : decode cX2_cut 15 = .ok (.getfield 24, 3) := by decide +kernel
theorem dX2_cut_18 : decode cX2_cut 18 = .ok (.iload_n 2, 1) := by decide +kernel
theorem dX2_cut_19 : decode cX2_cut 19 = .ok (.dup2, 1) := by decide +kernel
theorem dX2_cut_20 : decode cX2_cut 20 = .ok (.iaload, 1) := by decide +kernel
theorem dX2_cut_21 : decode cX2_cut 21 = .ok (.iconst 1, 1) := by decide +kernel
theorem dX2_cut_22 : decode cX2_cut 22 = .ok (.iload_n 1, 1) := by decide +kernel
theorem dX2_cut_23 : decode cX2_cut 23 = .ok (.ishl, 1) := by decide +kernel
theorem dX2_cut_24 : decode cX2_cut 24 = .ok (.iconst (-1), 1) := by decide +kernel
theorem dX2_cut_25 : decode cX2_cut 25 = .ok (.ixor, 1) := by decide +kernel
theorem dX2_cut_26 : decode cX2_cut 26 = .ok (.iand, 1) := by decide +kernel
theorem dX2_cut_27 : decode cX2_cut 27 = .ok (.iastore, 1) := by decide +kernel
theorem dX2_cut_28 : decode cX2_cut 28 = .ok (.aload_n 0, 1) := by decide +kernel
theorem dX2_cut_29 : decode cX2_cut 29 = .ok (.dup, 1) := by decide +kernel
theorem dX2_cut_30 : decode cX2_cut 30 = .ok (.getfield 34, 3) := by decide +kernel
theorem dX2_cut_33 : decode cX2_cut 33 = .ok (.iconst 1, 1) := by decide +kernel
theorem dX2_cut_34 : decode cX2_cut 34 = .ok (.isub, 1) := by decide +kernel
theorem dX2_cut_35 : decode cX2_cut 35 = .ok (.putfield 34, 3) := by decide +kernel
theorem dX2_cut_38 : decode cX2_cut 38 = .ok (.aload_n 0, 1) := by decide +kernel
theorem dX2_cut_39 : decode cX2_cut 39 = .ok (.invokevirtual 78, 3) := by decide +kernel
theorem dX2_cut_42 : decode cX2_cut 42 = .ok (.return_, 1) := by decide +kernel
theorem dX2_findParties_0 : decode cX2_findParties 0 = .ok (.iconst 0, 1) := by decide +kernel
theorem dX2_findParties_1 : decode cX2_findParties 1 = .ok (.istore_n 1, 1) := by decide +kernel
theorem dX2_findParties_2 : decode cX2_findParties 2 = .ok (.iload_n 1, 1) := by decide +kernel
theorem dX2_findParties_3 : decode cX2_findParties 3 = .ok (.aload_n 0, 1) := by decide +kernel
theorem dX2_findParties_4 : decode cX2_findParties 4 = .ok (.getfield 30, 3) := by decide +kernel
theorem dX2_findParties_7 : decode cX2_findParties 7 = .ok (.if_icmp .ge 20, 3) := by decide +kernel
theorem dX2_findParties_10 : decode cX2_findParties 10 = .ok (.aload_n 0, 1) := by decide +kernel
theorem dX2_findParties_11 : decode cX2_findParties 11 = .ok (.getfield 27, 3) := by decide +kernel
theorem dX2_findParties_14 : decode cX2_findParties 14 = .ok (.iload_n 1, 1) := by decide +kernel
theorem dX2_findParties_15 : decode cX2_findParties 15 = .ok (.aload_n 0, 1) := by decide +kernel
theorem dX2_findParties_16 : decode cX2_findParties 16 = .ok (.iload_n 1, 1) := by decide +kernel
theorem dX2_findParties_17 : decode cX2_findParties 17 = .ok (.invokevirtual 81, 3) := by decide +kernel
theorem dX2_findParties_20 : decode cX2_findParties 20 = .ok (.iastore, 1) := by decide +kernel
theorem dX2_findParties_21 : decode cX2_findParties 21 = .ok (.iinc 1 1, 3) := by decide +kernel
theorem dX2_findParties_24 : decode cX2_findParties 24 = .ok (.goto (-22), 3) := by decide +kernel
theorem dX2_findParties_27 : decode cX2_findParties 27 = .ok (.return_, 1) := by decide +kernel
theorem dX2_tiedTo_0 : decode cX2_tiedTo 0 = .ok (.iconst 1, 1) := by decide +kernel
theorem dX2_tiedTo_1 : decode cX2_tiedTo 1 = .ok (.iload_n 1, 1) := by decide +kernel
theorem dX2_tiedTo_2 : decode cX2_tiedTo 2 = .ok (.ishl, 1) := by decide +kernel
theorem dX2_tiedTo_3 : decode cX2_tiedTo 3 = .ok (.istore_n 2, 1) := by decide +kernel
theorem dX2_tiedTo_4 : decode cX2_tiedTo 4 = .ok (.iconst 1, 1) := by decide +kernel
theorem dX2_tiedTo_5 : decode cX2_tiedTo 5 = .ok (.istore_n 3, 1) := by decide +kernel
theorem dX2_tiedTo_6 : decode cX2_tiedTo 6 = .ok (.iload_n 3, 1) := by decide +kernel
theorem dX2_tiedTo_7 : decode cX2_tiedTo 7 = .ok (.aload_n 0, 1) := by decide +kernel
theorem dX2_tiedTo_8 : decode cX2_tiedTo 8 = .ok (.getfield 30, 3) := by decide +kernel
theorem dX2_tiedTo_11 : decode cX2_tiedTo 11 = .ok (.if_icmp .ge 47, 3) := by decide +kernel
theorem dX2_tiedTo_14 : decode cX2_tiedTo 14 = .ok (.iconst 0, 1) := by decide +kernel
theorem dX2_tiedTo_15 : decode cX2_tiedTo 15 = .ok (.istore 4, 2) := by decide +kernel
theorem dX2_tiedTo_17 : decode cX2_tiedTo 17 = .ok (.iload 4, 2) := by decide +kernel
theorem dX2_tiedTo_19 : decode cX2_tiedTo 19 = .ok (.aload_n 0, 1) := by decide +kernel
theorem dX2_tiedTo_20 : decode cX2_tiedTo 20 = .ok (.getfield 30, 3) := by decide +kernel
theorem dX2_tiedTo_23 : decode cX2_tiedTo 23 = .ok (.if_icmp .ge 29, 3) := by decide +kernel
theorem dX2_tiedTo_26 : decode cX2_tiedTo 26 = .ok (.iload_n 2, 1) := by decide +kernel
theorem dX2_tiedTo_27 : decode cX2_tiedTo 27 = .ok (.iload 4, 2) := by decide +kernel
theorem dX2_tiedTo_29 : decode cX2_tiedTo 29 = .ok (.ishr, 1) := by decide +kernel
theorem dX2_tiedTo_30 : decode cX2_tiedTo 30 = .ok (.iconst 1, 1) := by decide +kernel
theorem dX2_tiedTo_31 : decode cX2_tiedTo 31 = .ok (.iand, 1) := by decide +kernel
theorem dX2_tiedTo_32 : decode cX2_tiedTo 32 = .ok (.iconst 1, 1) := by decide +kernel
theorem dX2_tiedTo_33 : decode cX2_tiedTo 33 = .ok (.if_icmp .ne 13, 3) := by decide +kernel
theorem dX2_tiedTo_36 : decode cX2_tiedTo 36 = .ok (.iload_n 2, 1) := by decide +kernel
theorem dX2_tiedTo_37 : decode cX2_tiedTo 37 = .ok (.aload_n 0, 1) := by decide +kernel
theorem dX2_tiedTo_38 : decode cX2_tiedTo 38 = .ok (.getfield 24, 3) := by decide +kernel
theorem dX2_tiedTo_41 : decode cX2_tiedTo 41 = .ok (.iload 4, 2) := by decide +kernel
theorem dX2_tiedTo_43 : decode cX2_tiedTo 43 = .ok (.iaload, 1) := by decide +kernel
theorem dX2_tiedTo_44 : decode cX2_tiedTo 44 = .ok (.ior, 1) := by decide +kernel
theorem dX2_tiedTo_45 : decode cX2_tiedTo 45 = .ok (.istore_n 2, 1) := by decide +kernel
theorem dX2_tiedTo_46 : decode cX2_tiedTo 46 = .ok (.iinc 4 1, 3) := by decide +kernel
theorem dX2_tiedTo_49 : decode cX2_tiedTo 49 = .ok (.goto (-32), 3) := by decide +kernel
theorem dX2_tiedTo_52 : decode cX2_tiedTo 52 = .ok (.iinc 3 1, 3) := by decide +kernel
theorem dX2_tiedTo_55 : decode cX2_tiedTo 55 = .ok (.goto (-49), 3) := by decide +kernel
theorem dX2_tiedTo_58 : decode cX2_tiedTo 58 = .ok (.iload_n 2, 1) := by decide +kernel
theorem dX2_tiedTo_59 : decode cX2_tiedTo 59 = .ok (.ireturn, 1) := by decide +kernel
theorem dX2_leads_0 : decode cX2_leads 0 = .ok (.aload_n 0, 1) := by decide +kernel
theorem dX2_leads_1 : decode cX2_leads 1 = .ok (.getfield 27, 3) := by decide +kernel
theorem dX2_leads_4 : decode cX2_leads 4 = .ok (.iload_n 1, 1) := by decide +kernel
theorem dX2_leads_5 : decode cX2_leads 5 = .ok (.iaload, 1) := by decide +kernel
theorem dX2_leads_6 : decode cX2_leads 6 = .ok (.iconst 1, 1) := by decide +kernel
theorem dX2_leads_7 : decode cX2_leads 7 = .ok (.iload_n 1, 1) := by decide +kernel
theorem dX2_leads_8 : decode cX2_leads 8 = .ok (.ishl, 1) := by decide +kernel
theorem dX2_leads_9 : decode cX2_leads 9 = .ok (.iconst 1, 1) := by decide +kernel
theorem dX2_leads_10 : decode cX2_leads 10 = .ok (.isub, 1) := by decide +kernel
theorem dX2_leads_11 : decode cX2_leads 11 = .ok (.iand, 1) := by decide +kernel
theorem dX2_leads_12 : decode cX2_leads 12 = .ok (.ifCond .ne 7, 3) := by decide +kernel
theorem dX2_leads_15 : decode cX2_leads 15 = .ok (.iconst 1, 1) := by decide +kernel
theorem dX2_leads_16 : decode cX2_leads 16 = .ok (.goto 4, 3) := by decide +kernel
theorem dX2_leads_19 : decode cX2_leads 19 = .ok (.iconst 0, 1) := by decide +kernel
theorem dX2_leads_20 : decode cX2_leads 20 = .ok (.ireturn, 1) := by decide +kernel
theorem dX2_parties_0 : decode cX2_parties 0 = .ok (.iconst 0, 1) := by decide +kernel
theorem dX2_parties_1 : decode cX2_parties 1 = .ok (.istore_n 1, 1) := by decide +kernel
theorem dX2_parties_2 : decode cX2_parties 2 = .ok (.iconst 0, 1) := by decide +kernel
theorem dX2_parties_3 : decode cX2_parties 3 = .ok (.istore_n 2, 1) := by decide +kernel
theorem dX2_parties_4 : decode cX2_parties 4 = .ok (.iload_n 2, 1) := by decide +kernel
theorem dX2_parties_5 : decode cX2_parties 5 = .ok (.aload_n 0, 1) := by decide +kernel
theorem dX2_parties_6 : decode cX2_parties 6 = .ok (.getfield 30, 3) := by decide +kernel
theorem dX2_parties_9 : decode cX2_parties 9 = .ok (.if_icmp .ge 25, 3) := by decide +kernel
theorem dX2_parties_12 : decode cX2_parties 12 = .ok (.iload_n 1, 1) := by decide +kernel
theorem dX2_parties_13 : decode cX2_parties 13 = .ok (.aload_n 0, 1) := by decide +kernel
theorem dX2_parties_14 : decode cX2_parties 14 = .ok (.iload_n 2, 1) := by decide +kernel
theorem dX2_parties_15 : decode cX2_parties 15 = .ok (.invokevirtual 84, 3) := by decide +kernel
theorem dX2_parties_18 : decode cX2_parties 18 = .ok (.ifCond .eq 7, 3) := by decide +kernel
theorem dX2_parties_21 : decode cX2_parties 21 = .ok (.iconst 1, 1) := by decide +kernel
theorem dX2_parties_22 : decode cX2_parties 22 = .ok (.goto 4, 3) := by decide +kernel
theorem dX2_parties_25 : decode cX2_parties 25 = .ok (.iconst 0, 1) := by decide +kernel
theorem dX2_parties_26 : decode cX2_parties 26 = .ok (.iadd, 1) := by decide +kernel
theorem dX2_parties_27 : decode cX2_parties 27 = .ok (.istore_n 1, 1) := by decide +kernel
theorem dX2_parties_28 : decode cX2_parties 28 = .ok (.iinc 2 1, 3) := by decide +kernel
theorem dX2_parties_31 : decode cX2_parties 31 = .ok (.goto (-27), 3) := by decide +kernel
theorem dX2_parties_34 : decode cX2_parties 34 = .ok (.iload_n 1, 1) := by decide +kernel
theorem dX2_parties_35 : decode cX2_parties 35 = .ok (.ireturn, 1) := by decide +kernel
theorem dX2_fewestCuts_0 : decode cX2_fewestCuts 0 = .ok (.aload_n 0, 1) := by decide +kernel
theorem dX2_fewestCuts_1 : decode cX2_fewestCuts 1 = .ok (.getfield 34, 3) := by decide +kernel
theorem dX2_fewestCuts_4 : decode cX2_fewestCuts 4 = .ok (.istore_n 3, 1) := by decide +kernel
theorem dX2_fewestCuts_5 : decode cX2_fewestCuts 5 = .ok (.iconst 1, 1) := by decide +kernel
theorem dX2_fewestCuts_6 : decode cX2_fewestCuts 6 = .ok (.aload_n 0, 1) := by decide +kernel
theorem dX2_fewestCuts_7 : decode cX2_fewestCuts 7 = .ok (.getfield 30, 3) := by decide +kernel
theorem dX2_fewestCuts_10 : decode cX2_fewestCuts 10 = .ok (.ishl, 1) := by decide +kernel
theorem dX2_fewestCuts_11 : decode cX2_fewestCuts 11 = .ok (.istore 4, 2) := by decide +kernel
theorem dX2_fewestCuts_13 : decode cX2_fewestCuts 13 = .ok (.iconst 0, 1) := by decide +kernel
theorem dX2_fewestCuts_14 : decode cX2_fewestCuts 14 = .ok (.istore 5, 2) := by decide +kernel
theorem dX2_fewestCuts_16 : decode cX2_fewestCuts 16 = .ok (.iload 5, 2) := by decide +kernel
theorem dX2_fewestCuts_18 : decode cX2_fewestCuts 18 = .ok (.iload 4, 2) := by decide +kernel
theorem dX2_fewestCuts_20 : decode cX2_fewestCuts 20 = .ok (.if_icmp .ge 39, 3) := by decide +kernel
theorem dX2_fewestCuts_23 : decode cX2_fewestCuts 23 = .ok (.iload 5, 2) := by decide +kernel
theorem dX2_fewestCuts_25 : decode cX2_fewestCuts 25 = .ok (.iload_n 1, 1) := by decide +kernel
theorem dX2_fewestCuts_26 : decode cX2_fewestCuts 26 = .ok (.ishr, 1) := by decide +kernel
theorem dX2_fewestCuts_27 : decode cX2_fewestCuts 27 = .ok (.iconst 1, 1) := by decide +kernel
theorem dX2_fewestCuts_28 : decode cX2_fewestCuts 28 = .ok (.iand, 1) := by decide +kernel
theorem dX2_fewestCuts_29 : decode cX2_fewestCuts 29 = .ok (.iconst 1, 1) := by decide +kernel
theorem dX2_fewestCuts_30 : decode cX2_fewestCuts 30 = .ok (.if_icmp .ne 23, 3) := by decide +kernel
theorem dX2_fewestCuts_33 : decode cX2_fewestCuts 33 = .ok (.iload 5, 2) := by decide +kernel
theorem dX2_fewestCuts_35 : decode cX2_fewestCuts 35 = .ok (.iload_n 2, 1) := by decide +kernel
theorem dX2_fewestCuts_36 : decode cX2_fewestCuts 36 = .ok (.ishr, 1) := by decide +kernel
theorem dX2_fewestCuts_37 : decode cX2_fewestCuts 37 = .ok (.iconst 1, 1) := by decide +kernel
theorem dX2_fewestCuts_38 : decode cX2_fewestCuts 38 = .ok (.iand, 1) := by decide +kernel
theorem dX2_fewestCuts_39 : decode cX2_fewestCuts 39 = .ok (.ifCond .ne 14, 3) := by decide +kernel
theorem dX2_fewestCuts_42 : decode cX2_fewestCuts 42 = .ok (.iload_n 3, 1) := by decide +kernel
theorem dX2_fewestCuts_43 : decode cX2_fewestCuts 43 = .ok (.aload_n 0, 1) := by decide +kernel
theorem dX2_fewestCuts_44 : decode cX2_fewestCuts 44 = .ok (.iload 5, 2) := by decide +kernel
theorem dX2_fewestCuts_46 : decode cX2_fewestCuts 46 = .ok (.invokevirtual 88, 3) := by decide +kernel
theorem dX2_fewestCuts_49 : decode cX2_fewestCuts 49 = .ok (.invokestatic 91, 3) := by decide +kernel
theorem dX2_fewestCuts_52 : decode cX2_fewestCuts 52 = .ok (.istore_n 3, 1) := by decide +kernel
theorem dX2_fewestCuts_53 : decode cX2_fewestCuts 53 = .ok (.iinc 5 1, 3) := by decide +kernel
theorem dX2_fewestCuts_56 : decode cX2_fewestCuts 56 = .ok (.goto (-40), 3) := by decide +kernel
theorem dX2_fewestCuts_59 : decode cX2_fewestCuts 59 = .ok (.iload_n 3, 1) := by decide +kernel
theorem dX2_fewestCuts_60 : decode cX2_fewestCuts 60 = .ok (.ireturn, 1) := by decide +kernel
theorem dX2_ropesOutOf_0 : decode cX2_ropesOutOf 0 = .ok (.iconst 0, 1) := by decide +kernel
theorem dX2_ropesOutOf_1 : decode cX2_ropesOutOf 1 = .ok (.istore_n 2, 1) := by decide +kernel
theorem dX2_ropesOutOf_2 : decode cX2_ropesOutOf 2 = .ok (.iconst 0, 1) := by decide +kernel
theorem dX2_ropesOutOf_3 : decode cX2_ropesOutOf 3 = .ok (.istore_n 3, 1) := by decide +kernel
theorem dX2_ropesOutOf_4 : decode cX2_ropesOutOf 4 = .ok (.iload_n 3, 1) := by decide +kernel
theorem dX2_ropesOutOf_5 : decode cX2_ropesOutOf 5 = .ok (.aload_n 0, 1) := by decide +kernel
theorem dX2_ropesOutOf_6 : decode cX2_ropesOutOf 6 = .ok (.getfield 30, 3) := by decide +kernel
theorem dX2_ropesOutOf_9 : decode cX2_ropesOutOf 9 = .ok (.if_icmp .ge 34, 3) := by decide +kernel
theorem dX2_ropesOutOf_12 : decode cX2_ropesOutOf 12 = .ok (.iload_n 1, 1) := by decide +kernel
theorem dX2_ropesOutOf_13 : decode cX2_ropesOutOf 13 = .ok (.iload_n 3, 1) := by decide +kernel
theorem dX2_ropesOutOf_14 : decode cX2_ropesOutOf 14 = .ok (.ishr, 1) := by decide +kernel
theorem dX2_ropesOutOf_15 : decode cX2_ropesOutOf 15 = .ok (.iconst 1, 1) := by decide +kernel
theorem dX2_ropesOutOf_16 : decode cX2_ropesOutOf 16 = .ok (.iand, 1) := by decide +kernel
theorem dX2_ropesOutOf_17 : decode cX2_ropesOutOf 17 = .ok (.iconst 1, 1) := by decide +kernel
theorem dX2_ropesOutOf_18 : decode cX2_ropesOutOf 18 = .ok (.if_icmp .ne 19, 3) := by decide +kernel
theorem dX2_ropesOutOf_21 : decode cX2_ropesOutOf 21 = .ok (.iload_n 2, 1) := by decide +kernel
theorem dX2_ropesOutOf_22 : decode cX2_ropesOutOf 22 = .ok (.aload_n 0, 1) := by decide +kernel
theorem dX2_ropesOutOf_23 : decode cX2_ropesOutOf 23 = .ok (.getfield 24, 3) := by decide +kernel
theorem dX2_ropesOutOf_26 : decode cX2_ropesOutOf 26 = .ok (.iload_n 3, 1) := by decide +kernel
theorem dX2_ropesOutOf_27 : decode cX2_ropesOutOf 27 = .ok (.iaload, 1) := by decide +kernel
theorem dX2_ropesOutOf_28 : decode cX2_ropesOutOf 28 = .ok (.iload_n 1, 1) := by decide +kernel
theorem dX2_ropesOutOf_29 : decode cX2_ropesOutOf 29 = .ok (.iconst (-1), 1) := by decide +kernel
theorem dX2_ropesOutOf_30 : decode cX2_ropesOutOf 30 = .ok (.ixor, 1) := by decide +kernel
theorem dX2_ropesOutOf_31 : decode cX2_ropesOutOf 31 = .ok (.iand, 1) := by decide +kernel
theorem dX2_ropesOutOf_32 : decode cX2_ropesOutOf 32 = .ok (.invokestatic 73, 3) := by decide +kernel
theorem dX2_ropesOutOf_35 : decode cX2_ropesOutOf 35 = .ok (.iadd, 1) := by decide +kernel
theorem dX2_ropesOutOf_36 : decode cX2_ropesOutOf 36 = .ok (.istore_n 2, 1) := by decide +kernel
theorem dX2_ropesOutOf_37 : decode cX2_ropesOutOf 37 = .ok (.iinc 3 1, 3) := by decide +kernel
theorem dX2_ropesOutOf_40 : decode cX2_ropesOutOf 40 = .ok (.goto (-36), 3) := by decide +kernel
theorem dX2_ropesOutOf_43 : decode cX2_ropesOutOf 43 = .ok (.iload_n 2, 1) := by decide +kernel
theorem dX2_ropesOutOf_44 : decode cX2_ropesOutOf 44 = .ok (.ireturn, 1) := by decide +kernel
theorem dX2_drift_0 : decode cX2_drift 0 = .ok (.iconst 0, 1) := by decide +kernel
theorem dX2_drift_1 : decode cX2_drift 1 = .ok (.istore_n 1, 1) := by decide +kernel
theorem dX2_drift_2 : decode cX2_drift 2 = .ok (.iconst 0, 1) := by decide +kernel
theorem dX2_drift_3 : decode cX2_drift 3 = .ok (.istore_n 2, 1) := by decide +kernel
theorem dX2_drift_4 : decode cX2_drift 4 = .ok (.iload_n 2, 1) := by decide +kernel
theorem dX2_drift_5 : decode cX2_drift 5 = .ok (.aload_n 0, 1) := by decide +kernel
theorem dX2_drift_6 : decode cX2_drift 6 = .ok (.getfield 30, 3) := by decide +kernel
theorem dX2_drift_9 : decode cX2_drift 9 = .ok (.if_icmp .ge 33, 3) := by decide +kernel
theorem dX2_drift_12 : decode cX2_drift 12 = .ok (.aload_n 0, 1) := by decide +kernel
theorem dX2_drift_13 : decode cX2_drift 13 = .ok (.iload_n 2, 1) := by decide +kernel
theorem dX2_drift_14 : decode cX2_drift 14 = .ok (.invokevirtual 84, 3) := by decide +kernel
theorem dX2_drift_17 : decode cX2_drift 17 = .ok (.ifCond .eq 19, 3) := by decide +kernel
theorem dX2_drift_20 : decode cX2_drift 20 = .ok (.aload_n 0, 1) := by decide +kernel
theorem dX2_drift_21 : decode cX2_drift 21 = .ok (.aload_n 0, 1) := by decide +kernel
theorem dX2_drift_22 : decode cX2_drift 22 = .ok (.getfield 27, 3) := by decide +kernel
theorem dX2_drift_25 : decode cX2_drift 25 = .ok (.iload_n 2, 1) := by decide +kernel
theorem dX2_drift_26 : decode cX2_drift 26 = .ok (.iaload, 1) := by decide +kernel
theorem dX2_drift_27 : decode cX2_drift 27 = .ok (.invokevirtual 96, 3) := by decide +kernel
theorem dX2_drift_30 : decode cX2_drift 30 = .ok (.ifCond .ne 6, 3) := by decide +kernel
theorem dX2_drift_33 : decode cX2_drift 33 = .ok (.iinc 1 1, 3) := by decide +kernel
theorem dX2_drift_36 : decode cX2_drift 36 = .ok (.iinc 2 1, 3) := by decide +kernel
theorem dX2_drift_39 : decode cX2_drift 39 = .ok (.goto (-35), 3) := by decide +kernel
theorem dX2_drift_42 : decode cX2_drift 42 = .ok (.aload_n 0, 1) := by decide +kernel
theorem dX2_drift_43 : decode cX2_drift 43 = .ok (.dup, 1) := by decide +kernel
theorem dX2_drift_44 : decode cX2_drift 44 = .ok (.getfield 46, 3) := by decide +kernel
theorem dX2_drift_47 : decode cX2_drift 47 = .ok (.iload_n 1, 1) := by decide +kernel
theorem dX2_drift_48 : decode cX2_drift 48 = .ok (.iadd, 1) := by decide +kernel
theorem dX2_drift_49 : decode cX2_drift 49 = .ok (.putfield 46, 3) := by decide +kernel
theorem dX2_drift_52 : decode cX2_drift 52 = .ok (.aload_n 0, 1) := by decide +kernel
theorem dX2_drift_53 : decode cX2_drift 53 = .ok (.dup, 1) := by decide +kernel
theorem dX2_drift_54 : decode cX2_drift 54 = .ok (.getfield 43, 3) := by decide +kernel
theorem dX2_drift_57 : decode cX2_drift 57 = .ok (.iconst 1, 1) := by decide +kernel
theorem dX2_drift_58 : decode cX2_drift 58 = .ok (.iadd, 1) := by decide +kernel
theorem dX2_drift_59 : decode cX2_drift 59 = .ok (.putfield 43, 3) := by decide +kernel
theorem dX2_drift_62 : decode cX2_drift 62 = .ok (.iload_n 1, 1) := by decide +kernel
theorem dX2_drift_63 : decode cX2_drift 63 = .ok (.ireturn, 1) := by decide +kernel
theorem dX2_moves_0 : decode cX2_moves 0 = .ok (.aload_n 0, 1) := by decide +kernel
theorem dX2_moves_1 : decode cX2_moves 1 = .ok (.iload_n 1, 1) := by decide +kernel
theorem dX2_moves_2 : decode cX2_moves 2 = .ok (.invokevirtual 99, 3) := by decide +kernel
theorem dX2_moves_5 : decode cX2_moves 5 = .ok (.istore_n 2, 1) := by decide +kernel
theorem dX2_moves_6 : decode cX2_moves 6 = .ok (.iload_n 2, 1) := by decide +kernel
theorem dX2_moves_7 : decode cX2_moves 7 = .ok (.ifCond .ne 5, 3) := by decide +kernel
theorem dX2_moves_10 : decode cX2_moves 10 = .ok (.iconst 1, 1) := by decide +kernel
theorem dX2_moves_11 : decode cX2_moves 11 = .ok (.ireturn, 1) := by decide +kernel
theorem dX2_moves_12 : decode cX2_moves 12 = .ok (.aload_n 0, 1) := by decide +kernel
theorem dX2_moves_13 : decode cX2_moves 13 = .ok (.iload_n 1, 1) := by decide +kernel
theorem dX2_moves_14 : decode cX2_moves 14 = .ok (.iload_n 2, 1) := by decide +kernel
theorem dX2_moves_15 : decode cX2_moves 15 = .ok (.invokevirtual 102, 3) := by decide +kernel
theorem dX2_moves_18 : decode cX2_moves 18 = .ok (.ifCond .eq 5, 3) := by decide +kernel
theorem dX2_moves_21 : decode cX2_moves 21 = .ok (.iconst 0, 1) := by decide +kernel
theorem dX2_moves_22 : decode cX2_moves 22 = .ok (.ireturn, 1) := by decide +kernel
theorem dX2_moves_23 : decode cX2_moves 23 = .ok (.iconst 0, 1) := by decide +kernel
theorem dX2_moves_24 : decode cX2_moves 24 = .ok (.istore_n 3, 1) := by decide +kernel
theorem dX2_moves_25 : decode cX2_moves 25 = .ok (.iload_n 3, 1) := by decide +kernel
theorem dX2_moves_26 : decode cX2_moves 26 = .ok (.aload_n 0, 1) := by decide +kernel
theorem dX2_moves_27 : decode cX2_moves 27 = .ok (.getfield 30, 3) := by decide +kernel
theorem dX2_moves_30 : decode cX2_moves 30 = .ok (.if_icmp .ge 34, 3) := by decide +kernel
theorem dX2_moves_33 : decode cX2_moves 33 = .ok (.iload_n 1, 1) := by decide +kernel
theorem dX2_moves_34 : decode cX2_moves 34 = .ok (.iload_n 3, 1) := by decide +kernel
theorem dX2_moves_35 : decode cX2_moves 35 = .ok (.ishr, 1) := by decide +kernel
theorem dX2_moves_36 : decode cX2_moves 36 = .ok (.iconst 1, 1) := by decide +kernel
theorem dX2_moves_37 : decode cX2_moves 37 = .ok (.iand, 1) := by decide +kernel
theorem dX2_moves_38 : decode cX2_moves 38 = .ok (.iconst 1, 1) := by decide +kernel
theorem dX2_moves_39 : decode cX2_moves 39 = .ok (.if_icmp .ne 19, 3) := by decide +kernel
theorem dX2_moves_42 : decode cX2_moves 42 = .ok (.aload_n 0, 1) := by decide +kernel
theorem dX2_moves_43 : decode cX2_moves 43 = .ok (.getfield 21, 3) := by decide +kernel
theorem dX2_moves_46 : decode cX2_moves 46 = .ok (.iload_n 3, 1) := by decide +kernel
theorem dX2_moves_47 : decode cX2_moves 47 = .ok (.aload_n 0, 1) := by decide +kernel
theorem dX2_moves_48 : decode cX2_moves 48 = .ok (.getfield 21, 3) := by decide +kernel
theorem dX2_moves_51 : decode cX2_moves 51 = .ok (.iload_n 3, 1) := by decide +kernel
theorem dX2_moves_52 : decode cX2_moves 52 = .ok (.iaload, 1) := by decide +kernel
theorem dX2_moves_53 : decode cX2_moves 53 = .ok (.iload_n 2, 1) := by decide +kernel
theorem dX2_moves_54 : decode cX2_moves 54 = .ok (.invokestatic 61, 3) := by decide +kernel
theorem dX2_moves_57 : decode cX2_moves 57 = .ok (.iastore, 1) := by decide +kernel
theorem dX2_moves_58 : decode cX2_moves 58 = .ok (.iinc 3 1, 3) := by decide +kernel
theorem dX2_moves_61 : decode cX2_moves 61 = .ok (.goto (-36), 3) := by decide +kernel
theorem dX2_moves_64 : decode cX2_moves 64 = .ok (.iconst 1, 1) := by decide +kernel
theorem dX2_moves_65 : decode cX2_moves 65 = .ok (.ireturn, 1) := by decide +kernel
theorem dX2_stepOf_0 : decode cX2_stepOf 0 = .ok (.iconst 0, 1) := by decide +kernel
theorem dX2_stepOf_1 : decode cX2_stepOf 1 = .ok (.istore_n 2, 1) := by decide +kernel
theorem dX2_stepOf_2 : decode cX2_stepOf 2 = .ok (.iconst 0, 1) := by decide +kernel
theorem dX2_stepOf_3 : decode cX2_stepOf 3 = .ok (.istore_n 3, 1) := by decide +kernel
theorem dX2_stepOf_4 : decode cX2_stepOf 4 = .ok (.iload_n 3, 1) := by decide +kernel
theorem dX2_stepOf_5 : decode cX2_stepOf 5 = .ok (.aload_n 0, 1) := by decide +kernel
theorem dX2_stepOf_6 : decode cX2_stepOf 6 = .ok (.getfield 30, 3) := by decide +kernel
theorem dX2_stepOf_9 : decode cX2_stepOf 9 = .ok (.if_icmp .ge 33, 3) := by decide +kernel
theorem dX2_stepOf_12 : decode cX2_stepOf 12 = .ok (.iload_n 1, 1) := by decide +kernel
theorem dX2_stepOf_13 : decode cX2_stepOf 13 = .ok (.iload_n 3, 1) := by decide +kernel
theorem dX2_stepOf_14 : decode cX2_stepOf 14 = .ok (.ishr, 1) := by decide +kernel
theorem dX2_stepOf_15 : decode cX2_stepOf 15 = .ok (.iconst 1, 1) := by decide +kernel
theorem dX2_stepOf_16 : decode cX2_stepOf 16 = .ok (.iand, 1) := by decide +kernel
theorem dX2_stepOf_17 : decode cX2_stepOf 17 = .ok (.iconst 1, 1) := by decide +kernel
theorem dX2_stepOf_18 : decode cX2_stepOf 18 = .ok (.if_icmp .ne 18, 3) := by decide +kernel
theorem dX2_stepOf_21 : decode cX2_stepOf 21 = .ok (.iload_n 2, 1) := by decide +kernel
theorem dX2_stepOf_22 : decode cX2_stepOf 22 = .ok (.aload_n 0, 1) := by decide +kernel
theorem dX2_stepOf_23 : decode cX2_stepOf 23 = .ok (.iload_n 3, 1) := by decide +kernel
theorem dX2_stepOf_24 : decode cX2_stepOf 24 = .ok (.invokevirtual 105, 3) := by decide +kernel
theorem dX2_stepOf_27 : decode cX2_stepOf 27 = .ok (.aload_n 0, 1) := by decide +kernel
theorem dX2_stepOf_28 : decode cX2_stepOf 28 = .ok (.getfield 18, 3) := by decide +kernel
theorem dX2_stepOf_31 : decode cX2_stepOf 31 = .ok (.iload_n 3, 1) := by decide +kernel
theorem dX2_stepOf_32 : decode cX2_stepOf 32 = .ok (.iaload, 1) := by decide +kernel
theorem dX2_stepOf_33 : decode cX2_stepOf 33 = .ok (.imul, 1) := by decide +kernel
theorem dX2_stepOf_34 : decode cX2_stepOf 34 = .ok (.iadd, 1) := by decide +kernel
theorem dX2_stepOf_35 : decode cX2_stepOf 35 = .ok (.istore_n 2, 1) := by decide +kernel
theorem dX2_stepOf_36 : decode cX2_stepOf 36 = .ok (.iinc 3 1, 3) := by decide +kernel
theorem dX2_stepOf_39 : decode cX2_stepOf 39 = .ok (.goto (-35), 3) := by decide +kernel
theorem dX2_stepOf_42 : decode cX2_stepOf 42 = .ok (.iload_n 2, 1) := by decide +kernel
theorem dX2_stepOf_43 : decode cX2_stepOf 43 = .ok (.iconst 0, 1) := by decide +kernel
theorem dX2_stepOf_44 : decode cX2_stepOf 44 = .ok (.invokestatic 108, 3) := by decide +kernel
theorem dX2_stepOf_47 : decode cX2_stepOf 47 = .ok (.ireturn, 1) := by decide +kernel
theorem dX2_isBarred_0 : decode cX2_isBarred 0 = .ok (.iconst 0, 1) := by decide +kernel
theorem dX2_isBarred_1 : decode cX2_isBarred 1 = .ok (.istore_n 3, 1) := by decide +kernel
theorem dX2_isBarred_2 : decode cX2_isBarred 2 = .ok (.iconst 0, 1) := by decide +kernel
theorem dX2_isBarred_3 : decode cX2_isBarred 3 = .ok (.istore 4, 2) := by decide +kernel
theorem dX2_isBarred_5 : decode cX2_isBarred 5 = .ok (.iconst 0, 1) := by decide +kernel
theorem dX2_isBarred_6 : decode cX2_isBarred 6 = .ok (.istore 5, 2) := by decide +kernel
theorem dX2_isBarred_8 : decode cX2_isBarred 8 = .ok (.iload 5, 2) := by decide +kernel
theorem dX2_isBarred_10 : decode cX2_isBarred 10 = .ok (.aload_n 0, 1) := by decide +kernel
theorem dX2_isBarred_11 : decode cX2_isBarred 11 = .ok (.getfield 30, 3) := by decide +kernel
theorem dX2_isBarred_14 : decode cX2_isBarred 14 = .ok (.if_icmp .ge 52, 3) := by decide +kernel
theorem dX2_isBarred_17 : decode cX2_isBarred 17 = .ok (.iload_n 1, 1) := by decide +kernel
theorem dX2_isBarred_18 : decode cX2_isBarred 18 = .ok (.iload 5, 2) := by decide +kernel
theorem dX2_isBarred_20 : decode cX2_isBarred 20 = .ok (.ishr, 1) := by decide +kernel
theorem dX2_isBarred_21 : decode cX2_isBarred 21 = .ok (.iconst 1, 1) := by decide +kernel
theorem dX2_isBarred_22 : decode cX2_isBarred 22 = .ok (.iand, 1) := by decide +kernel
theorem dX2_isBarred_23 : decode cX2_isBarred 23 = .ok (.iconst 1, 1) := by decide +kernel
theorem dX2_isBarred_24 : decode cX2_isBarred 24 = .ok (.if_icmp .ne 22, 3) := by decide +kernel
theorem dX2_isBarred_27 : decode cX2_isBarred 27 = .ok (.iload_n 3, 1) := by decide +kernel
theorem dX2_isBarred_28 : decode cX2_isBarred 28 = .ok (.iconst 1, 1) := by decide +kernel
theorem dX2_isBarred_29 : decode cX2_isBarred 29 = .ok (.aload_n 0, 1) := by decide +kernel
theorem dX2_isBarred_30 : decode cX2_isBarred 30 = .ok (.getfield 21, 3) := by decide +kernel
theorem dX2_isBarred_33 : decode cX2_isBarred 33 = .ok (.iload 5, 2) := by decide +kernel
theorem dX2_isBarred_35 : decode cX2_isBarred 35 = .ok (.iaload, 1) := by decide +kernel
theorem dX2_isBarred_36 : decode cX2_isBarred 36 = .ok (.iload_n 2, 1) := by decide +kernel
theorem dX2_isBarred_37 : decode cX2_isBarred 37 = .ok (.invokestatic 61, 3) := by decide +kernel
theorem dX2_isBarred_40 : decode cX2_isBarred 40 = .ok (.ishl, 1) := by decide +kernel
theorem dX2_isBarred_41 : decode cX2_isBarred 41 = .ok (.ior, 1) := by decide +kernel
theorem dX2_isBarred_42 : decode cX2_isBarred 42 = .ok (.istore_n 3, 1) := by decide +kernel
theorem dX2_isBarred_43 : decode cX2_isBarred 43 = .ok (.goto 17, 3) := by decide +kernel
theorem dX2_isBarred_46 : decode cX2_isBarred 46 = .ok (.iload 4, 2) := by decide +kernel
theorem dX2_isBarred_48 : decode cX2_isBarred 48 = .ok (.iconst 1, 1) := by decide +kernel
theorem dX2_isBarred_49 : decode cX2_isBarred 49 = .ok (.aload_n 0, 1) := by decide +kernel
theorem dX2_isBarred_50 : decode cX2_isBarred 50 = .ok (.getfield 21, 3) := by decide +kernel
theorem dX2_isBarred_53 : decode cX2_isBarred 53 = .ok (.iload 5, 2) := by decide +kernel
theorem dX2_isBarred_55 : decode cX2_isBarred 55 = .ok (.iaload, 1) := by decide +kernel
theorem dX2_isBarred_56 : decode cX2_isBarred 56 = .ok (.ishl, 1) := by decide +kernel
theorem dX2_isBarred_57 : decode cX2_isBarred 57 = .ok (.ior, 1) := by decide +kernel
theorem dX2_isBarred_58 : decode cX2_isBarred 58 = .ok (.istore 4, 2) := by decide +kernel
theorem dX2_isBarred_60 : decode cX2_isBarred 60 = .ok (.iinc 5 1, 3) := by decide +kernel
theorem dX2_isBarred_63 : decode cX2_isBarred 63 = .ok (.goto (-55), 3) := by decide +kernel
theorem dX2_isBarred_66 : decode cX2_isBarred 66 = .ok (.iload_n 3, 1) := by decide +kernel
theorem dX2_isBarred_67 : decode cX2_isBarred 67 = .ok (.iload 4, 2) := by decide +kernel
theorem dX2_isBarred_69 : decode cX2_isBarred 69 = .ok (.iand, 1) := by decide +kernel
theorem dX2_isBarred_70 : decode cX2_isBarred 70 = .ok (.ifCond .eq 7, 3) := by decide +kernel
theorem dX2_isBarred_73 : decode cX2_isBarred 73 = .ok (.iconst 1, 1) := by decide +kernel
theorem dX2_isBarred_74 : decode cX2_isBarred 74 = .ok (.goto 4, 3) := by decide +kernel
theorem dX2_isBarred_77 : decode cX2_isBarred 77 = .ok (.iconst 0, 1) := by decide +kernel
theorem dX2_isBarred_78 : decode cX2_isBarred 78 = .ok (.ireturn, 1) := by decide +kernel
theorem dX2_stepped_0 : decode cX2_stepped 0 = .ok (.iload_n 0, 1) := by decide +kernel
theorem dX2_stepped_1 : decode cX2_stepped 1 = .ok (.iload_n 1, 1) := by decide +kernel
theorem dX2_stepped_2 : decode cX2_stepped 2 = .ok (.iadd, 1) := by decide +kernel
theorem dX2_stepped_3 : decode cX2_stepped 3 = .ok (.istore_n 2, 1) := by decide +kernel
theorem dX2_stepped_4 : decode cX2_stepped 4 = .ok (.iload_n 2, 1) := by decide +kernel
theorem dX2_stepped_5 : decode cX2_stepped 5 = .ok (.ifCond .ge 6, 3) := by decide +kernel
theorem dX2_stepped_8 : decode cX2_stepped 8 = .ok (.bipush 11, 2) := by decide +kernel
theorem dX2_stepped_10 : decode cX2_stepped 10 = .ok (.ireturn, 1) := by decide +kernel
theorem dX2_stepped_11 : decode cX2_stepped 11 = .ok (.iload_n 2, 1) := by decide +kernel
theorem dX2_stepped_12 : decode cX2_stepped 12 = .ok (.bipush 12, 2) := by decide +kernel
theorem dX2_stepped_14 : decode cX2_stepped 14 = .ok (.if_icmp .ge 7, 3) := by decide +kernel
theorem dX2_stepped_17 : decode cX2_stepped 17 = .ok (.iload_n 2, 1) := by decide +kernel
theorem dX2_stepped_18 : decode cX2_stepped 18 = .ok (.goto 4, 3) := by decide +kernel
theorem dX2_stepped_21 : decode cX2_stepped 21 = .ok (.iconst 0, 1) := by decide +kernel
theorem dX2_stepped_22 : decode cX2_stepped 22 = .ok (.ireturn, 1) := by decide +kernel
theorem dJ6_compare_7cf53_0 : decode cJ6_compare_7cf53 0 = .ok (.iload_n 0, 1) := by decide +kernel
theorem dJ6_compare_7cf53_1 : decode cJ6_compare_7cf53 1 = .ok (.iload_n 1, 1) := by decide +kernel
theorem dJ6_compare_7cf53_2 : decode cJ6_compare_7cf53 2 = .ok (.if_icmp .ge 7, 3) := by decide +kernel
theorem dJ6_compare_7cf53_5 : decode cJ6_compare_7cf53 5 = .ok (.iconst (-1), 1) := by decide +kernel
theorem dJ6_compare_7cf53_6 : decode cJ6_compare_7cf53 6 = .ok (.goto 13, 3) := by decide +kernel
theorem dJ6_compare_7cf53_9 : decode cJ6_compare_7cf53 9 = .ok (.iload_n 0, 1) := by decide +kernel
theorem dJ6_compare_7cf53_10 : decode cJ6_compare_7cf53 10 = .ok (.iload_n 1, 1) := by decide +kernel
theorem dJ6_compare_7cf53_11 : decode cJ6_compare_7cf53 11 = .ok (.if_icmp .ne 7, 3) := by decide +kernel
theorem dJ6_compare_7cf53_14 : decode cJ6_compare_7cf53 14 = .ok (.iconst 0, 1) := by decide +kernel
theorem dJ6_compare_7cf53_15 : decode cJ6_compare_7cf53 15 = .ok (.goto 4, 3) := by decide +kernel
theorem dJ6_compare_7cf53_18 : decode cJ6_compare_7cf53 18 = .ok (.iconst 1, 1) := by decide +kernel
theorem dJ6_compare_7cf53_19 : decode cJ6_compare_7cf53 19 = .ok (.ireturn, 1) := by decide +kernel
theorem dJ6_bitCount_0f7a4_0 : decode cJ6_bitCount_0f7a4 0 = .ok (.iload_n 0, 1) := by decide +kernel
theorem dJ6_bitCount_0f7a4_1 : decode cJ6_bitCount_0f7a4 1 = .ok (.iload_n 0, 1) := by decide +kernel
theorem dJ6_bitCount_0f7a4_2 : decode cJ6_bitCount_0f7a4 2 = .ok (.iconst 1, 1) := by decide +kernel
theorem dJ6_bitCount_0f7a4_3 : decode cJ6_bitCount_0f7a4 3 = .ok (.iushr, 1) := by decide +kernel
theorem dJ6_bitCount_0f7a4_4 : decode cJ6_bitCount_0f7a4 4 = .ok (.ldc_w 265, 3) := by decide +kernel
theorem dJ6_bitCount_0f7a4_7 : decode cJ6_bitCount_0f7a4 7 = .ok (.iand, 1) := by decide +kernel
theorem dJ6_bitCount_0f7a4_8 : decode cJ6_bitCount_0f7a4 8 = .ok (.isub, 1) := by decide +kernel
theorem dJ6_bitCount_0f7a4_9 : decode cJ6_bitCount_0f7a4 9 = .ok (.istore_n 0, 1) := by decide +kernel
theorem dJ6_bitCount_0f7a4_10 : decode cJ6_bitCount_0f7a4 10 = .ok (.iload_n 0, 1) := by decide +kernel
theorem dJ6_bitCount_0f7a4_11 : decode cJ6_bitCount_0f7a4 11 = .ok (.ldc_w 266, 3) := by decide +kernel
theorem dJ6_bitCount_0f7a4_14 : decode cJ6_bitCount_0f7a4 14 = .ok (.iand, 1) := by decide +kernel
theorem dJ6_bitCount_0f7a4_15 : decode cJ6_bitCount_0f7a4 15 = .ok (.iload_n 0, 1) := by decide +kernel
theorem dJ6_bitCount_0f7a4_16 : decode cJ6_bitCount_0f7a4 16 = .ok (.iconst 2, 1) := by decide +kernel
theorem dJ6_bitCount_0f7a4_17 : decode cJ6_bitCount_0f7a4 17 = .ok (.iushr, 1) := by decide +kernel
theorem dJ6_bitCount_0f7a4_18 : decode cJ6_bitCount_0f7a4 18 = .ok (.ldc_w 266, 3) := by decide +kernel
theorem dJ6_bitCount_0f7a4_21 : decode cJ6_bitCount_0f7a4 21 = .ok (.iand, 1) := by decide +kernel
theorem dJ6_bitCount_0f7a4_22 : decode cJ6_bitCount_0f7a4 22 = .ok (.iadd, 1) := by decide +kernel
theorem dJ6_bitCount_0f7a4_23 : decode cJ6_bitCount_0f7a4 23 = .ok (.istore_n 0, 1) := by decide +kernel
theorem dJ6_bitCount_0f7a4_24 : decode cJ6_bitCount_0f7a4 24 = .ok (.iload_n 0, 1) := by decide +kernel
theorem dJ6_bitCount_0f7a4_25 : decode cJ6_bitCount_0f7a4 25 = .ok (.iload_n 0, 1) := by decide +kernel
theorem dJ6_bitCount_0f7a4_26 : decode cJ6_bitCount_0f7a4 26 = .ok (.iconst 4, 1) := by decide +kernel
theorem dJ6_bitCount_0f7a4_27 : decode cJ6_bitCount_0f7a4 27 = .ok (.iushr, 1) := by decide +kernel
theorem dJ6_bitCount_0f7a4_28 : decode cJ6_bitCount_0f7a4 28 = .ok (.iadd, 1) := by decide +kernel
theorem dJ6_bitCount_0f7a4_29 : decode cJ6_bitCount_0f7a4 29 = .ok (.ldc_w 267, 3) := by decide +kernel
theorem dJ6_bitCount_0f7a4_32 : decode cJ6_bitCount_0f7a4 32 = .ok (.iand, 1) := by decide +kernel
theorem dJ6_bitCount_0f7a4_33 : decode cJ6_bitCount_0f7a4 33 = .ok (.istore_n 0, 1) := by decide +kernel
theorem dJ6_bitCount_0f7a4_34 : decode cJ6_bitCount_0f7a4 34 = .ok (.iload_n 0, 1) := by decide +kernel
theorem dJ6_bitCount_0f7a4_35 : decode cJ6_bitCount_0f7a4 35 = .ok (.iload_n 0, 1) := by decide +kernel
theorem dJ6_bitCount_0f7a4_36 : decode cJ6_bitCount_0f7a4 36 = .ok (.bipush 8, 2) := by decide +kernel
theorem dJ6_bitCount_0f7a4_38 : decode cJ6_bitCount_0f7a4 38 = .ok (.iushr, 1) := by decide +kernel
theorem dJ6_bitCount_0f7a4_39 : decode cJ6_bitCount_0f7a4 39 = .ok (.iadd, 1) := by decide +kernel
theorem dJ6_bitCount_0f7a4_40 : decode cJ6_bitCount_0f7a4 40 = .ok (.istore_n 0, 1) := by decide +kernel
theorem dJ6_bitCount_0f7a4_41 : decode cJ6_bitCount_0f7a4 41 = .ok (.iload_n 0, 1) := by decide +kernel
theorem dJ6_bitCount_0f7a4_42 : decode cJ6_bitCount_0f7a4 42 = .ok (.iload_n 0, 1) := by decide +kernel
theorem dJ6_bitCount_0f7a4_43 : decode cJ6_bitCount_0f7a4 43 = .ok (.bipush 16, 2) := by decide +kernel
theorem dJ6_bitCount_0f7a4_45 : decode cJ6_bitCount_0f7a4 45 = .ok (.iushr, 1) := by decide +kernel
theorem dJ6_bitCount_0f7a4_46 : decode cJ6_bitCount_0f7a4 46 = .ok (.iadd, 1) := by decide +kernel
theorem dJ6_bitCount_0f7a4_47 : decode cJ6_bitCount_0f7a4 47 = .ok (.istore_n 0, 1) := by decide +kernel
theorem dJ6_bitCount_0f7a4_48 : decode cJ6_bitCount_0f7a4 48 = .ok (.iload_n 0, 1) := by decide +kernel
theorem dJ6_bitCount_0f7a4_49 : decode cJ6_bitCount_0f7a4 49 = .ok (.bipush 63, 2) := by decide +kernel
theorem dJ6_bitCount_0f7a4_51 : decode cJ6_bitCount_0f7a4 51 = .ok (.iand, 1) := by decide +kernel
theorem dJ6_bitCount_0f7a4_52 : decode cJ6_bitCount_0f7a4 52 = .ok (.ireturn, 1) := by decide +kernel
theorem dJ9_max_7cf53_0 : decode cJ9_max_7cf53 0 = .ok (.iload_n 0, 1) := by decide +kernel
theorem dJ9_max_7cf53_1 : decode cJ9_max_7cf53 1 = .ok (.iload_n 1, 1) := by decide +kernel
theorem dJ9_max_7cf53_2 : decode cJ9_max_7cf53 2 = .ok (.if_icmp .lt 7, 3) := by decide +kernel
theorem dJ9_max_7cf53_5 : decode cJ9_max_7cf53 5 = .ok (.iload_n 0, 1) := by decide +kernel
theorem dJ9_max_7cf53_6 : decode cJ9_max_7cf53 6 = .ok (.goto 4, 3) := by decide +kernel
theorem dJ9_max_7cf53_9 : decode cJ9_max_7cf53 9 = .ok (.iload_n 1, 1) := by decide +kernel
theorem dJ9_max_7cf53_10 : decode cJ9_max_7cf53 10 = .ok (.ireturn, 1) := by decide +kernel
theorem dJ9_min_7cf53_0 : decode cJ9_min_7cf53 0 = .ok (.iload_n 0, 1) := by decide +kernel
theorem dJ9_min_7cf53_1 : decode cJ9_min_7cf53 1 = .ok (.iload_n 1, 1) := by decide +kernel
theorem dJ9_min_7cf53_2 : decode cJ9_min_7cf53 2 = .ok (.if_icmp .gt 7, 3) := by decide +kernel
theorem dJ9_min_7cf53_5 : decode cJ9_min_7cf53 5 = .ok (.iload_n 0, 1) := by decide +kernel
theorem dJ9_min_7cf53_6 : decode cJ9_min_7cf53 6 = .ok (.goto 4, 3) := by decide +kernel
theorem dJ9_min_7cf53_9 : decode cJ9_min_7cf53 9 = .ok (.iload_n 1, 1) := by decide +kernel
theorem dJ9_min_7cf53_10 : decode cJ9_min_7cf53 10 = .ok (.ireturn, 1) := by decide +kernel
theorem dJ7_fill_53178_0 : decode cJ7_fill_53178 0 = .ok (.iconst 0, 1) := by decide +kernel
theorem dJ7_fill_53178_1 : decode cJ7_fill_53178 1 = .ok (.istore_n 2, 1) := by decide +kernel
theorem dJ7_fill_53178_2 : decode cJ7_fill_53178 2 = .ok (.aload_n 0, 1) := by decide +kernel
theorem dJ7_fill_53178_3 : decode cJ7_fill_53178 3 = .ok (.arraylength, 1) := by decide +kernel
theorem dJ7_fill_53178_4 : decode cJ7_fill_53178 4 = .ok (.istore_n 3, 1) := by decide +kernel
theorem dJ7_fill_53178_5 : decode cJ7_fill_53178 5 = .ok (.iload_n 2, 1) := by decide +kernel
theorem dJ7_fill_53178_6 : decode cJ7_fill_53178 6 = .ok (.iload_n 3, 1) := by decide +kernel
theorem dJ7_fill_53178_7 : decode cJ7_fill_53178 7 = .ok (.if_icmp .ge 13, 3) := by decide +kernel
theorem dJ7_fill_53178_10 : decode cJ7_fill_53178 10 = .ok (.aload_n 0, 1) := by decide +kernel
theorem dJ7_fill_53178_11 : decode cJ7_fill_53178 11 = .ok (.iload_n 2, 1) := by decide +kernel
theorem dJ7_fill_53178_12 : decode cJ7_fill_53178 12 = .ok (.iload_n 1, 1) := by decide +kernel
theorem dJ7_fill_53178_13 : decode cJ7_fill_53178 13 = .ok (.iastore, 1) := by decide +kernel
theorem dJ7_fill_53178_14 : decode cJ7_fill_53178 14 = .ok (.iinc 2 1, 3) := by decide +kernel
theorem dJ7_fill_53178_17 : decode cJ7_fill_53178 17 = .ok (.goto (-12), 3) := by decide +kernel
theorem dJ7_fill_53178_20 : decode cJ7_fill_53178 20 = .ok (.return_, 1) := by decide +kernel
