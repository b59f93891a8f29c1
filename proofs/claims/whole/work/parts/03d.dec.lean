theorem dX4_meet_13 : decode cX4_meet 13 = .ok (.bipush 60, 2) := by decide +kernel
theorem dX4_meet_15 : decode cX4_meet 15 = .ok (.invokevirtual 157, 3) := by decide +kernel
theorem dX4_meet_18 : decode cX4_meet 18 = .ok (.goto 5, 3) := by decide +kernel
theorem dX4_meet_21 : decode cX4_meet 21 = .ok (.bipush (-101), 2) := by decide +kernel
theorem dX4_meet_23 : decode cX4_meet 23 = .ok (.ireturn, 1) := by decide +kernel
theorem dX4_ones_0 : decode cX4_ones 0 = .ok (.iconst 0, 1) := by decide +kernel
theorem dX4_ones_1 : decode cX4_ones 1 = .ok (.istore_n 1, 1) := by decide +kernel
theorem dX4_ones_2 : decode cX4_ones 2 = .ok (.iconst 0, 1) := by decide +kernel
theorem dX4_ones_3 : decode cX4_ones 3 = .ok (.istore_n 2, 1) := by decide +kernel
theorem dX4_ones_4 : decode cX4_ones 4 = .ok (.iload_n 2, 1) := by decide +kernel
theorem dX4_ones_5 : decode cX4_ones 5 = .ok (.bipush 10, 2) := by decide +kernel
theorem dX4_ones_7 : decode cX4_ones 7 = .ok (.if_icmp .ge 17, 3) := by decide +kernel
theorem dX4_ones_10 : decode cX4_ones 10 = .ok (.iload_n 1, 1) := by decide +kernel
theorem dX4_ones_11 : decode cX4_ones 11 = .ok (.iload_n 0, 1) := by decide +kernel
theorem dX4_ones_12 : decode cX4_ones 12 = .ok (.iload_n 2, 1) := by decide +kernel
theorem dX4_ones_13 : decode cX4_ones 13 = .ok (.ishr, 1) := by decide +kernel
theorem dX4_ones_14 : decode cX4_ones 14 = .ok (.iconst 1, 1) := by decide +kernel
theorem dX4_ones_15 : decode cX4_ones 15 = .ok (.iand, 1) := by decide +kernel
theorem dX4_ones_16 : decode cX4_ones 16 = .ok (.iadd, 1) := by decide +kernel
theorem dX4_ones_17 : decode cX4_ones 17 = .ok (.istore_n 1, 1) := by decide +kernel
theorem dX4_ones_18 : decode cX4_ones 18 = .ok (.iinc 2 1, 3) := by decide +kernel
theorem dX4_ones_21 : decode cX4_ones 21 = .ok (.goto (-17), 3) := by decide +kernel
theorem dX4_ones_24 : decode cX4_ones 24 = .ok (.iload_n 1, 1) := by decide +kernel
theorem dX4_ones_25 : decode cX4_ones 25 = .ok (.ireturn, 1) := by decide +kernel
theorem dX4_anchorsOf_0 : decode cX4_anchorsOf 0 = .ok (.iconst (-1), 1) := by decide +kernel
theorem dX4_anchorsOf_1 : decode cX4_anchorsOf 1 = .ok (.istore 4, 2) := by decide +kernel
theorem dX4_anchorsOf_3 : decode cX4_anchorsOf 3 = .ok (.iconst 0, 1) := by decide +kernel
theorem dX4_anchorsOf_4 : decode cX4_anchorsOf 4 = .ok (.istore 5, 2) := by decide +kernel
theorem dX4_anchorsOf_6 : decode cX4_anchorsOf 6 = .ok (.iload 5, 2) := by decide +kernel
theorem dX4_anchorsOf_8 : decode cX4_anchorsOf 8 = .ok (.iconst 1, 1) := by decide +kernel
theorem dX4_anchorsOf_9 : decode cX4_anchorsOf 9 = .ok (.aload_n 0, 1) := by decide +kernel
theorem dX4_anchorsOf_10 : decode cX4_anchorsOf 10 = .ok (.getfield 76, 3) := by decide +kernel
theorem dX4_anchorsOf_13 : decode cX4_anchorsOf 13 = .ok (.ishl, 1) := by decide +kernel
theorem dX4_anchorsOf_14 : decode cX4_anchorsOf 14 = .ok (.if_icmp .ge 62, 3) := by decide +kernel
theorem dX4_anchorsOf_17 : decode cX4_anchorsOf 17 = .ok (.iload 4, 2) := by decide +kernel
theorem dX4_anchorsOf_19 : decode cX4_anchorsOf 19 = .ok (.iconst (-1), 1) := by decide +kernel
theorem dX4_anchorsOf_20 : decode cX4_anchorsOf 20 = .ok (.if_icmp .eq 16, 3) := by decide +kernel
theorem dX4_anchorsOf_23 : decode cX4_anchorsOf 23 = .ok (.iload 5, 2) := by decide +kernel
theorem dX4_anchorsOf_25 : decode cX4_anchorsOf 25 = .ok (.invokestatic 161, 3) := by decide +kernel
theorem dX4_anchorsOf_28 : decode cX4_anchorsOf 28 = .ok (.iload 4, 2) := by decide +kernel
theorem dX4_anchorsOf_30 : decode cX4_anchorsOf 30 = .ok (.invokestatic 161, 3) := by decide +kernel
theorem dX4_anchorsOf_33 : decode cX4_anchorsOf 33 = .ok (.if_icmp .ge 7, 3) := by decide +kernel
theorem dX4_anchorsOf_36 : decode cX4_anchorsOf 36 = .ok (.iconst 1, 1) := by decide +kernel
theorem dX4_anchorsOf_37 : decode cX4_anchorsOf 37 = .ok (.goto 4, 3) := by decide +kernel
theorem dX4_anchorsOf_40 : decode cX4_anchorsOf 40 = .ok (.iconst 0, 1) := by decide +kernel
theorem dX4_anchorsOf_41 : decode cX4_anchorsOf 41 = .ok (.istore 6, 2) := by decide +kernel
theorem dX4_anchorsOf_43 : decode cX4_anchorsOf 43 = .ok (.iload 6, 2) := by decide +kernel
theorem dX4_anchorsOf_45 : decode cX4_anchorsOf 45 = .ok (.ifCond .eq 21, 3) := by decide +kernel
theorem dX4_anchorsOf_48 : decode cX4_anchorsOf 48 = .ok (.aload_n 0, 1) := by decide +kernel
theorem dX4_anchorsOf_49 : decode cX4_anchorsOf 49 = .ok (.iload_n 1, 1) := by decide +kernel
theorem dX4_anchorsOf_50 : decode cX4_anchorsOf 50 = .ok (.iload_n 2, 1) := by decide +kernel
theorem dX4_anchorsOf_51 : decode cX4_anchorsOf 51 = .ok (.iload 5, 2) := by decide +kernel
theorem dX4_anchorsOf_53 : decode cX4_anchorsOf 53 = .ok (.iload_n 3, 1) := by decide +kernel
theorem dX4_anchorsOf_54 : decode cX4_anchorsOf 54 = .ok (.invokevirtual 157, 3) := by decide +kernel
theorem dX4_anchorsOf_57 : decode cX4_anchorsOf 57 = .ok (.iconst (-1), 1) := by decide +kernel
theorem dX4_anchorsOf_58 : decode cX4_anchorsOf 58 = .ok (.if_icmp .eq 8, 3) := by decide +kernel
theorem dX4_anchorsOf_61 : decode cX4_anchorsOf 61 = .ok (.iload 5, 2) := by decide +kernel
theorem dX4_anchorsOf_63 : decode cX4_anchorsOf 63 = .ok (.goto 5, 3) := by decide +kernel
theorem dX4_anchorsOf_66 : decode cX4_anchorsOf 66 = .ok (.iload 4, 2) := by decide +kernel
theorem dX4_anchorsOf_68 : decode cX4_anchorsOf 68 = .ok (.istore 4, 2) := by decide +kernel
theorem dX4_anchorsOf_70 : decode cX4_anchorsOf 70 = .ok (.iinc 5 1, 3) := by decide +kernel
theorem dX4_anchorsOf_73 : decode cX4_anchorsOf 73 = .ok (.goto (-67), 3) := by decide +kernel
theorem dX4_anchorsOf_76 : decode cX4_anchorsOf 76 = .ok (.iload 4, 2) := by decide +kernel
theorem dX4_anchorsOf_78 : decode cX4_anchorsOf 78 = .ok (.ireturn, 1) := by decide +kernel
theorem dX4_anchors_0 : decode cX4_anchors 0 = .ok (.aload_n 0, 1) := by decide +kernel
theorem dX4_anchors_1 : decode cX4_anchors 1 = .ok (.iload_n 1, 1) := by decide +kernel
theorem dX4_anchors_2 : decode cX4_anchors 2 = .ok (.iload_n 2, 1) := by decide +kernel
theorem dX4_anchors_3 : decode cX4_anchors 3 = .ok (.invokevirtual 151, 3) := by decide +kernel
theorem dX4_anchors_6 : decode cX4_anchors 6 = .ok (.ifCond .ne 6, 3) := by decide +kernel
theorem dX4_anchors_9 : decode cX4_anchors 9 = .ok (.bipush (-101), 2) := by decide +kernel
theorem dX4_anchors_11 : decode cX4_anchors 11 = .ok (.ireturn, 1) := by decide +kernel
theorem dX4_anchors_12 : decode cX4_anchors 12 = .ok (.iload_n 3, 1) := by decide +kernel
theorem dX4_anchors_13 : decode cX4_anchors 13 = .ok (.i2l, 1) := by decide +kernel
theorem dX4_anchors_14 : decode cX4_anchors 14 = .ok (.lconst 0, 1) := by decide +kernel
theorem dX4_anchors_15 : decode cX4_anchors 15 = .ok (.ldc2_w 164, 3) := by decide +kernel
theorem dX4_anchors_18 : decode cX4_anchors 18 = .ok (.invokestatic 52, 3) := by decide +kernel
theorem dX4_anchors_21 : decode cX4_anchors 21 = .ok (.ifCond .eq 14, 3) := by decide +kernel
theorem dX4_anchors_24 : decode cX4_anchors 24 = .ok (.iload 4, 2) := by decide +kernel
theorem dX4_anchors_26 : decode cX4_anchors 26 = .ok (.i2l, 1) := by decide +kernel
theorem dX4_anchors_27 : decode cX4_anchors 27 = .ok (.lconst 0, 1) := by decide +kernel
theorem dX4_anchors_28 : decode cX4_anchors 28 = .ok (.lconst 1, 1) := by decide +kernel
theorem dX4_anchors_29 : decode cX4_anchors 29 = .ok (.invokestatic 52, 3) := by decide +kernel
theorem dX4_anchors_32 : decode cX4_anchors 32 = .ok (.ifCond .ne 6, 3) := by decide +kernel
theorem dX4_anchors_35 : decode cX4_anchors 35 = .ok (.bipush (-102), 2) := by decide +kernel
theorem dX4_anchors_37 : decode cX4_anchors 37 = .ok (.ireturn, 1) := by decide +kernel
theorem dX4_anchors_38 : decode cX4_anchors 38 = .ok (.aload_n 0, 1) := by decide +kernel
theorem dX4_anchors_39 : decode cX4_anchors 39 = .ok (.getfield 166, 3) := by decide +kernel
theorem dX4_anchors_42 : decode cX4_anchors 42 = .ok (.bipush 30, 2) := by decide +kernel
theorem dX4_anchors_44 : decode cX4_anchors 44 = .ok (.if_icmp .ne 6, 3) := by decide +kernel
theorem dX4_anchors_47 : decode cX4_anchors 47 = .ok (.bipush (-103), 2) := by decide +kernel
theorem dX4_anchors_49 : decode cX4_anchors 49 = .ok (.ireturn, 1) := by decide +kernel
theorem dX4_anchors_50 : decode cX4_anchors 50 = .ok (.aload_n 0, 1) := by decide +kernel
theorem dX4_anchors_51 : decode cX4_anchors 51 = .ok (.dup, 1) := by decide +kernel
theorem dX4_anchors_52 : decode cX4_anchors 52 = .ok (.getfield 166, 3) := by decide +kernel
theorem dX4_anchors_55 : decode cX4_anchors 55 = .ok (.iconst 1, 1) := by decide +kernel
theorem dX4_anchors_56 : decode cX4_anchors 56 = .ok (.iadd, 1) := by decide +kernel
theorem dX4_anchors_57 : decode cX4_anchors 57 = .ok (.putfield 166, 3) := by decide +kernel
theorem dX4_anchors_60 : decode cX4_anchors 60 = .ok (.aload_n 0, 1) := by decide +kernel
theorem dX4_anchors_61 : decode cX4_anchors 61 = .ok (.iload_n 1, 1) := by decide +kernel
theorem dX4_anchors_62 : decode cX4_anchors 62 = .ok (.iload_n 2, 1) := by decide +kernel
theorem dX4_anchors_63 : decode cX4_anchors 63 = .ok (.iload_n 3, 1) := by decide +kernel
theorem dX4_anchors_64 : decode cX4_anchors 64 = .ok (.invokevirtual 169, 3) := by decide +kernel
theorem dX4_anchors_67 : decode cX4_anchors 67 = .ok (.istore 5, 2) := by decide +kernel
theorem dX4_anchors_69 : decode cX4_anchors 69 = .ok (.iload 5, 2) := by decide +kernel
theorem dX4_anchors_71 : decode cX4_anchors 71 = .ok (.iconst (-1), 1) := by decide +kernel
theorem dX4_anchors_72 : decode cX4_anchors 72 = .ok (.if_icmp .eq 9, 3) := by decide +kernel
theorem dX4_anchors_75 : decode cX4_anchors 75 = .ok (.iload 4, 2) := by decide +kernel
theorem dX4_anchors_77 : decode cX4_anchors 77 = .ok (.iconst 1, 1) := by decide +kernel
theorem dX4_anchors_78 : decode cX4_anchors 78 = .ok (.if_icmp .ne 8, 3) := by decide +kernel
theorem dX4_anchors_81 : decode cX4_anchors 81 = .ok (.iload 5, 2) := by decide +kernel
theorem dX4_anchors_83 : decode cX4_anchors 83 = .ok (.goto 8, 3) := by decide +kernel
theorem dX4_anchors_86 : decode cX4_anchors 86 = .ok (.iload 5, 2) := by decide +kernel
theorem dX4_anchors_88 : decode cX4_anchors 88 = .ok (.invokestatic 161, 3) := by decide +kernel
theorem dX4_anchors_91 : decode cX4_anchors 91 = .ok (.ireturn, 1) := by decide +kernel
theorem dX4_likes_0 : decode cX4_likes 0 = .ok (.iload_n 2, 1) := by decide +kernel
theorem dX4_likes_1 : decode cX4_likes 1 = .ok (.iconst (-1), 1) := by decide +kernel
theorem dX4_likes_2 : decode cX4_likes 2 = .ok (.if_icmp .eq 54, 3) := by decide +kernel
theorem dX4_likes_5 : decode cX4_likes 5 = .ok (.aload_n 0, 1) := by decide +kernel
theorem dX4_likes_6 : decode cX4_likes 6 = .ok (.getfield 16, 3) := by decide +kernel
theorem dX4_likes_9 : decode cX4_likes 9 = .ok (.iconst 4, 1) := by decide +kernel
theorem dX4_likes_10 : decode cX4_likes 10 = .ok (.iload_n 1, 1) := by decide +kernel
theorem dX4_likes_11 : decode cX4_likes 11 = .ok (.imul, 1) := by decide +kernel
theorem dX4_likes_12 : decode cX4_likes 12 = .ok (.iconst 1, 1) := by decide +kernel
theorem dX4_likes_13 : decode cX4_likes 13 = .ok (.iadd, 1) := by decide +kernel
theorem dX4_likes_14 : decode cX4_likes 14 = .ok (.iaload, 1) := by decide +kernel
theorem dX4_likes_15 : decode cX4_likes 15 = .ok (.aload_n 0, 1) := by decide +kernel
theorem dX4_likes_16 : decode cX4_likes 16 = .ok (.getfield 16, 3) := by decide +kernel
theorem dX4_likes_19 : decode cX4_likes 19 = .ok (.iconst 4, 1) := by decide +kernel
theorem dX4_likes_20 : decode cX4_likes 20 = .ok (.iload_n 2, 1) := by decide +kernel
theorem dX4_likes_21 : decode cX4_likes 21 = .ok (.imul, 1) := by decide +kernel
theorem dX4_likes_22 : decode cX4_likes 22 = .ok (.iconst 1, 1) := by decide +kernel
theorem dX4_likes_23 : decode cX4_likes 23 = .ok (.iadd, 1) := by decide +kernel
theorem dX4_likes_24 : decode cX4_likes 24 = .ok (.iaload, 1) := by decide +kernel
theorem dX4_likes_25 : decode cX4_likes 25 = .ok (.if_icmp .gt 31, 3) := by decide +kernel
theorem dX4_likes_28 : decode cX4_likes 28 = .ok (.aload_n 0, 1) := by decide +kernel
theorem dX4_likes_29 : decode cX4_likes 29 = .ok (.getfield 16, 3) := by decide +kernel
theorem dX4_likes_32 : decode cX4_likes 32 = .ok (.iconst 4, 1) := by decide +kernel
theorem dX4_likes_33 : decode cX4_likes 33 = .ok (.iload_n 1, 1) := by decide +kernel
theorem dX4_likes_34 : decode cX4_likes 34 = .ok (.imul, 1) := by decide +kernel
theorem dX4_likes_35 : decode cX4_likes 35 = .ok (.iconst 1, 1) := by decide +kernel
theorem dX4_likes_36 : decode cX4_likes 36 = .ok (.iadd, 1) := by decide +kernel
theorem dX4_likes_37 : decode cX4_likes 37 = .ok (.iaload, 1) := by decide +kernel
theorem dX4_likes_38 : decode cX4_likes 38 = .ok (.aload_n 0, 1) := by decide +kernel
theorem dX4_likes_39 : decode cX4_likes 39 = .ok (.getfield 16, 3) := by decide +kernel
theorem dX4_likes_42 : decode cX4_likes 42 = .ok (.iconst 4, 1) := by decide +kernel
theorem dX4_likes_43 : decode cX4_likes 43 = .ok (.iload_n 2, 1) := by decide +kernel
theorem dX4_likes_44 : decode cX4_likes 44 = .ok (.imul, 1) := by decide +kernel
theorem dX4_likes_45 : decode cX4_likes 45 = .ok (.iconst 1, 1) := by decide +kernel
theorem dX4_likes_46 : decode cX4_likes 46 = .ok (.iadd, 1) := by decide +kernel
theorem dX4_likes_47 : decode cX4_likes 47 = .ok (.iaload, 1) := by decide +kernel
theorem dX4_likes_48 : decode cX4_likes 48 = .ok (.if_icmp .ne 12, 3) := by decide +kernel
theorem dX4_likes_51 : decode cX4_likes 51 = .ok (.iload_n 1, 1) := by decide +kernel
theorem dX4_likes_52 : decode cX4_likes 52 = .ok (.iload_n 2, 1) := by decide +kernel
theorem dX4_likes_53 : decode cX4_likes 53 = .ok (.if_icmp .ge 7, 3) := by decide +kernel
theorem dX4_likes_56 : decode cX4_likes 56 = .ok (.iconst 1, 1) := by decide +kernel
theorem dX4_likes_57 : decode cX4_likes 57 = .ok (.goto 4, 3) := by decide +kernel
theorem dX4_likes_60 : decode cX4_likes 60 = .ok (.iconst 0, 1) := by decide +kernel
theorem dX4_likes_61 : decode cX4_likes 61 = .ok (.ireturn, 1) := by decide +kernel
theorem dX4_isMatch_0 : decode cX4_isMatch 0 = .ok (.iload_n 1, 1) := by decide +kernel
theorem dX4_isMatch_1 : decode cX4_isMatch 1 = .ok (.istore_n 2, 1) := by decide +kernel
theorem dX4_isMatch_2 : decode cX4_isMatch 2 = .ok (.aload_n 0, 1) := by decide +kernel
theorem dX4_isMatch_3 : decode cX4_isMatch 3 = .ok (.getfield 76, 3) := by decide +kernel
theorem dX4_isMatch_6 : decode cX4_isMatch 6 = .ok (.iconst 1, 1) := by decide +kernel
theorem dX4_isMatch_7 : decode cX4_isMatch 7 = .ok (.isub, 1) := by decide +kernel
theorem dX4_isMatch_8 : decode cX4_isMatch 8 = .ok (.istore_n 3, 1) := by decide +kernel
theorem dX4_isMatch_9 : decode cX4_isMatch 9 = .ok (.iload_n 3, 1) := by decide +kernel
theorem dX4_isMatch_10 : decode cX4_isMatch 10 = .ok (.ifCond .lt 34, 3) := by decide +kernel
theorem dX4_isMatch_13 : decode cX4_isMatch 13 = .ok (.aload_n 0, 1) := by decide +kernel
theorem dX4_isMatch_14 : decode cX4_isMatch 14 = .ok (.getfield 28, 3) := by decide +kernel
theorem dX4_isMatch_17 : decode cX4_isMatch 17 = .ok (.iload_n 3, 1) := by decide +kernel
theorem dX4_isMatch_18 : decode cX4_isMatch 18 = .ok (.iload_n 2, 1) := by decide +kernel
theorem dX4_isMatch_19 : decode cX4_isMatch 19 = .ok (.aload_n 0, 1) := by decide +kernel
theorem dX4_isMatch_20 : decode cX4_isMatch 20 = .ok (.getfield 76, 3) := by decide +kernel
theorem dX4_isMatch_23 : decode cX4_isMatch 23 = .ok (.iconst 1, 1) := by decide +kernel
theorem dX4_isMatch_24 : decode cX4_isMatch 24 = .ok (.iadd, 1) := by decide +kernel
theorem dX4_isMatch_25 : decode cX4_isMatch 25 = .ok (.irem, 1) := by decide +kernel
theorem dX4_isMatch_26 : decode cX4_isMatch 26 = .ok (.iconst 1, 1) := by decide +kernel
theorem dX4_isMatch_27 : decode cX4_isMatch 27 = .ok (.isub, 1) := by decide +kernel
theorem dX4_isMatch_28 : decode cX4_isMatch 28 = .ok (.iastore, 1) := by decide +kernel
theorem dX4_isMatch_29 : decode cX4_isMatch 29 = .ok (.iload_n 2, 1) := by decide +kernel
theorem dX4_isMatch_30 : decode cX4_isMatch 30 = .ok (.aload_n 0, 1) := by decide +kernel
theorem dX4_isMatch_31 : decode cX4_isMatch 31 = .ok (.getfield 76, 3) := by decide +kernel
theorem dX4_isMatch_34 : decode cX4_isMatch 34 = .ok (.iconst 1, 1) := by decide +kernel
theorem dX4_isMatch_35 : decode cX4_isMatch 35 = .ok (.iadd, 1) := by decide +kernel
theorem dX4_isMatch_36 : decode cX4_isMatch 36 = .ok (.idiv, 1) := by decide +kernel
theorem dX4_isMatch_37 : decode cX4_isMatch 37 = .ok (.istore_n 2, 1) := by decide +kernel
theorem dX4_isMatch_38 : decode cX4_isMatch 38 = .ok (.iinc 3 (-1), 3) := by decide +kernel
theorem dX4_isMatch_41 : decode cX4_isMatch 41 = .ok (.goto (-32), 3) := by decide +kernel
theorem dX4_isMatch_44 : decode cX4_isMatch 44 = .ok (.iconst 1, 1) := by decide +kernel
theorem dX4_isMatch_45 : decode cX4_isMatch 45 = .ok (.istore_n 3, 1) := by decide +kernel
theorem dX4_isMatch_46 : decode cX4_isMatch 46 = .ok (.iconst 0, 1) := by decide +kernel
theorem dX4_isMatch_47 : decode cX4_isMatch 47 = .ok (.istore 4, 2) := by decide +kernel
theorem dX4_isMatch_49 : decode cX4_isMatch 49 = .ok (.iload 4, 2) := by decide +kernel
theorem dX4_isMatch_51 : decode cX4_isMatch 51 = .ok (.aload_n 0, 1) := by decide +kernel
theorem dX4_isMatch_52 : decode cX4_isMatch 52 = .ok (.getfield 76, 3) := by decide +kernel
theorem dX4_isMatch_55 : decode cX4_isMatch 55 = .ok (.if_icmp .ge 80, 3) := by decide +kernel
theorem dX4_isMatch_58 : decode cX4_isMatch 58 = .ok (.iload_n 3, 1) := by decide +kernel
theorem dX4_isMatch_59 : decode cX4_isMatch 59 = .ok (.ifCond .eq 76, 3) := by decide +kernel
theorem dX4_isMatch_62 : decode cX4_isMatch 62 = .ok (.aload_n 0, 1) := by decide +kernel
theorem dX4_isMatch_63 : decode cX4_isMatch 63 = .ok (.getfield 28, 3) := by decide +kernel
theorem dX4_isMatch_66 : decode cX4_isMatch 66 = .ok (.iload 4, 2) := by decide +kernel
theorem dX4_isMatch_68 : decode cX4_isMatch 68 = .ok (.iaload, 1) := by decide +kernel
theorem dX4_isMatch_69 : decode cX4_isMatch 69 = .ok (.iconst (-1), 1) := by decide +kernel
theorem dX4_isMatch_70 : decode cX4_isMatch 70 = .ok (.if_icmp .eq 53, 3) := by decide +kernel
theorem dX4_isMatch_73 : decode cX4_isMatch 73 = .ok (.aload_n 0, 1) := by decide +kernel
theorem dX4_isMatch_74 : decode cX4_isMatch 74 = .ok (.getfield 28, 3) := by decide +kernel
theorem dX4_isMatch_77 : decode cX4_isMatch 77 = .ok (.iload 4, 2) := by decide +kernel
theorem dX4_isMatch_79 : decode cX4_isMatch 79 = .ok (.iaload, 1) := by decide +kernel
theorem dX4_isMatch_80 : decode cX4_isMatch 80 = .ok (.iload 4, 2) := by decide +kernel
theorem dX4_isMatch_82 : decode cX4_isMatch 82 = .ok (.if_icmp .eq 45, 3) := by decide +kernel
theorem dX4_isMatch_85 : decode cX4_isMatch 85 = .ok (.aload_n 0, 1) := by decide +kernel
theorem dX4_isMatch_86 : decode cX4_isMatch 86 = .ok (.getfield 28, 3) := by decide +kernel
theorem dX4_isMatch_89 : decode cX4_isMatch 89 = .ok (.aload_n 0, 1) := by decide +kernel
theorem dX4_isMatch_90 : decode cX4_isMatch 90 = .ok (.getfield 28, 3) := by decide +kernel
theorem dX4_isMatch_93 : decode cX4_isMatch 93 = .ok (.iload 4, 2) := by decide +kernel
theorem dX4_isMatch_95 : decode cX4_isMatch 95 = .ok (.iaload, 1) := by decide +kernel
theorem dX4_isMatch_96 : decode cX4_isMatch 96 = .ok (.iaload, 1) := by decide +kernel
theorem dX4_isMatch_97 : decode cX4_isMatch 97 = .ok (.iload 4, 2) := by decide +kernel
theorem dX4_isMatch_99 : decode cX4_isMatch 99 = .ok (.if_icmp .ne 28, 3) := by decide +kernel
theorem dX4_isMatch_102 : decode cX4_isMatch 102 = .ok (.aload_n 0, 1) := by decide +kernel
theorem dX4_isMatch_103 : decode cX4_isMatch 103 = .ok (.getfield 25, 3) := by decide +kernel
theorem dX4_isMatch_106 : decode cX4_isMatch 106 = .ok (.iconst 5, 1) := by decide +kernel
theorem dX4_isMatch_107 : decode cX4_isMatch 107 = .ok (.iload 4, 2) := by decide +kernel
theorem dX4_isMatch_109 : decode cX4_isMatch 109 = .ok (.imul, 1) := by decide +kernel
theorem dX4_isMatch_110 : decode cX4_isMatch 110 = .ok (.aload_n 0, 1) := by decide +kernel
theorem dX4_isMatch_111 : decode cX4_isMatch 111 = .ok (.getfield 28, 3) := by decide +kernel
theorem dX4_isMatch_114 : decode cX4_isMatch 114 = .ok (.iload 4, 2) := by decide +kernel
theorem dX4_isMatch_116 : decode cX4_isMatch 116 = .ok (.iaload, 1) := by decide +kernel
theorem dX4_isMatch_117 : decode cX4_isMatch 117 = .ok (.iadd, 1) := by decide +kernel
theorem dX4_isMatch_118 : decode cX4_isMatch 118 = .ok (.iaload, 1) := by decide +kernel
theorem dX4_isMatch_119 : decode cX4_isMatch 119 = .ok (.iconst 1, 1) := by decide +kernel
theorem dX4_isMatch_120 : decode cX4_isMatch 120 = .ok (.if_icmp .ne 7, 3) := by decide +kernel
theorem dX4_isMatch_123 : decode cX4_isMatch 123 = .ok (.iconst 1, 1) := by decide +kernel
theorem dX4_isMatch_124 : decode cX4_isMatch 124 = .ok (.goto 4, 3) := by decide +kernel
theorem dX4_isMatch_127 : decode cX4_isMatch 127 = .ok (.iconst 0, 1) := by decide +kernel
theorem dX4_isMatch_128 : decode cX4_isMatch 128 = .ok (.istore_n 3, 1) := by decide +kernel
theorem dX4_isMatch_129 : decode cX4_isMatch 129 = .ok (.iinc 4 1, 3) := by decide +kernel
theorem dX4_isMatch_132 : decode cX4_isMatch 132 = .ok (.goto (-83), 3) := by decide +kernel
theorem dX4_isMatch_135 : decode cX4_isMatch 135 = .ok (.iload_n 3, 1) := by decide +kernel
theorem dX4_isMatch_136 : decode cX4_isMatch 136 = .ok (.ireturn, 1) := by decide +kernel
theorem dX4_isStable_0 : decode cX4_isStable 0 = .ok (.iconst 1, 1) := by decide +kernel
theorem dX4_isStable_1 : decode cX4_isStable 1 = .ok (.istore_n 1, 1) := by decide +kernel
theorem dX4_isStable_2 : decode cX4_isStable 2 = .ok (.iconst 0, 1) := by decide +kernel
theorem dX4_isStable_3 : decode cX4_isStable 3 = .ok (.istore_n 2, 1) := by decide +kernel
theorem dX4_isStable_4 : decode cX4_isStable 4 = .ok (.iload_n 2, 1) := by decide +kernel
theorem dX4_isStable_5 : decode cX4_isStable 5 = .ok (.bipush 25, 2) := by decide +kernel
theorem dX4_isStable_7 : decode cX4_isStable 7 = .ok (.if_icmp .ge 94, 3) := by decide +kernel
theorem dX4_isStable_10 : decode cX4_isStable 10 = .ok (.iload_n 2, 1) := by decide +kernel
theorem dX4_isStable_11 : decode cX4_isStable 11 = .ok (.iconst 5, 1) := by decide +kernel
theorem dX4_isStable_12 : decode cX4_isStable 12 = .ok (.idiv, 1) := by decide +kernel
theorem dX4_isStable_13 : decode cX4_isStable 13 = .ok (.istore_n 3, 1) := by decide +kernel
theorem dX4_isStable_14 : decode cX4_isStable 14 = .ok (.iload_n 2, 1) := by decide +kernel
theorem dX4_isStable_15 : decode cX4_isStable 15 = .ok (.iconst 5, 1) := by decide +kernel
theorem dX4_isStable_16 : decode cX4_isStable 16 = .ok (.irem, 1) := by decide +kernel
theorem dX4_isStable_17 : decode cX4_isStable 17 = .ok (.istore 4, 2) := by decide +kernel
theorem dX4_isStable_19 : decode cX4_isStable 19 = .ok (.iload_n 3, 1) := by decide +kernel
theorem dX4_isStable_20 : decode cX4_isStable 20 = .ok (.iload 4, 2) := by decide +kernel
theorem dX4_isStable_22 : decode cX4_isStable 22 = .ok (.if_icmp .ge 73, 3) := by decide +kernel
theorem dX4_isStable_25 : decode cX4_isStable 25 = .ok (.iload 4, 2) := by decide +kernel
theorem dX4_isStable_27 : decode cX4_isStable 27 = .ok (.aload_n 0, 1) := by decide +kernel
theorem dX4_isStable_28 : decode cX4_isStable 28 = .ok (.getfield 76, 3) := by decide +kernel
theorem dX4_isStable_31 : decode cX4_isStable 31 = .ok (.if_icmp .ge 64, 3) := by decide +kernel
theorem dX4_isStable_34 : decode cX4_isStable 34 = .ok (.aload_n 0, 1) := by decide +kernel
theorem dX4_isStable_35 : decode cX4_isStable 35 = .ok (.getfield 25, 3) := by decide +kernel
theorem dX4_isStable_38 : decode cX4_isStable 38 = .ok (.iload_n 2, 1) := by decide +kernel
theorem dX4_isStable_39 : decode cX4_isStable 39 = .ok (.iaload, 1) := by decide +kernel
theorem dX4_isStable_40 : decode cX4_isStable 40 = .ok (.iconst 1, 1) := by decide +kernel
theorem dX4_isStable_41 : decode cX4_isStable 41 = .ok (.if_icmp .ne 54, 3) := by decide +kernel
theorem dX4_isStable_44 : decode cX4_isStable 44 = .ok (.aload_n 0, 1) := by decide +kernel
theorem dX4_isStable_45 : decode cX4_isStable 45 = .ok (.getfield 28, 3) := by decide +kernel
theorem dX4_isStable_48 : decode cX4_isStable 48 = .ok (.iload_n 3, 1) := by decide +kernel
theorem dX4_isStable_49 : decode cX4_isStable 49 = .ok (.iaload, 1) := by decide +kernel
theorem dX4_isStable_50 : decode cX4_isStable 50 = .ok (.iload 4, 2) := by decide +kernel
theorem dX4_isStable_52 : decode cX4_isStable 52 = .ok (.if_icmp .eq 43, 3) := by decide +kernel
theorem dX4_isStable_55 : decode cX4_isStable 55 = .ok (.iload_n 1, 1) := by decide +kernel
theorem dX4_isStable_56 : decode cX4_isStable 56 = .ok (.ifCond .eq 37, 3) := by decide +kernel
theorem dX4_isStable_59 : decode cX4_isStable 59 = .ok (.aload_n 0, 1) := by decide +kernel
theorem dX4_isStable_60 : decode cX4_isStable 60 = .ok (.iload 4, 2) := by decide +kernel
theorem dX4_isStable_62 : decode cX4_isStable 62 = .ok (.aload_n 0, 1) := by decide +kernel
theorem dX4_isStable_63 : decode cX4_isStable 63 = .ok (.getfield 28, 3) := by decide +kernel
theorem dX4_isStable_66 : decode cX4_isStable 66 = .ok (.iload_n 3, 1) := by decide +kernel
theorem dX4_isStable_67 : decode cX4_isStable 67 = .ok (.iaload, 1) := by decide +kernel
theorem dX4_isStable_68 : decode cX4_isStable 68 = .ok (.invokevirtual 173, 3) := by decide +kernel
theorem dX4_isStable_71 : decode cX4_isStable 71 = .ok (.ifCond .eq 18, 3) := by decide +kernel
theorem dX4_isStable_74 : decode cX4_isStable 74 = .ok (.aload_n 0, 1) := by decide +kernel
theorem dX4_isStable_75 : decode cX4_isStable 75 = .ok (.iload_n 3, 1) := by decide +kernel
theorem dX4_isStable_76 : decode cX4_isStable 76 = .ok (.aload_n 0, 1) := by decide +kernel
theorem dX4_isStable_77 : decode cX4_isStable 77 = .ok (.getfield 28, 3) := by decide +kernel
theorem dX4_isStable_80 : decode cX4_isStable 80 = .ok (.iload 4, 2) := by decide +kernel
theorem dX4_isStable_82 : decode cX4_isStable 82 = .ok (.iaload, 1) := by decide +kernel
theorem dX4_isStable_83 : decode cX4_isStable 83 = .ok (.invokevirtual 173, 3) := by decide +kernel
theorem dX4_isStable_86 : decode cX4_isStable 86 = .ok (.ifCond .ne 7, 3) := by decide +kernel
theorem dX4_isStable_89 : decode cX4_isStable 89 = .ok (.iconst 1, 1) := by decide +kernel
theorem dX4_isStable_90 : decode cX4_isStable 90 = .ok (.goto 4, 3) := by decide +kernel
theorem dX4_isStable_93 : decode cX4_isStable 93 = .ok (.iconst 0, 1) := by decide +kernel
theorem dX4_isStable_94 : decode cX4_isStable 94 = .ok (.istore_n 1, 1) := by decide +kernel
theorem dX4_isStable_95 : decode cX4_isStable 95 = .ok (.iinc 2 1, 3) := by decide +kernel
theorem dX4_isStable_98 : decode cX4_isStable 98 = .ok (.goto (-94), 3) := by decide +kernel
theorem dX4_isStable_101 : decode cX4_isStable 101 = .ok (.iload_n 1, 1) := by decide +kernel
theorem dX4_isStable_102 : decode cX4_isStable 102 = .ok (.ireturn, 1) := by decide +kernel
theorem dX4_layStable_0 : decode cX4_layStable 0 = .ok (.iconst 0, 1) := by decide +kernel
theorem dX4_layStable_1 : decode cX4_layStable 1 = .ok (.istore_n 1, 1) := by decide +kernel
theorem dX4_layStable_2 : decode cX4_layStable 2 = .ok (.iload_n 1, 1) := by decide +kernel
theorem dX4_layStable_3 : decode cX4_layStable 3 = .ok (.bipush 25, 2) := by decide +kernel
theorem dX4_layStable_5 : decode cX4_layStable 5 = .ok (.if_icmp .ge 50, 3) := by decide +kernel
theorem dX4_layStable_8 : decode cX4_layStable 8 = .ok (.iload_n 1, 1) := by decide +kernel
theorem dX4_layStable_9 : decode cX4_layStable 9 = .ok (.iconst 5, 1) := by decide +kernel
theorem dX4_layStable_10 : decode cX4_layStable 10 = .ok (.idiv, 1) := by decide +kernel
theorem dX4_layStable_11 : decode cX4_layStable 11 = .ok (.istore_n 2, 1) := by decide +kernel
theorem dX4_layStable_12 : decode cX4_layStable 12 = .ok (.iload_n 1, 1) := by decide +kernel
theorem dX4_layStable_13 : decode cX4_layStable 13 = .ok (.iconst 5, 1) := by decide +kernel
theorem dX4_layStable_14 : decode cX4_layStable 14 = .ok (.irem, 1) := by decide +kernel
theorem dX4_layStable_15 : decode cX4_layStable 15 = .ok (.istore_n 3, 1) := by decide +kernel
theorem dX4_layStable_16 : decode cX4_layStable 16 = .ok (.aload_n 0, 1) := by decide +kernel
theorem dX4_layStable_17 : decode cX4_layStable 17 = .ok (.getfield 25, 3) := by decide +kernel
theorem dX4_layStable_20 : decode cX4_layStable 20 = .ok (.iload_n 1, 1) := by decide +kernel
theorem dX4_layStable_21 : decode cX4_layStable 21 = .ok (.aload_n 0, 1) := by decide +kernel
theorem dX4_layStable_22 : decode cX4_layStable 22 = .ok (.iload_n 2, 1) := by decide +kernel
theorem dX4_layStable_23 : decode cX4_layStable 23 = .ok (.iload_n 3, 1) := by decide +kernel
theorem dX4_layStable_24 : decode cX4_layStable 24 = .ok (.invokevirtual 151, 3) := by decide +kernel
theorem dX4_layStable_27 : decode cX4_layStable 27 = .ok (.ifCond .eq 20, 3) := by decide +kernel
theorem dX4_layStable_30 : decode cX4_layStable 30 = .ok (.aload_n 0, 1) := by decide +kernel
theorem dX4_layStable_31 : decode cX4_layStable 31 = .ok (.iload_n 2, 1) := by decide +kernel
theorem dX4_layStable_32 : decode cX4_layStable 32 = .ok (.iload_n 3, 1) := by decide +kernel
theorem dX4_layStable_33 : decode cX4_layStable 33 = .ok (.iconst 0, 1) := by decide +kernel
theorem dX4_layStable_34 : decode cX4_layStable 34 = .ok (.bipush 30, 2) := by decide +kernel
theorem dX4_layStable_36 : decode cX4_layStable 36 = .ok (.invokevirtual 157, 3) := by decide +kernel
theorem dX4_layStable_39 : decode cX4_layStable 39 = .ok (.iconst (-1), 1) := by decide +kernel
theorem dX4_layStable_40 : decode cX4_layStable 40 = .ok (.if_icmp .eq 7, 3) := by decide +kernel
theorem dX4_layStable_43 : decode cX4_layStable 43 = .ok (.iconst 1, 1) := by decide +kernel
theorem dX4_layStable_44 : decode cX4_layStable 44 = .ok (.goto 4, 3) := by decide +kernel
theorem dX4_layStable_47 : decode cX4_layStable 47 = .ok (.iconst 0, 1) := by decide +kernel
theorem dX4_layStable_48 : decode cX4_layStable 48 = .ok (.iastore, 1) := by decide +kernel
theorem dX4_layStable_49 : decode cX4_layStable 49 = .ok (.iinc 1 1, 3) := by decide +kernel
theorem dX4_layStable_52 : decode cX4_layStable 52 = .ok (.goto (-50), 3) := by decide +kernel
theorem dX4_layStable_55 : decode cX4_layStable 55 = .ok (.iconst 1, 1) := by decide +kernel
theorem dX4_layStable_56 : decode cX4_layStable 56 = .ok (.istore_n 1, 1) := by decide +kernel
theorem dX4_layStable_57 : decode cX4_layStable 57 = .ok (.iconst 0, 1) := by decide +kernel
theorem dX4_layStable_58 : decode cX4_layStable 58 = .ok (.istore_n 2, 1) := by decide +kernel
theorem dX4_layStable_59 : decode cX4_layStable 59 = .ok (.iload_n 2, 1) := by decide +kernel
theorem dX4_layStable_60 : decode cX4_layStable 60 = .ok (.aload_n 0, 1) := by decide +kernel
theorem dX4_layStable_61 : decode cX4_layStable 61 = .ok (.getfield 76, 3) := by decide +kernel
theorem dX4_layStable_64 : decode cX4_layStable 64 = .ok (.if_icmp .ge 18, 3) := by decide +kernel
theorem dX4_layStable_67 : decode cX4_layStable 67 = .ok (.iload_n 1, 1) := by decide +kernel
theorem dX4_layStable_68 : decode cX4_layStable 68 = .ok (.aload_n 0, 1) := by decide +kernel
theorem dX4_layStable_69 : decode cX4_layStable 69 = .ok (.getfield 76, 3) := by decide +kernel
theorem dX4_layStable_72 : decode cX4_layStable 72 = .ok (.iconst 1, 1) := by decide +kernel
theorem dX4_layStable_73 : decode cX4_layStable 73 = .ok (.iadd, 1) := by decide +kernel
theorem dX4_layStable_74 : decode cX4_layStable 74 = .ok (.imul, 1) := by decide +kernel
theorem dX4_layStable_75 : decode cX4_layStable 75 = .ok (.istore_n 1, 1) := by decide +kernel
theorem dX4_layStable_76 : decode cX4_layStable 76 = .ok (.iinc 2 1, 3) := by decide +kernel
theorem dX4_layStable_79 : decode cX4_layStable 79 = .ok (.goto (-20), 3) := by decide +kernel
theorem dX4_layStable_82 : decode cX4_layStable 82 = .ok (.aload_n 0, 1) := by decide +kernel
theorem dX4_layStable_83 : decode cX4_layStable 83 = .ok (.iconst 0, 1) := by decide +kernel
theorem dX4_layStable_84 : decode cX4_layStable 84 = .ok (.putfield 176, 3) := by decide +kernel
theorem dX4_layStable_87 : decode cX4_layStable 87 = .ok (.aload_n 0, 1) := by decide +kernel
theorem dX4_layStable_88 : decode cX4_layStable 88 = .ok (.iconst (-1), 1) := by decide +kernel
theorem dX4_layStable_89 : decode cX4_layStable 89 = .ok (.putfield 179, 3) := by decide +kernel
theorem dX4_layStable_92 : decode cX4_layStable 92 = .ok (.iconst 0, 1) := by decide +kernel
theorem dX4_layStable_93 : decode cX4_layStable 93 = .ok (.istore_n 2, 1) := by decide +kernel
theorem dX4_layStable_94 : decode cX4_layStable 94 = .ok (.iload_n 2, 1) := by decide +kernel
theorem dX4_layStable_95 : decode cX4_layStable 95 = .ok (.iload_n 1, 1) := by decide +kernel
theorem dX4_layStable_96 : decode cX4_layStable 96 = .ok (.if_icmp .ge 98, 3) := by decide +kernel
theorem dX4_layStable_99 : decode cX4_layStable 99 = .ok (.aload_n 0, 1) := by decide +kernel
theorem dX4_layStable_100 : decode cX4_layStable 100 = .ok (.iload_n 2, 1) := by decide +kernel
theorem dX4_layStable_101 : decode cX4_layStable 101 = .ok (.invokevirtual 182, 3) := by decide +kernel
theorem dX4_layStable_104 : decode cX4_layStable 104 = .ok (.ifCond .eq 84, 3) := by decide +kernel
theorem dX4_layStable_107 : decode cX4_layStable 107 = .ok (.aload_n 0, 1) := by decide +kernel
theorem dX4_layStable_108 : decode cX4_layStable 108 = .ok (.invokevirtual 185, 3) := by decide +kernel
theorem dX4_layStable_111 : decode cX4_layStable 111 = .ok (.ifCond .eq 77, 3) := by decide +kernel
theorem dX4_layStable_114 : decode cX4_layStable 114 = .ok (.aload_n 0, 1) := by decide +kernel
theorem dX4_layStable_115 : decode cX4_layStable 115 = .ok (.dup, 1) := by decide +kernel
theorem dX4_layStable_116 : decode cX4_layStable 116 = .ok (.getfield 176, 3) := by decide +kernel
theorem dX4_layStable_119 : decode cX4_layStable 119 = .ok (.iconst 1, 1) := by decide +kernel
theorem dX4_layStable_120 : decode cX4_layStable 120 = .ok (.iadd, 1) := by decide +kernel
theorem dX4_layStable_121 : decode cX4_layStable 121 = .ok (.putfield 176, 3) := by decide +kernel
theorem dX4_layStable_124 : decode cX4_layStable 124 = .ok (.iconst 0, 1) := by decide +kernel
theorem dX4_layStable_125 : decode cX4_layStable 125 = .ok (.istore_n 3, 1) := by decide +kernel
theorem dX4_layStable_126 : decode cX4_layStable 126 = .ok (.iconst 0, 1) := by decide +kernel
theorem dX4_layStable_127 : decode cX4_layStable 127 = .ok (.istore 4, 2) := by decide +kernel
theorem dX4_layStable_129 : decode cX4_layStable 129 = .ok (.iload 4, 2) := by decide +kernel
theorem dX4_layStable_131 : decode cX4_layStable 131 = .ok (.aload_n 0, 1) := by decide +kernel
theorem dX4_layStable_132 : decode cX4_layStable 132 = .ok (.getfield 76, 3) := by decide +kernel
theorem dX4_layStable_135 : decode cX4_layStable 135 = .ok (.if_icmp .ge 29, 3) := by decide +kernel
theorem dX4_layStable_138 : decode cX4_layStable 138 = .ok (.iload_n 3, 1) := by decide +kernel
theorem dX4_layStable_139 : decode cX4_layStable 139 = .ok (.aload_n 0, 1) := by decide +kernel
theorem dX4_layStable_140 : decode cX4_layStable 140 = .ok (.getfield 28, 3) := by decide +kernel
theorem dX4_layStable_143 : decode cX4_layStable 143 = .ok (.iload 4, 2) := by decide +kernel
theorem dX4_layStable_145 : decode cX4_layStable 145 = .ok (.iaload, 1) := by decide +kernel
theorem dX4_layStable_146 : decode cX4_layStable 146 = .ok (.iload 4, 2) := by decide +kernel
theorem dX4_layStable_148 : decode cX4_layStable 148 = .ok (.if_icmp .le 7, 3) := by decide +kernel
theorem dX4_layStable_151 : decode cX4_layStable 151 = .ok (.iconst 1, 1) := by decide +kernel
theorem dX4_layStable_152 : decode cX4_layStable 152 = .ok (.goto 4, 3) := by decide +kernel
theorem dX4_layStable_155 : decode cX4_layStable 155 = .ok (.iconst 0, 1) := by decide +kernel
theorem dX4_layStable_156 : decode cX4_layStable 156 = .ok (.iadd, 1) := by decide +kernel
theorem dX4_layStable_157 : decode cX4_layStable 157 = .ok (.istore_n 3, 1) := by decide +kernel
theorem dX4_layStable_158 : decode cX4_layStable 158 = .ok (.iinc 4 1, 3) := by decide +kernel
theorem dX4_layStable_161 : decode cX4_layStable 161 = .ok (.goto (-32), 3) := by decide +kernel
theorem dX4_layStable_164 : decode cX4_layStable 164 = .ok (.iload_n 3, 1) := by decide +kernel
theorem dX4_layStable_165 : decode cX4_layStable 165 = .ok (.aload_n 0, 1) := by decide +kernel
theorem dX4_layStable_166 : decode cX4_layStable 166 = .ok (.getfield 179, 3) := by decide +kernel
theorem dX4_layStable_169 : decode cX4_layStable 169 = .ok (.if_icmp .le 19, 3) := by decide +kernel
theorem dX4_layStable_172 : decode cX4_layStable 172 = .ok (.aload_n 0, 1) := by decide +kernel
theorem dX4_layStable_173 : decode cX4_layStable 173 = .ok (.iload_n 3, 1) := by decide +kernel
theorem dX4_layStable_174 : decode cX4_layStable 174 = .ok (.putfield 179, 3) := by decide +kernel
theorem dX4_layStable_177 : decode cX4_layStable 177 = .ok (.aload_n 0, 1) := by decide +kernel
theorem dX4_layStable_178 : decode cX4_layStable 178 = .ok (.getfield 28, 3) := by decide +kernel
theorem dX4_layStable_181 : decode cX4_layStable 181 = .ok (.aload_n 0, 1) := by decide +kernel
theorem dX4_layStable_182 : decode cX4_layStable 182 = .ok (.getfield 31, 3) := by decide +kernel
theorem dX4_layStable_185 : decode cX4_layStable 185 = .ok (.invokestatic 189, 3) := by decide +kernel
theorem dX4_layStable_188 : decode cX4_layStable 188 = .ok (.iinc 2 1, 3) := by decide +kernel
theorem dX4_layStable_191 : decode cX4_layStable 191 = .ok (.goto (-97), 3) := by decide +kernel
theorem dX4_layStable_194 : decode cX4_layStable 194 = .ok (.return_, 1) := by decide +kernel
theorem dX4_tellStable_0 : decode cX4_tellStable 0 = .ok (.iload_n 1, 1) := by decide +kernel
theorem dX4_tellStable_1 : decode cX4_tellStable 1 = .ok (.ifCond .ne 10, 3) := by decide +kernel
theorem dX4_tellStable_4 : decode cX4_tellStable 4 = .ok (.aload_n 0, 1) := by decide +kernel
theorem dX4_tellStable_5 : decode cX4_tellStable 5 = .ok (.getfield 176, 3) := by decide +kernel
theorem dX4_tellStable_8 : decode cX4_tellStable 8 = .ok (.goto 59, 3) := by decide +kernel
theorem dX4_tellStable_11 : decode cX4_tellStable 11 = .ok (.iload_n 1, 1) := by decide +kernel
theorem dX4_tellStable_12 : decode cX4_tellStable 12 = .ok (.iconst 1, 1) := by decide +kernel
theorem dX4_tellStable_13 : decode cX4_tellStable 13 = .ok (.if_icmp .ne 22, 3) := by decide +kernel
theorem dX4_tellStable_16 : decode cX4_tellStable 16 = .ok (.aload_n 0, 1) := by decide +kernel
theorem dX4_tellStable_17 : decode cX4_tellStable 17 = .ok (.getfield 179, 3) := by decide +kernel
theorem dX4_tellStable_20 : decode cX4_tellStable 20 = .ok (.iconst (-1), 1) := by decide +kernel
theorem dX4_tellStable_21 : decode cX4_tellStable 21 = .ok (.if_icmp .ne 7, 3) := by decide +kernel
theorem dX4_tellStable_24 : decode cX4_tellStable 24 = .ok (.iconst 0, 1) := by decide +kernel
theorem dX4_tellStable_25 : decode cX4_tellStable 25 = .ok (.goto 42, 3) := by decide +kernel
theorem dX4_tellStable_28 : decode cX4_tellStable 28 = .ok (.aload_n 0, 1) := by decide +kernel
theorem dX4_tellStable_29 : decode cX4_tellStable 29 = .ok (.getfield 179, 3) := by decide +kernel
theorem dX4_tellStable_32 : decode cX4_tellStable 32 = .ok (.goto 35, 3) := by decide +kernel
theorem dX4_tellStable_35 : decode cX4_tellStable 35 = .ok (.iload_n 1, 1) := by decide +kernel
theorem dX4_tellStable_36 : decode cX4_tellStable 36 = .ok (.bipush 10, 2) := by decide +kernel
theorem dX4_tellStable_38 : decode cX4_tellStable 38 = .ok (.isub, 1) := by decide +kernel
theorem dX4_tellStable_39 : decode cX4_tellStable 39 = .ok (.aload_n 0, 1) := by decide +kernel
theorem dX4_tellStable_40 : decode cX4_tellStable 40 = .ok (.getfield 76, 3) := by decide +kernel
theorem dX4_tellStable_43 : decode cX4_tellStable 43 = .ok (.if_icmp .ge 23, 3) := by decide +kernel
theorem dX4_tellStable_46 : decode cX4_tellStable 46 = .ok (.aload_n 0, 1) := by decide +kernel
theorem dX4_tellStable_47 : decode cX4_tellStable 47 = .ok (.getfield 179, 3) := by decide +kernel
theorem dX4_tellStable_50 : decode cX4_tellStable 50 = .ok (.iconst (-1), 1) := by decide +kernel
theorem dX4_tellStable_51 : decode cX4_tellStable 51 = .ok (.if_icmp .eq 15, 3) := by decide +kernel
theorem dX4_tellStable_54 : decode cX4_tellStable 54 = .ok (.aload_n 0, 1) := by decide +kernel
theorem dX4_tellStable_55 : decode cX4_tellStable 55 = .ok (.getfield 31, 3) := by decide +kernel
theorem dX4_tellStable_58 : decode cX4_tellStable 58 = .ok (.iload_n 1, 1) := by decide +kernel
theorem dX4_tellStable_59 : decode cX4_tellStable 59 = .ok (.bipush 10, 2) := by decide +kernel
theorem dX4_tellStable_61 : decode cX4_tellStable 61 = .ok (.isub, 1) := by decide +kernel
theorem dX4_tellStable_62 : decode cX4_tellStable 62 = .ok (.iaload, 1) := by decide +kernel
theorem dX4_tellStable_63 : decode cX4_tellStable 63 = .ok (.goto 4, 3) := by decide +kernel
theorem dX4_tellStable_66 : decode cX4_tellStable 66 = .ok (.iconst (-1), 1) := by decide +kernel
theorem dX4_tellStable_67 : decode cX4_tellStable 67 = .ok (.ireturn, 1) := by decide +kernel
theorem dX4_stable_0 : decode cX4_stable 0 = .ok (.iload_n 1, 1) := by decide +kernel
theorem dX4_stable_1 : decode cX4_stable 1 = .ok (.i2l, 1) := by decide +kernel
theorem dX4_stable_2 : decode cX4_stable 2 = .ok (.lconst 0, 1) := by decide +kernel
theorem dX4_stable_3 : decode cX4_stable 3 = .ok (.lconst 1, 1) := by decide +kernel
theorem dX4_stable_4 : decode cX4_stable 4 = .ok (.invokestatic 52, 3) := by decide +kernel
theorem dX4_stable_7 : decode cX4_stable 7 = .ok (.ifCond .ne 20, 3) := by decide +kernel
theorem dX4_stable_10 : decode cX4_stable 10 = .ok (.iload_n 1, 1) := by decide +kernel
theorem dX4_stable_11 : decode cX4_stable 11 = .ok (.i2l, 1) := by decide +kernel
theorem dX4_stable_12 : decode cX4_stable 12 = .ok (.ldc2_w 193, 3) := by decide +kernel
theorem dX4_stable_15 : decode cX4_stable 15 = .ok (.ldc2_w 195, 3) := by decide +kernel
theorem dX4_stable_18 : decode cX4_stable 18 = .ok (.invokestatic 52, 3) := by decide +kernel
theorem dX4_stable_21 : decode cX4_stable 21 = .ok (.ifCond .ne 6, 3) := by decide +kernel
theorem dX4_stable_24 : decode cX4_stable 24 = .ok (.bipush (-102), 2) := by decide +kernel
theorem dX4_stable_26 : decode cX4_stable 26 = .ok (.ireturn, 1) := by decide +kernel
theorem dX4_stable_27 : decode cX4_stable 27 = .ok (.aload_n 0, 1) := by decide +kernel
theorem dX4_stable_28 : decode cX4_stable 28 = .ok (.getfield 63, 3) := by decide +kernel
theorem dX4_stable_31 : decode cX4_stable 31 = .ok (.ifCond .ne 6, 3) := by decide +kernel
theorem dX4_stable_34 : decode cX4_stable 34 = .ok (.bipush (-103), 2) := by decide +kernel
theorem dX4_stable_36 : decode cX4_stable 36 = .ok (.ireturn, 1) := by decide +kernel
theorem dX4_stable_37 : decode cX4_stable 37 = .ok (.aload_n 0, 1) := by decide +kernel
theorem dX4_stable_38 : decode cX4_stable 38 = .ok (.invokevirtual 197, 3) := by decide +kernel
theorem dX4_stable_41 : decode cX4_stable 41 = .ok (.aload_n 0, 1) := by decide +kernel
theorem dX4_stable_42 : decode cX4_stable 42 = .ok (.iload_n 1, 1) := by decide +kernel
theorem dX4_stable_43 : decode cX4_stable 43 = .ok (.invokevirtual 200, 3) := by decide +kernel
theorem dX4_stable_46 : decode cX4_stable 46 = .ok (.ireturn, 1) := by decide +kernel
theorem dX4_parting_0 : decode cX4_parting 0 = .ok (.aload_n 0, 1) := by decide +kernel
theorem dX4_parting_1 : decode cX4_parting 1 = .ok (.iload_n 1, 1) := by decide +kernel
theorem dX4_parting_2 : decode cX4_parting 2 = .ok (.iload_n 2, 1) := by decide +kernel
theorem dX4_parting_3 : decode cX4_parting 3 = .ok (.invokevirtual 151, 3) := by decide +kernel
theorem dX4_parting_6 : decode cX4_parting 6 = .ok (.ifCond .ne 6, 3) := by decide +kernel
theorem dX4_parting_9 : decode cX4_parting 9 = .ok (.bipush (-101), 2) := by decide +kernel
theorem dX4_parting_11 : decode cX4_parting 11 = .ok (.ireturn, 1) := by decide +kernel
theorem dX4_parting_12 : decode cX4_parting 12 = .ok (.aload_n 0, 1) := by decide +kernel
theorem dX4_parting_13 : decode cX4_parting 13 = .ok (.iload_n 1, 1) := by decide +kernel
theorem dX4_parting_14 : decode cX4_parting 14 = .ok (.invokevirtual 120, 3) := by decide +kernel
theorem dX4_parting_17 : decode cX4_parting 17 = .ok (.iload_n 2, 1) := by decide +kernel
theorem dX4_parting_18 : decode cX4_parting 18 = .ok (.ishr, 1) := by decide +kernel
theorem dX4_parting_19 : decode cX4_parting 19 = .ok (.iconst 1, 1) := by decide +kernel
theorem dX4_parting_20 : decode cX4_parting 20 = .ok (.iand, 1) := by decide +kernel
theorem dX4_parting_21 : decode cX4_parting 21 = .ok (.ifCond .ne 6, 3) := by decide +kernel
theorem dX4_parting_24 : decode cX4_parting 24 = .ok (.bipush (-103), 2) := by decide +kernel
theorem dX4_parting_26 : decode cX4_parting 26 = .ok (.ireturn, 1) := by decide +kernel
theorem dX4_parting_27 : decode cX4_parting 27 = .ok (.bipush 6, 2) := by decide +kernel
theorem dX4_parting_29 : decode cX4_parting 29 = .ok (.istore_n 3, 1) := by decide +kernel
theorem dX4_parting_30 : decode cX4_parting 30 = .ok (.iconst 0, 1) := by decide +kernel
theorem dX4_parting_31 : decode cX4_parting 31 = .ok (.istore 4, 2) := by decide +kernel
theorem dX4_parting_33 : decode cX4_parting 33 = .ok (.iload 4, 2) := by decide +kernel
theorem dX4_parting_35 : decode cX4_parting 35 = .ok (.iconst 1, 1) := by decide +kernel
theorem dX4_parting_36 : decode cX4_parting 36 = .ok (.aload_n 0, 1) := by decide +kernel
theorem dX4_parting_37 : decode cX4_parting 37 = .ok (.getfield 79, 3) := by decide +kernel
theorem dX4_parting_40 : decode cX4_parting 40 = .ok (.ishl, 1) := by decide +kernel
theorem dX4_parting_41 : decode cX4_parting 41 = .ok (.if_icmp .ge 56, 3) := by decide +kernel
theorem dX4_parting_44 : decode cX4_parting 44 = .ok (.aload_n 0, 1) := by decide +kernel
theorem dX4_parting_45 : decode cX4_parting 45 = .ok (.iload_n 1, 1) := by decide +kernel
theorem dX4_parting_46 : decode cX4_parting 46 = .ok (.iload 4, 2) := by decide +kernel
theorem dX4_parting_48 : decode cX4_parting 48 = .ok (.iconst (-1), 1) := by decide +kernel
theorem dX4_parting_49 : decode cX4_parting 49 = .ok (.ixor, 1) := by decide +kernel
theorem dX4_parting_50 : decode cX4_parting 50 = .ok (.invokevirtual 116, 3) := by decide +kernel
theorem dX4_parting_53 : decode cX4_parting 53 = .ok (.iload_n 2, 1) := by decide +kernel
theorem dX4_parting_54 : decode cX4_parting 54 = .ok (.ishr, 1) := by decide +kernel
theorem dX4_parting_55 : decode cX4_parting 55 = .ok (.iconst 1, 1) := by decide +kernel
theorem dX4_parting_56 : decode cX4_parting 56 = .ok (.iand, 1) := by decide +kernel
theorem dX4_parting_57 : decode cX4_parting 57 = .ok (.ifCond .ne 7, 3) := by decide +kernel
theorem dX4_parting_60 : decode cX4_parting 60 = .ok (.iconst 1, 1) := by decide +kernel
theorem dX4_parting_61 : decode cX4_parting 61 = .ok (.goto 4, 3) := by decide +kernel
theorem dX4_parting_64 : decode cX4_parting 64 = .ok (.iconst 0, 1) := by decide +kernel
theorem dX4_parting_65 : decode cX4_parting 65 = .ok (.istore 5, 2) := by decide +kernel
theorem dX4_parting_67 : decode cX4_parting 67 = .ok (.iload 5, 2) := by decide +kernel
theorem dX4_parting_69 : decode cX4_parting 69 = .ok (.ifCond .eq 20, 3) := by decide +kernel
theorem dX4_parting_72 : decode cX4_parting 72 = .ok (.iload 4, 2) := by decide +kernel
theorem dX4_parting_74 : decode cX4_parting 74 = .ok (.invokestatic 161, 3) := by decide +kernel
theorem dX4_parting_77 : decode cX4_parting 77 = .ok (.iload_n 3, 1) := by decide +kernel
theorem dX4_parting_78 : decode cX4_parting 78 = .ok (.if_icmp .ge 11, 3) := by decide +kernel
theorem dX4_parting_81 : decode cX4_parting 81 = .ok (.iload 4, 2) := by decide +kernel
theorem dX4_parting_83 : decode cX4_parting 83 = .ok (.invokestatic 161, 3) := by decide +kernel
theorem dX4_parting_86 : decode cX4_parting 86 = .ok (.goto 4, 3) := by decide +kernel
theorem dX4_parting_89 : decode cX4_parting 89 = .ok (.iload_n 3, 1) := by decide +kernel
theorem dX4_parting_90 : decode cX4_parting 90 = .ok (.istore_n 3, 1) := by decide +kernel
theorem dX4_parting_91 : decode cX4_parting 91 = .ok (.iinc 4 1, 3) := by decide +kernel
theorem dX4_parting_94 : decode cX4_parting 94 = .ok (.goto (-61), 3) := by decide +kernel
theorem dX4_parting_97 : decode cX4_parting 97 = .ok (.iload_n 3, 1) := by decide +kernel
theorem dX4_parting_98 : decode cX4_parting 98 = .ok (.ireturn, 1) := by decide +kernel
theorem dX4_shell_0 : decode cX4_shell 0 = .ok (.aload_n 0, 1) := by decide +kernel
theorem dX4_shell_1 : decode cX4_shell 1 = .ok (.iload_n 1, 1) := by decide +kernel
theorem dX4_shell_2 : decode cX4_shell 2 = .ok (.iload_n 2, 1) := by decide +kernel
theorem dX4_shell_3 : decode cX4_shell 3 = .ok (.invokevirtual 151, 3) := by decide +kernel
theorem dX4_shell_6 : decode cX4_shell 6 = .ok (.ifCond .ne 6, 3) := by decide +kernel
theorem dX4_shell_9 : decode cX4_shell 9 = .ok (.bipush (-101), 2) := by decide +kernel
theorem dX4_shell_11 : decode cX4_shell 11 = .ok (.ireturn, 1) := by decide +kernel
theorem dX4_shell_12 : decode cX4_shell 12 = .ok (.iload_n 3, 1) := by decide +kernel
theorem dX4_shell_13 : decode cX4_shell 13 = .ok (.i2l, 1) := by decide +kernel
theorem dX4_shell_14 : decode cX4_shell 14 = .ok (.lconst 0, 1) := by decide +kernel
theorem dX4_shell_15 : decode cX4_shell 15 = .ok (.ldc2_w 203, 3) := by decide +kernel
theorem dX4_shell_18 : decode cX4_shell 18 = .ok (.invokestatic 52, 3) := by decide +kernel
theorem dX4_shell_21 : decode cX4_shell 21 = .ok (.ifCond .ne 6, 3) := by decide +kernel
theorem dX4_shell_24 : decode cX4_shell 24 = .ok (.bipush (-102), 2) := by decide +kernel
theorem dX4_shell_26 : decode cX4_shell 26 = .ok (.ireturn, 1) := by decide +kernel
theorem dX4_shell_27 : decode cX4_shell 27 = .ok (.aload_n 0, 1) := by decide +kernel
theorem dX4_shell_28 : decode cX4_shell 28 = .ok (.getfield 82, 3) := by decide +kernel
theorem dX4_shell_31 : decode cX4_shell 31 = .ok (.bipush 8, 2) := by decide +kernel
theorem dX4_shell_33 : decode cX4_shell 33 = .ok (.if_icmp .ne 6, 3) := by decide +kernel
theorem dX4_shell_36 : decode cX4_shell 36 = .ok (.bipush (-104), 2) := by decide +kernel
theorem dX4_shell_38 : decode cX4_shell 38 = .ok (.ireturn, 1) := by decide +kernel
theorem dX4_shell_39 : decode cX4_shell 39 = .ok (.aload_n 0, 1) := by decide +kernel
theorem dX4_shell_40 : decode cX4_shell 40 = .ok (.getfield 34, 3) := by decide +kernel
theorem dX4_shell_43 : decode cX4_shell 43 = .ok (.iconst 4, 1) := by decide +kernel
theorem dX4_shell_44 : decode cX4_shell 44 = .ok (.aload_n 0, 1) := by decide +kernel
theorem dX4_shell_45 : decode cX4_shell 45 = .ok (.getfield 82, 3) := by decide +kernel
theorem dX4_shell_48 : decode cX4_shell 48 = .ok (.imul, 1) := by decide +kernel
theorem dX4_shell_49 : decode cX4_shell 49 = .ok (.iload_n 1, 1) := by decide +kernel
theorem dX4_shell_50 : decode cX4_shell 50 = .ok (.iastore, 1) := by decide +kernel
theorem dX4_shell_51 : decode cX4_shell 51 = .ok (.aload_n 0, 1) := by decide +kernel
theorem dX4_shell_52 : decode cX4_shell 52 = .ok (.getfield 34, 3) := by decide +kernel
theorem dX4_shell_55 : decode cX4_shell 55 = .ok (.iconst 4, 1) := by decide +kernel
theorem dX4_shell_56 : decode cX4_shell 56 = .ok (.aload_n 0, 1) := by decide +kernel
theorem dX4_shell_57 : decode cX4_shell 57 = .ok (.getfield 82, 3) := by decide +kernel
theorem dX4_shell_60 : decode cX4_shell 60 = .ok (.imul, 1) := by decide +kernel
theorem dX4_shell_61 : decode cX4_shell 61 = .ok (.iconst 1, 1) := by decide +kernel
theorem dX4_shell_62 : decode cX4_shell 62 = .ok (.iadd, 1) := by decide +kernel
theorem dX4_shell_63 : decode cX4_shell 63 = .ok (.iload_n 2, 1) := by decide +kernel
theorem dX4_shell_64 : decode cX4_shell 64 = .ok (.iastore, 1) := by decide +kernel
theorem dX4_shell_65 : decode cX4_shell 65 = .ok (.aload_n 0, 1) := by decide +kernel
theorem dX4_shell_66 : decode cX4_shell 66 = .ok (.getfield 34, 3) := by decide +kernel
theorem dX4_shell_69 : decode cX4_shell 69 = .ok (.iconst 4, 1) := by decide +kernel
theorem dX4_shell_70 : decode cX4_shell 70 = .ok (.aload_n 0, 1) := by decide +kernel
theorem dX4_shell_71 : decode cX4_shell 71 = .ok (.getfield 82, 3) := by decide +kernel
theorem dX4_shell_74 : decode cX4_shell 74 = .ok (.imul, 1) := by decide +kernel
theorem dX4_shell_75 : decode cX4_shell 75 = .ok (.iconst 2, 1) := by decide +kernel
theorem dX4_shell_76 : decode cX4_shell 76 = .ok (.iadd, 1) := by decide +kernel
theorem dX4_shell_77 : decode cX4_shell 77 = .ok (.iload_n 3, 1) := by decide +kernel
theorem dX4_shell_78 : decode cX4_shell 78 = .ok (.iastore, 1) := by decide +kernel
theorem dX4_shell_79 : decode cX4_shell 79 = .ok (.aload_n 0, 1) := by decide +kernel
theorem dX4_shell_80 : decode cX4_shell 80 = .ok (.getfield 34, 3) := by decide +kernel
theorem dX4_shell_83 : decode cX4_shell 83 = .ok (.iconst 4, 1) := by decide +kernel
theorem dX4_shell_84 : decode cX4_shell 84 = .ok (.aload_n 0, 1) := by decide +kernel
theorem dX4_shell_85 : decode cX4_shell 85 = .ok (.getfield 82, 3) := by decide +kernel
theorem dX4_shell_88 : decode cX4_shell 88 = .ok (.imul, 1) := by decide +kernel
theorem dX4_shell_89 : decode cX4_shell 89 = .ok (.iconst 3, 1) := by decide +kernel
theorem dX4_shell_90 : decode cX4_shell 90 = .ok (.iadd, 1) := by decide +kernel
theorem dX4_shell_91 : decode cX4_shell 91 = .ok (.iload 4, 2) := by decide +kernel
theorem dX4_shell_93 : decode cX4_shell 93 = .ok (.ifCond .eq 7, 3) := by decide +kernel
theorem dX4_shell_96 : decode cX4_shell 96 = .ok (.iconst 1, 1) := by decide +kernel
theorem dX4_shell_97 : decode cX4_shell 97 = .ok (.goto 4, 3) := by decide +kernel
theorem dX4_shell_100 : decode cX4_shell 100 = .ok (.iconst 0, 1) := by decide +kernel
theorem dX4_shell_101 : decode cX4_shell 101 = .ok (.iastore, 1) := by decide +kernel
theorem dX4_shell_102 : decode cX4_shell 102 = .ok (.aload_n 0, 1) := by decide +kernel
theorem dX4_shell_103 : decode cX4_shell 103 = .ok (.dup, 1) := by decide +kernel
theorem dX4_shell_104 : decode cX4_shell 104 = .ok (.getfield 82, 3) := by decide +kernel
theorem dX4_shell_107 : decode cX4_shell 107 = .ok (.iconst 1, 1) := by decide +kernel
theorem dX4_shell_108 : decode cX4_shell 108 = .ok (.iadd, 1) := by decide +kernel
theorem dX4_shell_109 : decode cX4_shell 109 = .ok (.putfield 82, 3) := by decide +kernel
theorem dX4_shell_112 : decode cX4_shell 112 = .ok (.aload_n 0, 1) := by decide +kernel
theorem dX4_shell_113 : decode cX4_shell 113 = .ok (.getfield 82, 3) := by decide +kernel
theorem dX4_shell_116 : decode cX4_shell 116 = .ok (.ireturn, 1) := by decide +kernel
theorem dX4_forget_0 : decode cX4_forget 0 = .ok (.aload_n 0, 1) := by decide +kernel
theorem dX4_forget_1 : decode cX4_forget 1 = .ok (.getfield 82, 3) := by decide +kernel
theorem dX4_forget_4 : decode cX4_forget 4 = .ok (.istore_n 1, 1) := by decide +kernel
theorem dX4_forget_5 : decode cX4_forget 5 = .ok (.aload_n 0, 1) := by decide +kernel
theorem dX4_forget_6 : decode cX4_forget 6 = .ok (.iconst 0, 1) := by decide +kernel
theorem dX4_forget_7 : decode cX4_forget 7 = .ok (.putfield 82, 3) := by decide +kernel
theorem dX4_forget_10 : decode cX4_forget 10 = .ok (.iload_n 1, 1) := by decide +kernel
theorem dX4_forget_11 : decode cX4_forget 11 = .ok (.ireturn, 1) := by decide +kernel
theorem dX4_isSo_0 : decode cX4_isSo 0 = .ok (.aload_n 0, 1) := by decide +kernel
theorem dX4_isSo_1 : decode cX4_isSo 1 = .ok (.invokevirtual 139, 3) := by decide +kernel
theorem dX4_isSo_4 : decode cX4_isSo 4 = .ok (.aload_n 0, 1) := by decide +kernel
theorem dX4_isSo_5 : decode cX4_isSo 5 = .ok (.getfield 22, 3) := by decide +kernel
theorem dX4_isSo_8 : decode cX4_isSo 8 = .ok (.iload_n 1, 1) := by decide +kernel
theorem dX4_isSo_9 : decode cX4_isSo 9 = .ok (.iload_n 2, 1) := by decide +kernel
theorem dX4_isSo_10 : decode cX4_isSo 10 = .ok (.iastore, 1) := by decide +kernel
theorem dX4_isSo_11 : decode cX4_isSo 11 = .ok (.aload_n 0, 1) := by decide +kernel
theorem dX4_isSo_12 : decode cX4_isSo 12 = .ok (.iload_n 3, 1) := by decide +kernel
theorem dX4_isSo_13 : decode cX4_isSo 13 = .ok (.putfield 110, 3) := by decide +kernel
theorem dX4_isSo_16 : decode cX4_isSo 16 = .ok (.iconst 1, 1) := by decide +kernel
theorem dX4_isSo_17 : decode cX4_isSo 17 = .ok (.istore 4, 2) := by decide +kernel
theorem dX4_isSo_19 : decode cX4_isSo 19 = .ok (.iconst 0, 1) := by decide +kernel
theorem dX4_isSo_20 : decode cX4_isSo 20 = .ok (.istore 5, 2) := by decide +kernel
theorem dX4_isSo_22 : decode cX4_isSo 22 = .ok (.iload 5, 2) := by decide +kernel
theorem dX4_isSo_24 : decode cX4_isSo 24 = .ok (.bipush 21, 2) := by decide +kernel
theorem dX4_isSo_26 : decode cX4_isSo 26 = .ok (.if_icmp .ge 121, 3) := by decide +kernel
theorem dX4_isSo_29 : decode cX4_isSo 29 = .ok (.iconst 0, 1) := by decide +kernel
theorem dX4_isSo_30 : decode cX4_isSo 30 = .ok (.istore 6, 2) := by decide +kernel
theorem dX4_isSo_32 : decode cX4_isSo 32 = .ok (.iload 6, 2) := by decide +kernel
theorem dX4_isSo_34 : decode cX4_isSo 34 = .ok (.aload_n 0, 1) := by decide +kernel
theorem dX4_isSo_35 : decode cX4_isSo 35 = .ok (.getfield 82, 3) := by decide +kernel
theorem dX4_isSo_38 : decode cX4_isSo 38 = .ok (.if_icmp .ge 97, 3) := by decide +kernel
theorem dX4_isSo_41 : decode cX4_isSo 41 = .ok (.aload_n 0, 1) := by decide +kernel
theorem dX4_isSo_42 : decode cX4_isSo 42 = .ok (.getfield 34, 3) := by decide +kernel
theorem dX4_isSo_45 : decode cX4_isSo 45 = .ok (.iconst 4, 1) := by decide +kernel
theorem dX4_isSo_46 : decode cX4_isSo 46 = .ok (.iload 6, 2) := by decide +kernel
theorem dX4_isSo_48 : decode cX4_isSo 48 = .ok (.imul, 1) := by decide +kernel
theorem dX4_isSo_49 : decode cX4_isSo 49 = .ok (.iconst 2, 1) := by decide +kernel
theorem dX4_isSo_50 : decode cX4_isSo 50 = .ok (.iadd, 1) := by decide +kernel
theorem dX4_isSo_51 : decode cX4_isSo 51 = .ok (.iaload, 1) := by decide +kernel
theorem dX4_isSo_52 : decode cX4_isSo 52 = .ok (.iload 5, 2) := by decide +kernel
theorem dX4_isSo_54 : decode cX4_isSo 54 = .ok (.if_icmp .ne 75, 3) := by decide +kernel
theorem dX4_isSo_57 : decode cX4_isSo 57 = .ok (.aload_n 0, 1) := by decide +kernel
theorem dX4_isSo_58 : decode cX4_isSo 58 = .ok (.getfield 22, 3) := by decide +kernel
theorem dX4_isSo_61 : decode cX4_isSo 61 = .ok (.aload_n 0, 1) := by decide +kernel
theorem dX4_isSo_62 : decode cX4_isSo 62 = .ok (.getfield 34, 3) := by decide +kernel
theorem dX4_isSo_65 : decode cX4_isSo 65 = .ok (.iconst 4, 1) := by decide +kernel
theorem dX4_isSo_66 : decode cX4_isSo 66 = .ok (.iload 6, 2) := by decide +kernel
theorem dX4_isSo_68 : decode cX4_isSo 68 = .ok (.imul, 1) := by decide +kernel
theorem dX4_isSo_69 : decode cX4_isSo 69 = .ok (.iaload, 1) := by decide +kernel
theorem dX4_isSo_70 : decode cX4_isSo 70 = .ok (.iaload, 1) := by decide +kernel
theorem dX4_isSo_71 : decode cX4_isSo 71 = .ok (.aload_n 0, 1) := by decide +kernel
theorem dX4_isSo_72 : decode cX4_isSo 72 = .ok (.getfield 22, 3) := by decide +kernel
theorem dX4_isSo_75 : decode cX4_isSo 75 = .ok (.aload_n 0, 1) := by decide +kernel
theorem dX4_isSo_76 : decode cX4_isSo 76 = .ok (.getfield 34, 3) := by decide +kernel
theorem dX4_isSo_79 : decode cX4_isSo 79 = .ok (.iconst 4, 1) := by decide +kernel
theorem dX4_isSo_80 : decode cX4_isSo 80 = .ok (.iload 6, 2) := by decide +kernel
theorem dX4_isSo_82 : decode cX4_isSo 82 = .ok (.imul, 1) := by decide +kernel
theorem dX4_isSo_83 : decode cX4_isSo 83 = .ok (.iconst 1, 1) := by decide +kernel
theorem dX4_isSo_84 : decode cX4_isSo 84 = .ok (.iadd, 1) := by decide +kernel
theorem dX4_isSo_85 : decode cX4_isSo 85 = .ok (.iaload, 1) := by decide +kernel
theorem dX4_isSo_86 : decode cX4_isSo 86 = .ok (.iaload, 1) := by decide +kernel
theorem dX4_isSo_87 : decode cX4_isSo 87 = .ok (.invokestatic 132, 3) := by decide +kernel
theorem dX4_isSo_90 : decode cX4_isSo 90 = .ok (.istore 7, 2) := by decide +kernel
theorem dX4_isSo_92 : decode cX4_isSo 92 = .ok (.iload 4, 2) := by decide +kernel
theorem dX4_isSo_94 : decode cX4_isSo 94 = .ok (.ifCond .eq 32, 3) := by decide +kernel
theorem dX4_isSo_97 : decode cX4_isSo 97 = .ok (.iload 7, 2) := by decide +kernel
theorem dX4_isSo_99 : decode cX4_isSo 99 = .ok (.aload_n 0, 1) := by decide +kernel
theorem dX4_isSo_100 : decode cX4_isSo 100 = .ok (.getfield 34, 3) := by decide +kernel
theorem dX4_isSo_103 : decode cX4_isSo 103 = .ok (.iconst 4, 1) := by decide +kernel
theorem dX4_isSo_104 : decode cX4_isSo 104 = .ok (.iload 6, 2) := by decide +kernel
theorem dX4_isSo_106 : decode cX4_isSo 106 = .ok (.imul, 1) := by decide +kernel
theorem dX4_isSo_107 : decode cX4_isSo 107 = .ok (.iconst 3, 1) := by decide +kernel
theorem dX4_isSo_108 : decode cX4_isSo 108 = .ok (.iadd, 1) := by decide +kernel
theorem dX4_isSo_109 : decode cX4_isSo 109 = .ok (.iaload, 1) := by decide +kernel
theorem dX4_isSo_110 : decode cX4_isSo 110 = .ok (.iconst 1, 1) := by decide +kernel
theorem dX4_isSo_111 : decode cX4_isSo 111 = .ok (.if_icmp .ne 7, 3) := by decide +kernel
theorem dX4_isSo_114 : decode cX4_isSo 114 = .ok (.iconst 1, 1) := by decide +kernel
theorem dX4_isSo_115 : decode cX4_isSo 115 = .ok (.goto 4, 3) := by decide +kernel
theorem dX4_isSo_118 : decode cX4_isSo 118 = .ok (.iconst 0, 1) := by decide +kernel
theorem dX4_isSo_119 : decode cX4_isSo 119 = .ok (.if_icmp .ne 7, 3) := by decide +kernel
theorem dX4_isSo_122 : decode cX4_isSo 122 = .ok (.iconst 1, 1) := by decide +kernel
theorem dX4_isSo_123 : decode cX4_isSo 123 = .ok (.goto 4, 3) := by decide +kernel
theorem dX4_isSo_126 : decode cX4_isSo 126 = .ok (.iconst 0, 1) := by decide +kernel
theorem dX4_isSo_127 : decode cX4_isSo 127 = .ok (.istore 4, 2) := by decide +kernel
theorem dX4_isSo_129 : decode cX4_isSo 129 = .ok (.iinc 6 1, 3) := by decide +kernel
theorem dX4_isSo_132 : decode cX4_isSo 132 = .ok (.goto (-100), 3) := by decide +kernel
theorem dX4_isSo_135 : decode cX4_isSo 135 = .ok (.aload_n 0, 1) := by decide +kernel
theorem dX4_isSo_136 : decode cX4_isSo 136 = .ok (.invokevirtual 154, 3) := by decide +kernel
theorem dX4_isSo_139 : decode cX4_isSo 139 = .ok (.istore 6, 2) := by decide +kernel
theorem dX4_isSo_141 : decode cX4_isSo 141 = .ok (.iinc 5 1, 3) := by decide +kernel
theorem dX4_isSo_144 : decode cX4_isSo 144 = .ok (.goto (-122), 3) := by decide +kernel
theorem dX4_isSo_147 : decode cX4_isSo 147 = .ok (.iload 4, 2) := by decide +kernel
theorem dX4_isSo_149 : decode cX4_isSo 149 = .ok (.ireturn, 1) := by decide +kernel
theorem dX4_guessOf_0 : decode cX4_guessOf 0 = .ok (.iconst 0, 1) := by decide +kernel
theorem dX4_guessOf_1 : decode cX4_guessOf 1 = .ok (.istore_n 3, 1) := by decide +kernel
theorem dX4_guessOf_2 : decode cX4_guessOf 2 = .ok (.iconst (-1), 1) := by decide +kernel
theorem dX4_guessOf_3 : decode cX4_guessOf 3 = .ok (.istore 4, 2) := by decide +kernel
theorem dX4_guessOf_5 : decode cX4_guessOf 5 = .ok (.bipush 35, 2) := by decide +kernel
theorem dX4_guessOf_7 : decode cX4_guessOf 7 = .ok (.istore 5, 2) := by decide +kernel
theorem dX4_guessOf_9 : decode cX4_guessOf 9 = .ok (.iload 5, 2) := by decide +kernel
theorem dX4_guessOf_11 : decode cX4_guessOf 11 = .ok (.ifCond .lt 56, 3) := by decide +kernel
theorem dX4_guessOf_14 : decode cX4_guessOf 14 = .ok (.aload_n 0, 1) := by decide +kernel
theorem dX4_guessOf_15 : decode cX4_guessOf 15 = .ok (.iload 5, 2) := by decide +kernel
theorem dX4_guessOf_17 : decode cX4_guessOf 17 = .ok (.iconst 3, 1) := by decide +kernel
theorem dX4_guessOf_18 : decode cX4_guessOf 18 = .ok (.idiv, 1) := by decide +kernel
theorem dX4_guessOf_19 : decode cX4_guessOf 19 = .ok (.invokevirtual 97, 3) := by decide +kernel
theorem dX4_guessOf_22 : decode cX4_guessOf 22 = .ok (.istore 6, 2) := by decide +kernel
theorem dX4_guessOf_24 : decode cX4_guessOf 24 = .ok (.iload 6, 2) := by decide +kernel
theorem dX4_guessOf_26 : decode cX4_guessOf 26 = .ok (.iconst (-1), 1) := by decide +kernel
theorem dX4_guessOf_27 : decode cX4_guessOf 27 = .ok (.if_icmp .eq 9, 3) := by decide +kernel
theorem dX4_guessOf_30 : decode cX4_guessOf 30 = .ok (.iload 6, 2) := by decide +kernel
theorem dX4_guessOf_32 : decode cX4_guessOf 32 = .ok (.iload_n 1, 1) := by decide +kernel
theorem dX4_guessOf_33 : decode cX4_guessOf 33 = .ok (.if_icmp .ne 28, 3) := by decide +kernel
theorem dX4_guessOf_36 : decode cX4_guessOf 36 = .ok (.aload_n 0, 1) := by decide +kernel
theorem dX4_guessOf_37 : decode cX4_guessOf 37 = .ok (.iload_n 1, 1) := by decide +kernel
theorem dX4_guessOf_38 : decode cX4_guessOf 38 = .ok (.iload 5, 2) := by decide +kernel
theorem dX4_guessOf_40 : decode cX4_guessOf 40 = .ok (.iconst 3, 1) := by decide +kernel
theorem dX4_guessOf_41 : decode cX4_guessOf 41 = .ok (.idiv, 1) := by decide +kernel
theorem dX4_guessOf_42 : decode cX4_guessOf 42 = .ok (.iload 5, 2) := by decide +kernel
theorem dX4_guessOf_44 : decode cX4_guessOf 44 = .ok (.iconst 3, 1) := by decide +kernel
theorem dX4_guessOf_45 : decode cX4_guessOf 45 = .ok (.irem, 1) := by decide +kernel
theorem dX4_guessOf_46 : decode cX4_guessOf 46 = .ok (.iconst 1, 1) := by decide +kernel
theorem dX4_guessOf_47 : decode cX4_guessOf 47 = .ok (.isub, 1) := by decide +kernel
theorem dX4_guessOf_48 : decode cX4_guessOf 48 = .ok (.invokevirtual 205, 3) := by decide +kernel
theorem dX4_guessOf_51 : decode cX4_guessOf 51 = .ok (.ifCond .eq 10, 3) := by decide +kernel
theorem dX4_guessOf_54 : decode cX4_guessOf 54 = .ok (.iinc 3 1, 3) := by decide +kernel
theorem dX4_guessOf_57 : decode cX4_guessOf 57 = .ok (.iload 5, 2) := by decide +kernel
theorem dX4_guessOf_59 : decode cX4_guessOf 59 = .ok (.istore 4, 2) := by decide +kernel
theorem dX4_guessOf_61 : decode cX4_guessOf 61 = .ok (.iinc 5 (-1), 3) := by decide +kernel
theorem dX4_guessOf_64 : decode cX4_guessOf 64 = .ok (.goto (-55), 3) := by decide +kernel
theorem dX4_guessOf_67 : decode cX4_guessOf 67 = .ok (.iload_n 2, 1) := by decide +kernel
theorem dX4_guessOf_68 : decode cX4_guessOf 68 = .ok (.ifCond .ne 7, 3) := by decide +kernel
theorem dX4_guessOf_71 : decode cX4_guessOf 71 = .ok (.iload_n 3, 1) := by decide +kernel
theorem dX4_guessOf_72 : decode cX4_guessOf 72 = .ok (.goto 5, 3) := by decide +kernel
theorem dX4_guessOf_75 : decode cX4_guessOf 75 = .ok (.iload 4, 2) := by decide +kernel
theorem dX4_guessOf_77 : decode cX4_guessOf 77 = .ok (.ireturn, 1) := by decide +kernel
theorem dX4_guess_0 : decode cX4_guess 0 = .ok (.aload_n 0, 1) := by decide +kernel
theorem dX4_guess_1 : decode cX4_guess 1 = .ok (.iload_n 1, 1) := by decide +kernel
theorem dX4_guess_2 : decode cX4_guess 2 = .ok (.invokevirtual 91, 3) := by decide +kernel
theorem dX4_guess_5 : decode cX4_guess 5 = .ok (.ifCond .ne 6, 3) := by decide +kernel
theorem dX4_guess_8 : decode cX4_guess 8 = .ok (.bipush (-101), 2) := by decide +kernel
theorem dX4_guess_10 : decode cX4_guess 10 = .ok (.ireturn, 1) := by decide +kernel
theorem dX4_guess_11 : decode cX4_guess 11 = .ok (.iload_n 2, 1) := by decide +kernel
theorem dX4_guess_12 : decode cX4_guess 12 = .ok (.i2l, 1) := by decide +kernel
theorem dX4_guess_13 : decode cX4_guess 13 = .ok (.lconst 0, 1) := by decide +kernel
theorem dX4_guess_14 : decode cX4_guess 14 = .ok (.lconst 1, 1) := by decide +kernel
theorem dX4_guess_15 : decode cX4_guess 15 = .ok (.invokestatic 52, 3) := by decide +kernel
theorem dX4_guess_18 : decode cX4_guess 18 = .ok (.ifCond .eq 12, 3) := by decide +kernel
theorem dX4_guess_21 : decode cX4_guess 21 = .ok (.aload_n 0, 1) := by decide +kernel
theorem dX4_guess_22 : decode cX4_guess 22 = .ok (.iload_n 1, 1) := by decide +kernel
theorem dX4_guess_23 : decode cX4_guess 23 = .ok (.iload_n 2, 1) := by decide +kernel
theorem dX4_guess_24 : decode cX4_guess 24 = .ok (.invokevirtual 209, 3) := by decide +kernel
theorem dX4_guess_27 : decode cX4_guess 27 = .ok (.goto 5, 3) := by decide +kernel
theorem dX4_guess_30 : decode cX4_guess 30 = .ok (.bipush (-102), 2) := by decide +kernel
theorem dX4_guess_32 : decode cX4_guess 32 = .ok (.ireturn, 1) := by decide +kernel
theorem dX4_draw_0 : decode cX4_draw 0 = .ok (.aload_n 0, 1) := by decide +kernel
theorem dX4_draw_1 : decode cX4_draw 1 = .ok (.ldc2_w 212, 3) := by decide +kernel
theorem dX4_draw_4 : decode cX4_draw 4 = .ok (.aload_n 0, 1) := by decide +kernel
theorem dX4_draw_5 : decode cX4_draw 5 = .ok (.getfield 214, 3) := by decide +kernel
theorem dX4_draw_8 : decode cX4_draw 8 = .ok (.i2l, 1) := by decide +kernel
theorem dX4_draw_9 : decode cX4_draw 9 = .ok (.lmul, 1) := by decide +kernel
theorem dX4_draw_10 : decode cX4_draw 10 = .ok (.ldc2_w 217, 3) := by decide +kernel
theorem dX4_draw_13 : decode cX4_draw 13 = .ok (.ladd, 1) := by decide +kernel
theorem dX4_draw_14 : decode cX4_draw 14 = .ok (.ldc2_w 219, 3) := by decide +kernel
theorem dX4_draw_17 : decode cX4_draw 17 = .ok (.land, 1) := by decide +kernel
theorem dX4_draw_18 : decode cX4_draw 18 = .ok (.l2i, 1) := by decide +kernel
theorem dX4_draw_19 : decode cX4_draw 19 = .ok (.putfield 214, 3) := by decide +kernel
theorem dX4_draw_22 : decode cX4_draw 22 = .ok (.aload_n 0, 1) := by decide +kernel
theorem dX4_draw_23 : decode cX4_draw 23 = .ok (.getfield 214, 3) := by decide +kernel
theorem dX4_draw_26 : decode cX4_draw 26 = .ok (.ldc 221, 2) := by decide +kernel
theorem dX4_draw_28 : decode cX4_draw 28 = .ok (.idiv, 1) := by decide +kernel
theorem dX4_draw_29 : decode cX4_draw 29 = .ok (.iload_n 1, 1) := by decide +kernel
theorem dX4_draw_30 : decode cX4_draw 30 = .ok (.irem, 1) := by decide +kernel
theorem dX4_draw_31 : decode cX4_draw 31 = .ok (.ireturn, 1) := by decide +kernel
theorem dX4_seasons_0 : decode cX4_seasons 0 = .ok (.iload_n 1, 1) := by decide +kernel
theorem dX4_seasons_1 : decode cX4_seasons 1 = .ok (.i2l, 1) := by decide +kernel
theorem dX4_seasons_2 : decode cX4_seasons 2 = .ok (.lconst 1, 1) := by decide +kernel
theorem dX4_seasons_3 : decode cX4_seasons 3 = .ok (.ldc2_w 222, 3) := by decide +kernel
theorem dX4_seasons_6 : decode cX4_seasons 6 = .ok (.invokestatic 52, 3) := by decide +kernel
theorem dX4_seasons_9 : decode cX4_seasons 9 = .ok (.ifCond .eq 19, 3) := by decide +kernel
theorem dX4_seasons_12 : decode cX4_seasons 12 = .ok (.iload_n 2, 1) := by decide +kernel
theorem dX4_seasons_13 : decode cX4_seasons 13 = .ok (.ifCond .lt 15, 3) := by decide +kernel
theorem dX4_seasons_16 : decode cX4_seasons 16 = .ok (.iload_n 3, 1) := by decide +kernel
theorem dX4_seasons_17 : decode cX4_seasons 17 = .ok (.i2l, 1) := by decide +kernel
theorem dX4_seasons_18 : decode cX4_seasons 18 = .ok (.lconst 0, 1) := by decide +kernel
theorem dX4_seasons_19 : decode cX4_seasons 19 = .ok (.ldc2_w 224, 3) := by decide +kernel
theorem dX4_seasons_22 : decode cX4_seasons 22 = .ok (.invokestatic 52, 3) := by decide +kernel
theorem dX4_seasons_25 : decode cX4_seasons 25 = .ok (.ifCond .ne 6, 3) := by decide +kernel
theorem dX4_seasons_28 : decode cX4_seasons 28 = .ok (.bipush (-102), 2) := by decide +kernel
theorem dX4_seasons_30 : decode cX4_seasons 30 = .ok (.ireturn, 1) := by decide +kernel
theorem dX4_seasons_31 : decode cX4_seasons 31 = .ok (.aload_n 0, 1) := by decide +kernel
theorem dX4_seasons_32 : decode cX4_seasons 32 = .ok (.getfield 63, 3) := by decide +kernel
theorem dX4_seasons_35 : decode cX4_seasons 35 = .ok (.ifCond .ne 6, 3) := by decide +kernel
theorem dX4_seasons_38 : decode cX4_seasons 38 = .ok (.bipush (-103), 2) := by decide +kernel
theorem dX4_seasons_40 : decode cX4_seasons 40 = .ok (.ireturn, 1) := by decide +kernel
theorem dX4_seasons_41 : decode cX4_seasons 41 = .ok (.aload_n 0, 1) := by decide +kernel
theorem dX4_seasons_42 : decode cX4_seasons 42 = .ok (.invokevirtual 139, 3) := by decide +kernel
theorem dX4_seasons_45 : decode cX4_seasons 45 = .ok (.aload_n 0, 1) := by decide +kernel
theorem dX4_seasons_46 : decode cX4_seasons 46 = .ok (.iload_n 2, 1) := by decide +kernel
theorem dX4_seasons_47 : decode cX4_seasons 47 = .ok (.putfield 214, 3) := by decide +kernel
theorem dX4_seasons_50 : decode cX4_seasons 50 = .ok (.iconst 0, 1) := by decide +kernel
theorem dX4_seasons_51 : decode cX4_seasons 51 = .ok (.istore 4, 2) := by decide +kernel
theorem dX4_seasons_53 : decode cX4_seasons 53 = .ok (.iconst 0, 1) := by decide +kernel
theorem dX4_seasons_54 : decode cX4_seasons 54 = .ok (.istore 5, 2) := by decide +kernel
theorem dX4_seasons_56 : decode cX4_seasons 56 = .ok (.iload 5, 2) := by decide +kernel
theorem dX4_seasons_58 : decode cX4_seasons 58 = .ok (.iload_n 1, 1) := by decide +kernel
theorem dX4_seasons_59 : decode cX4_seasons 59 = .ok (.if_icmp .ge 29, 3) := by decide +kernel
theorem dX4_seasons_62 : decode cX4_seasons 62 = .ok (.aload_n 0, 1) := by decide +kernel
theorem dX4_seasons_63 : decode cX4_seasons 63 = .ok (.aload_n 0, 1) := by decide +kernel
theorem dX4_seasons_64 : decode cX4_seasons 64 = .ok (.iconst 3, 1) := by decide +kernel
theorem dX4_seasons_65 : decode cX4_seasons 65 = .ok (.invokevirtual 226, 3) := by decide +kernel
theorem dX4_seasons_68 : decode cX4_seasons 68 = .ok (.iconst 1, 1) := by decide +kernel
theorem dX4_seasons_69 : decode cX4_seasons 69 = .ok (.isub, 1) := by decide +kernel
theorem dX4_seasons_70 : decode cX4_seasons 70 = .ok (.putfield 110, 3) := by decide +kernel
theorem dX4_seasons_73 : decode cX4_seasons 73 = .ok (.iload 4, 2) := by decide +kernel
theorem dX4_seasons_75 : decode cX4_seasons 75 = .ok (.aload_n 0, 1) := by decide +kernel
theorem dX4_seasons_76 : decode cX4_seasons 76 = .ok (.invokevirtual 154, 3) := by decide +kernel
theorem dX4_seasons_79 : decode cX4_seasons 79 = .ok (.iadd, 1) := by decide +kernel
theorem dX4_seasons_80 : decode cX4_seasons 80 = .ok (.istore 4, 2) := by decide +kernel
theorem dX4_seasons_82 : decode cX4_seasons 82 = .ok (.iinc 5 1, 3) := by decide +kernel
theorem dX4_seasons_85 : decode cX4_seasons 85 = .ok (.goto (-29), 3) := by decide +kernel
theorem dX4_seasons_88 : decode cX4_seasons 88 = .ok (.iconst 0, 1) := by decide +kernel
theorem dX4_seasons_89 : decode cX4_seasons 89 = .ok (.istore 5, 2) := by decide +kernel
theorem dX4_seasons_91 : decode cX4_seasons 91 = .ok (.iconst 0, 1) := by decide +kernel
theorem dX4_seasons_92 : decode cX4_seasons 92 = .ok (.istore 6, 2) := by decide +kernel
theorem dX4_seasons_94 : decode cX4_seasons 94 = .ok (.iload 6, 2) := by decide +kernel
theorem dX4_seasons_96 : decode cX4_seasons 96 = .ok (.aload_n 0, 1) := by decide +kernel
theorem dX4_seasons_97 : decode cX4_seasons 97 = .ok (.getfield 76, 3) := by decide +kernel
theorem dX4_seasons_100 : decode cX4_seasons 100 = .ok (.if_icmp .ge 60, 3) := by decide +kernel
theorem dX4_seasons_103 : decode cX4_seasons 103 = .ok (.iload 6, 2) := by decide +kernel
theorem dX4_seasons_105 : decode cX4_seasons 105 = .ok (.iconst 1, 1) := by decide +kernel
theorem dX4_seasons_106 : decode cX4_seasons 106 = .ok (.iadd, 1) := by decide +kernel
theorem dX4_seasons_107 : decode cX4_seasons 107 = .ok (.istore 7, 2) := by decide +kernel
theorem dX4_seasons_109 : decode cX4_seasons 109 = .ok (.iload 7, 2) := by decide +kernel
theorem dX4_seasons_111 : decode cX4_seasons 111 = .ok (.aload_n 0, 1) := by decide +kernel
theorem dX4_seasons_112 : decode cX4_seasons 112 = .ok (.getfield 76, 3) := by decide +kernel
theorem dX4_seasons_115 : decode cX4_seasons 115 = .ok (.if_icmp .ge 39, 3) := by decide +kernel
theorem dX4_seasons_118 : decode cX4_seasons 118 = .ok (.iload 5, 2) := by decide +kernel
theorem dX4_seasons_120 : decode cX4_seasons 120 = .ok (.aload_n 0, 1) := by decide +kernel
theorem dX4_seasons_121 : decode cX4_seasons 121 = .ok (.getfield 22, 3) := by decide +kernel
theorem dX4_seasons_124 : decode cX4_seasons 124 = .ok (.iload 6, 2) := by decide +kernel
theorem dX4_seasons_126 : decode cX4_seasons 126 = .ok (.iaload, 1) := by decide +kernel
theorem dX4_seasons_127 : decode cX4_seasons 127 = .ok (.aload_n 0, 1) := by decide +kernel
theorem dX4_seasons_128 : decode cX4_seasons 128 = .ok (.getfield 22, 3) := by decide +kernel
theorem dX4_seasons_131 : decode cX4_seasons 131 = .ok (.iload 7, 2) := by decide +kernel
theorem dX4_seasons_133 : decode cX4_seasons 133 = .ok (.iaload, 1) := by decide +kernel
theorem dX4_seasons_134 : decode cX4_seasons 134 = .ok (.invokestatic 132, 3) := by decide +kernel
theorem dX4_seasons_137 : decode cX4_seasons 137 = .ok (.ifCond .eq 7, 3) := by decide +kernel
theorem dX4_seasons_140 : decode cX4_seasons 140 = .ok (.iconst 1, 1) := by decide +kernel
theorem dX4_seasons_141 : decode cX4_seasons 141 = .ok (.goto 4, 3) := by decide +kernel
theorem dX4_seasons_144 : decode cX4_seasons 144 = .ok (.iconst 0, 1) := by decide +kernel
theorem dX4_seasons_145 : decode cX4_seasons 145 = .ok (.iadd, 1) := by decide +kernel
theorem dX4_seasons_146 : decode cX4_seasons 146 = .ok (.istore 5, 2) := by decide +kernel
theorem dX4_seasons_148 : decode cX4_seasons 148 = .ok (.iinc 7 1, 3) := by decide +kernel
theorem dX4_seasons_151 : decode cX4_seasons 151 = .ok (.goto (-42), 3) := by decide +kernel
theorem dX4_seasons_154 : decode cX4_seasons 154 = .ok (.iinc 6 1, 3) := by decide +kernel
theorem dX4_seasons_157 : decode cX4_seasons 157 = .ok (.goto (-63), 3) := by decide +kernel
theorem dX4_seasons_160 : decode cX4_seasons 160 = .ok (.iload_n 3, 1) := by decide +kernel
theorem dX4_seasons_161 : decode cX4_seasons 161 = .ok (.ifCond .ne 8, 3) := by decide +kernel
theorem dX4_seasons_164 : decode cX4_seasons 164 = .ok (.iload 4, 2) := by decide +kernel
theorem dX4_seasons_166 : decode cX4_seasons 166 = .ok (.goto 17, 3) := by decide +kernel
theorem dX4_seasons_169 : decode cX4_seasons 169 = .ok (.iload_n 3, 1) := by decide +kernel
theorem dX4_seasons_170 : decode cX4_seasons 170 = .ok (.iconst 1, 1) := by decide +kernel
theorem dX4_seasons_171 : decode cX4_seasons 171 = .ok (.if_icmp .ne 8, 3) := by decide +kernel
theorem dX4_seasons_174 : decode cX4_seasons 174 = .ok (.iload 5, 2) := by decide +kernel
theorem dX4_seasons_176 : decode cX4_seasons 176 = .ok (.goto 7, 3) := by decide +kernel
theorem dX4_seasons_179 : decode cX4_seasons 179 = .ok (.aload_n 0, 1) := by decide +kernel
theorem dX4_seasons_180 : decode cX4_seasons 180 = .ok (.getfield 214, 3) := by decide +kernel
theorem dX4_seasons_183 : decode cX4_seasons 183 = .ok (.ireturn, 1) := by decide +kernel
theorem dX4_copy_0 : decode cX4_copy 0 = .ok (.iconst 0, 1) := by decide +kernel
theorem dX4_copy_1 : decode cX4_copy 1 = .ok (.istore_n 2, 1) := by decide +kernel
theorem dX4_copy_2 : decode cX4_copy 2 = .ok (.iload_n 2, 1) := by decide +kernel
theorem dX4_copy_3 : decode cX4_copy 3 = .ok (.aload_n 0, 1) := by decide +kernel
theorem dX4_copy_4 : decode cX4_copy 4 = .ok (.arraylength, 1) := by decide +kernel
theorem dX4_copy_5 : decode cX4_copy 5 = .ok (.if_icmp .ge 15, 3) := by decide +kernel
theorem dX4_copy_8 : decode cX4_copy 8 = .ok (.aload_n 1, 1) := by decide +kernel
theorem dX4_copy_9 : decode cX4_copy 9 = .ok (.iload_n 2, 1) := by decide +kernel
theorem dX4_copy_10 : decode cX4_copy 10 = .ok (.aload_n 0, 1) := by decide +kernel
theorem dX4_copy_11 : decode cX4_copy 11 = .ok (.iload_n 2, 1) := by decide +kernel
theorem dX4_copy_12 : decode cX4_copy 12 = .ok (.iaload, 1) := by decide +kernel
theorem dX4_copy_13 : decode cX4_copy 13 = .ok (.iastore, 1) := by decide +kernel
theorem dX4_copy_14 : decode cX4_copy 14 = .ok (.iinc 2 1, 3) := by decide +kernel
theorem dX4_copy_17 : decode cX4_copy 17 = .ok (.goto (-15), 3) := by decide +kernel
theorem dX4_copy_20 : decode cX4_copy 20 = .ok (.return_, 1) := by decide +kernel
theorem dX4_image_0 : decode cX4_image 0 = .ok (.aload_n 0, 1) := by decide +kernel
theorem dX4_image_1 : decode cX4_image 1 = .ok (.getfield 63, 3) := by decide +kernel
theorem dX4_image_4 : decode cX4_image 4 = .ok (.ifCond .ne 6, 3) := by decide +kernel
theorem dX4_image_7 : decode cX4_image 7 = .ok (.bipush (-103), 2) := by decide +kernel
theorem dX4_image_9 : decode cX4_image 9 = .ok (.ireturn, 1) := by decide +kernel
theorem dX4_image_10 : decode cX4_image 10 = .ok (.aload_n 0, 1) := by decide +kernel
theorem dX4_image_11 : decode cX4_image 11 = .ok (.getfield 16, 3) := by decide +kernel
theorem dX4_image_14 : decode cX4_image 14 = .ok (.aload_n 0, 1) := by decide +kernel
theorem dX4_image_15 : decode cX4_image 15 = .ok (.getfield 37, 3) := by decide +kernel
theorem dX4_image_18 : decode cX4_image 18 = .ok (.invokestatic 189, 3) := by decide +kernel
theorem dX4_image_21 : decode cX4_image 21 = .ok (.aload_n 0, 1) := by decide +kernel
theorem dX4_image_22 : decode cX4_image 22 = .ok (.getfield 19, 3) := by decide +kernel
theorem dX4_image_25 : decode cX4_image 25 = .ok (.aload_n 0, 1) := by decide +kernel
theorem dX4_image_26 : decode cX4_image 26 = .ok (.getfield 40, 3) := by decide +kernel
theorem dX4_image_29 : decode cX4_image 29 = .ok (.invokestatic 189, 3) := by decide +kernel
theorem dX4_image_32 : decode cX4_image 32 = .ok (.aload_n 0, 1) := by decide +kernel
theorem dX4_image_33 : decode cX4_image 33 = .ok (.getfield 34, 3) := by decide +kernel
theorem dX4_image_36 : decode cX4_image 36 = .ok (.aload_n 0, 1) := by decide +kernel
theorem dX4_image_37 : decode cX4_image 37 = .ok (.getfield 43, 3) := by decide +kernel
theorem dX4_image_40 : decode cX4_image 40 = .ok (.invokestatic 189, 3) := by decide +kernel
theorem dX4_image_43 : decode cX4_image 43 = .ok (.aload_n 0, 1) := by decide +kernel
theorem dX4_image_44 : decode cX4_image 44 = .ok (.aload_n 0, 1) := by decide +kernel
theorem dX4_image_45 : decode cX4_image 45 = .ok (.getfield 76, 3) := by decide +kernel
theorem dX4_image_48 : decode cX4_image 48 = .ok (.putfield 229, 3) := by decide +kernel
theorem dX4_image_51 : decode cX4_image 51 = .ok (.aload_n 0, 1) := by decide +kernel
theorem dX4_image_52 : decode cX4_image 52 = .ok (.aload_n 0, 1) := by decide +kernel
theorem dX4_image_53 : decode cX4_image 53 = .ok (.getfield 79, 3) := by decide +kernel
theorem dX4_image_56 : decode cX4_image 56 = .ok (.putfield 232, 3) := by decide +kernel
theorem dX4_image_59 : decode cX4_image 59 = .ok (.aload_n 0, 1) := by decide +kernel
theorem dX4_image_60 : decode cX4_image 60 = .ok (.aload_n 0, 1) := by decide +kernel
theorem dX4_image_61 : decode cX4_image 61 = .ok (.getfield 67, 3) := by decide +kernel
theorem dX4_image_64 : decode cX4_image 64 = .ok (.putfield 235, 3) := by decide +kernel
theorem dX4_image_67 : decode cX4_image 67 = .ok (.aload_n 0, 1) := by decide +kernel
theorem dX4_image_68 : decode cX4_image 68 = .ok (.aload_n 0, 1) := by decide +kernel
theorem dX4_image_69 : decode cX4_image 69 = .ok (.getfield 70, 3) := by decide +kernel
theorem dX4_image_72 : decode cX4_image 72 = .ok (.putfield 238, 3) := by decide +kernel
theorem dX4_image_75 : decode cX4_image 75 = .ok (.aload_n 0, 1) := by decide +kernel
theorem dX4_image_76 : decode cX4_image 76 = .ok (.aload_n 0, 1) := by decide +kernel
theorem dX4_image_77 : decode cX4_image 77 = .ok (.getfield 73, 3) := by decide +kernel
theorem dX4_image_80 : decode cX4_image 80 = .ok (.putfield 241, 3) := by decide +kernel
theorem dX4_image_83 : decode cX4_image 83 = .ok (.aload_n 0, 1) := by decide +kernel
theorem dX4_image_84 : decode cX4_image 84 = .ok (.aload_n 0, 1) := by decide +kernel
theorem dX4_image_85 : decode cX4_image 85 = .ok (.getfield 82, 3) := by decide +kernel
theorem dX4_image_88 : decode cX4_image 88 = .ok (.putfield 244, 3) := by decide +kernel
theorem dX4_image_91 : decode cX4_image 91 = .ok (.aload_n 0, 1) := by decide +kernel
theorem dX4_image_92 : decode cX4_image 92 = .ok (.aload_n 0, 1) := by decide +kernel
theorem dX4_image_93 : decode cX4_image 93 = .ok (.getfield 85, 3) := by decide +kernel
theorem dX4_image_96 : decode cX4_image 96 = .ok (.putfield 46, 3) := by decide +kernel
theorem dX4_image_99 : decode cX4_image 99 = .ok (.aload_n 0, 1) := by decide +kernel
theorem dX4_image_100 : decode cX4_image 100 = .ok (.getfield 70, 3) := by decide +kernel
theorem dX4_image_103 : decode cX4_image 103 = .ok (.ireturn, 1) := by decide +kernel
theorem dX4_restore_0 : decode cX4_restore 0 = .ok (.aload_n 0, 1) := by decide +kernel
theorem dX4_restore_1 : decode cX4_restore 1 = .ok (.getfield 46, 3) := by decide +kernel
theorem dX4_restore_4 : decode cX4_restore 4 = .ok (.aload_n 0, 1) := by decide +kernel
theorem dX4_restore_5 : decode cX4_restore 5 = .ok (.getfield 85, 3) := by decide +kernel
theorem dX4_restore_8 : decode cX4_restore 8 = .ok (.if_icmp .eq 6, 3) := by decide +kernel
theorem dX4_restore_11 : decode cX4_restore 11 = .ok (.bipush (-103), 2) := by decide +kernel
theorem dX4_restore_13 : decode cX4_restore 13 = .ok (.ireturn, 1) := by decide +kernel
theorem dX4_restore_14 : decode cX4_restore 14 = .ok (.aload_n 0, 1) := by decide +kernel
theorem dX4_restore_15 : decode cX4_restore 15 = .ok (.getfield 37, 3) := by decide +kernel
theorem dX4_restore_18 : decode cX4_restore 18 = .ok (.aload_n 0, 1) := by decide +kernel
theorem dX4_restore_19 : decode cX4_restore 19 = .ok (.getfield 16, 3) := by decide +kernel
theorem dX4_restore_22 : decode cX4_restore 22 = .ok (.invokestatic 189, 3) := by decide +kernel
theorem dX4_restore_25 : decode cX4_restore 25 = .ok (.aload_n 0, 1) := by decide +kernel
theorem dX4_restore_26 : decode cX4_restore 26 = .ok (.getfield 40, 3) := by decide +kernel
theorem dX4_restore_29 : decode cX4_restore 29 = .ok (.aload_n 0, 1) := by decide +kernel
theorem dX4_restore_30 : decode cX4_restore 30 = .ok (.getfield 19, 3) := by decide +kernel
theorem dX4_restore_33 : decode cX4_restore 33 = .ok (.invokestatic 189, 3) := by decide +kernel
theorem dX4_restore_36 : decode cX4_restore 36 = .ok (.aload_n 0, 1) := by decide +kernel
theorem dX4_restore_37 : decode cX4_restore 37 = .ok (.getfield 43, 3) := by decide +kernel
theorem dX4_restore_40 : decode cX4_restore 40 = .ok (.aload_n 0, 1) := by decide +kernel
theorem dX4_restore_41 : decode cX4_restore 41 = .ok (.getfield 34, 3) := by decide +kernel
theorem dX4_restore_44 : decode cX4_restore 44 = .ok (.invokestatic 189, 3) := by decide +kernel
theorem dX4_restore_47 : decode cX4_restore 47 = .ok (.aload_n 0, 1) := by decide +kernel
theorem dX4_restore_48 : decode cX4_restore 48 = .ok (.aload_n 0, 1) := by decide +kernel
theorem dX4_restore_49 : decode cX4_restore 49 = .ok (.getfield 229, 3) := by decide +kernel
theorem dX4_restore_52 : decode cX4_restore 52 = .ok (.putfield 76, 3) := by decide +kernel
theorem dX4_restore_55 : decode cX4_restore 55 = .ok (.aload_n 0, 1) := by decide +kernel
theorem dX4_restore_56 : decode cX4_restore 56 = .ok (.aload_n 0, 1) := by decide +kernel
theorem dX4_restore_57 : decode cX4_restore 57 = .ok (.getfield 232, 3) := by decide +kernel
theorem dX4_restore_60 : decode cX4_restore 60 = .ok (.putfield 79, 3) := by decide +kernel
theorem dX4_restore_63 : decode cX4_restore 63 = .ok (.aload_n 0, 1) := by decide +kernel
theorem dX4_restore_64 : decode cX4_restore 64 = .ok (.aload_n 0, 1) := by decide +kernel
theorem dX4_restore_65 : decode cX4_restore 65 = .ok (.getfield 235, 3) := by decide +kernel
theorem dX4_restore_68 : decode cX4_restore 68 = .ok (.putfield 67, 3) := by decide +kernel
theorem dX4_restore_71 : decode cX4_restore 71 = .ok (.aload_n 0, 1) := by decide +kernel
theorem dX4_restore_72 : decode cX4_restore 72 = .ok (.aload_n 0, 1) := by decide +kernel
theorem dX4_restore_73 : decode cX4_restore 73 = .ok (.getfield 238, 3) := by decide +kernel
theorem dX4_restore_76 : decode cX4_restore 76 = .ok (.putfield 70, 3) := by decide +kernel
theorem dX4_restore_79 : decode cX4_restore 79 = .ok (.aload_n 0, 1) := by decide +kernel
theorem dX4_restore_80 : decode cX4_restore 80 = .ok (.aload_n 0, 1) := by decide +kernel
theorem dX4_restore_81 : decode cX4_restore 81 = .ok (.getfield 241, 3) := by decide +kernel
theorem dX4_restore_84 : decode cX4_restore 84 = .ok (.putfield 73, 3) := by decide +kernel
theorem dX4_restore_87 : decode cX4_restore 87 = .ok (.aload_n 0, 1) := by decide +kernel
theorem dX4_restore_88 : decode cX4_restore 88 = .ok (.aload_n 0, 1) := by decide +kernel
theorem dX4_restore_89 : decode cX4_restore 89 = .ok (.getfield 244, 3) := by decide +kernel
theorem dX4_restore_92 : decode cX4_restore 92 = .ok (.putfield 82, 3) := by decide +kernel
theorem dX4_restore_95 : decode cX4_restore 95 = .ok (.aload_n 0, 1) := by decide +kernel
theorem dX4_restore_96 : decode cX4_restore 96 = .ok (.getfield 70, 3) := by decide +kernel
theorem dX4_restore_99 : decode cX4_restore 99 = .ok (.ireturn, 1) := by decide +kernel
theorem dX4_partyMany_0 : decode cX4_partyMany 0 = .ok (.iconst 0, 1) := by decide +kernel
theorem dX4_partyMany_1 : decode cX4_partyMany 1 = .ok (.istore_n 1, 1) := by decide +kernel
theorem dX4_partyMany_2 : decode cX4_partyMany 2 = .ok (.iconst 0, 1) := by decide +kernel
theorem dX4_partyMany_3 : decode cX4_partyMany 3 = .ok (.istore_n 2, 1) := by decide +kernel
theorem dX4_partyMany_4 : decode cX4_partyMany 4 = .ok (.iload_n 2, 1) := by decide +kernel
theorem dX4_partyMany_5 : decode cX4_partyMany 5 = .ok (.aload_n 0, 1) := by decide +kernel
theorem dX4_partyMany_6 : decode cX4_partyMany 6 = .ok (.getfield 76, 3) := by decide +kernel
theorem dX4_partyMany_9 : decode cX4_partyMany 9 = .ok (.if_icmp .ge 25, 3) := by decide +kernel
theorem dX4_partyMany_12 : decode cX4_partyMany 12 = .ok (.iload_n 1, 1) := by decide +kernel
theorem dX4_partyMany_13 : decode cX4_partyMany 13 = .ok (.aload_n 0, 1) := by decide +kernel
theorem dX4_partyMany_14 : decode cX4_partyMany 14 = .ok (.iload_n 2, 1) := by decide +kernel
theorem dX4_partyMany_15 : decode cX4_partyMany 15 = .ok (.invokevirtual 126, 3) := by decide +kernel
theorem dX4_partyMany_18 : decode cX4_partyMany 18 = .ok (.ifCond .eq 7, 3) := by decide +kernel
theorem dX4_partyMany_21 : decode cX4_partyMany 21 = .ok (.iconst 1, 1) := by decide +kernel
theorem dX4_partyMany_22 : decode cX4_partyMany 22 = .ok (.goto 4, 3) := by decide +kernel
theorem dX4_partyMany_25 : decode cX4_partyMany 25 = .ok (.iconst 0, 1) := by decide +kernel
theorem dX4_partyMany_26 : decode cX4_partyMany 26 = .ok (.iadd, 1) := by decide +kernel
theorem dX4_partyMany_27 : decode cX4_partyMany 27 = .ok (.istore_n 1, 1) := by decide +kernel
theorem dX4_partyMany_28 : decode cX4_partyMany 28 = .ok (.iinc 2 1, 3) := by decide +kernel
theorem dX4_partyMany_31 : decode cX4_partyMany 31 = .ok (.goto (-27), 3) := by decide +kernel
theorem dX4_partyMany_34 : decode cX4_partyMany 34 = .ok (.iload_n 1, 1) := by decide +kernel
theorem dX4_partyMany_35 : decode cX4_partyMany 35 = .ok (.ireturn, 1) := by decide +kernel
theorem dX4_countOf_0 : decode cX4_countOf 0 = .ok (.iload_n 1, 1) := by decide +kernel
theorem dX4_countOf_1 : decode cX4_countOf 1 = .ok (.tableswitch 134 0 11 #[63, 77, 82, 87, 92, 97, 102, 107, 114, 119, 124, 129], 63) := by decide +kernel
theorem dX4_countOf_64 : decode cX4_countOf 64 = .ok (.aload_n 0, 1) := by decide +kernel
theorem dX4_countOf_65 : decode cX4_countOf 65 = .ok (.getfield 63, 3) := by decide +kernel
theorem dX4_countOf_68 : decode cX4_countOf 68 = .ok (.ifCond .eq 8, 3) := by decide +kernel
theorem dX4_countOf_71 : decode cX4_countOf 71 = .ok (.bipush 12, 2) := by decide +kernel
theorem dX4_countOf_73 : decode cX4_countOf 73 = .ok (.goto 4, 3) := by decide +kernel
theorem dX4_countOf_76 : decode cX4_countOf 76 = .ok (.iconst 0, 1) := by decide +kernel
theorem dX4_countOf_77 : decode cX4_countOf 77 = .ok (.ireturn, 1) := by decide +kernel
theorem dX4_countOf_78 : decode cX4_countOf 78 = .ok (.aload_n 0, 1) := by decide +kernel
theorem dX4_countOf_79 : decode cX4_countOf 79 = .ok (.invokevirtual 88, 3) := by decide +kernel
theorem dX4_countOf_82 : decode cX4_countOf 82 = .ok (.ireturn, 1) := by decide +kernel
theorem dX4_countOf_83 : decode cX4_countOf 83 = .ok (.aload_n 0, 1) := by decide +kernel
theorem dX4_countOf_84 : decode cX4_countOf 84 = .ok (.getfield 76, 3) := by decide +kernel
theorem dX4_countOf_87 : decode cX4_countOf 87 = .ok (.ireturn, 1) := by decide +kernel
theorem dX4_countOf_88 : decode cX4_countOf 88 = .ok (.aload_n 0, 1) := by decide +kernel
theorem dX4_countOf_89 : decode cX4_countOf 89 = .ok (.getfield 79, 3) := by decide +kernel
theorem dX4_countOf_92 : decode cX4_countOf 92 = .ok (.ireturn, 1) := by decide +kernel
theorem dX4_countOf_93 : decode cX4_countOf 93 = .ok (.aload_n 0, 1) := by decide +kernel
theorem dX4_countOf_94 : decode cX4_countOf 94 = .ok (.invokevirtual 247, 3) := by decide +kernel
theorem dX4_countOf_97 : decode cX4_countOf 97 = .ok (.ireturn, 1) := by decide +kernel
theorem dX4_countOf_98 : decode cX4_countOf 98 = .ok (.aload_n 0, 1) := by decide +kernel
theorem dX4_countOf_99 : decode cX4_countOf 99 = .ok (.getfield 70, 3) := by decide +kernel
theorem dX4_countOf_102 : decode cX4_countOf 102 = .ok (.ireturn, 1) := by decide +kernel
theorem dX4_countOf_103 : decode cX4_countOf 103 = .ok (.aload_n 0, 1) := by decide +kernel
theorem dX4_countOf_104 : decode cX4_countOf 104 = .ok (.getfield 73, 3) := by decide +kernel
theorem dX4_countOf_107 : decode cX4_countOf 107 = .ok (.ireturn, 1) := by decide +kernel
theorem dX4_countOf_108 : decode cX4_countOf 108 = .ok (.aload_n 0, 1) := by decide +kernel
theorem dX4_countOf_109 : decode cX4_countOf 109 = .ok (.getfield 67, 3) := by decide +kernel
theorem dX4_countOf_112 : decode cX4_countOf 112 = .ok (.iconst 1, 1) := by decide +kernel
theorem dX4_countOf_113 : decode cX4_countOf 113 = .ok (.iadd, 1) := by decide +kernel
theorem dX4_countOf_114 : decode cX4_countOf 114 = .ok (.ireturn, 1) := by decide +kernel
theorem dX4_countOf_115 : decode cX4_countOf 115 = .ok (.aload_n 0, 1) := by decide +kernel
theorem dX4_countOf_116 : decode cX4_countOf 116 = .ok (.getfield 82, 3) := by decide +kernel
theorem dX4_countOf_119 : decode cX4_countOf 119 = .ok (.ireturn, 1) := by decide +kernel
theorem dX4_countOf_120 : decode cX4_countOf 120 = .ok (.aload_n 0, 1) := by decide +kernel
theorem dX4_countOf_121 : decode cX4_countOf 121 = .ok (.getfield 56, 3) := by decide +kernel
theorem dX4_countOf_124 : decode cX4_countOf 124 = .ok (.ireturn, 1) := by decide +kernel
theorem dX4_countOf_125 : decode cX4_countOf 125 = .ok (.aload_n 0, 1) := by decide +kernel
theorem dX4_countOf_126 : decode cX4_countOf 126 = .ok (.getfield 85, 3) := by decide +kernel
theorem dX4_countOf_129 : decode cX4_countOf 129 = .ok (.ireturn, 1) := by decide +kernel
theorem dX4_countOf_130 : decode cX4_countOf 130 = .ok (.aload_n 0, 1) := by decide +kernel
theorem dX4_countOf_131 : decode cX4_countOf 131 = .ok (.getfield 166, 3) := by decide +kernel
theorem dX4_countOf_134 : decode cX4_countOf 134 = .ok (.ireturn, 1) := by decide +kernel
theorem dX4_countOf_135 : decode cX4_countOf 135 = .ok (.bipush (-102), 2) := by decide +kernel
theorem dX4_countOf_137 : decode cX4_countOf 137 = .ok (.ireturn, 1) := by decide +kernel
theorem dX4_count_0 : decode cX4_count 0 = .ok (.aload_n 0, 1) := by decide +kernel
theorem dX4_count_1 : decode cX4_count 1 = .ok (.iload_n 1, 1) := by decide +kernel
theorem dX4_count_2 : decode cX4_count 2 = .ok (.invokevirtual 250, 3) := by decide +kernel
theorem dX4_count_5 : decode cX4_count 5 = .ok (.ireturn, 1) := by decide +kernel
theorem dX4_say_0 : decode cX4_say 0 = .ok (.aload_n 0, 1) := by decide +kernel
theorem dX4_say_1 : decode cX4_say 1 = .ok (.ldc2_w 253, 3) := by decide +kernel
theorem dX4_say_4 : decode cX4_say 4 = .ok (.aload_n 0, 1) := by decide +kernel
theorem dX4_say_5 : decode cX4_say 5 = .ok (.getfield 255, 3) := by decide +kernel
theorem dX4_say_8 : decode cX4_say 8 = .ok (.lmul, 1) := by decide +kernel
theorem dX4_say_9 : decode cX4_say 9 = .ok (.lload_n 1, 1) := by decide +kernel
theorem dX4_say_10 : decode cX4_say 10 = .ok (.ladd, 1) := by decide +kernel
theorem dX4_say_11 : decode cX4_say 11 = .ok (.putfield 255, 3) := by decide +kernel
theorem dX4_say_14 : decode cX4_say 14 = .ok (.return_, 1) := by decide +kernel
theorem dX4_sayIsland_0 : decode cX4_sayIsland 0 = .ok (.iconst 0, 1) := by decide +kernel
theorem dX4_sayIsland_1 : decode cX4_sayIsland 1 = .ok (.istore_n 2, 1) := by decide +kernel
theorem dX4_sayIsland_2 : decode cX4_sayIsland 2 = .ok (.iload_n 2, 1) := by decide +kernel
theorem dX4_sayIsland_3 : decode cX4_sayIsland 3 = .ok (.bipush 8, 2) := by decide +kernel
theorem dX4_sayIsland_5 : decode cX4_sayIsland 5 = .ok (.if_icmp .ge 20, 3) := by decide +kernel
theorem dX4_sayIsland_8 : decode cX4_sayIsland 8 = .ok (.aload_n 0, 1) := by decide +kernel
theorem dX4_sayIsland_9 : decode cX4_sayIsland 9 = .ok (.aload_n 0, 1) := by decide +kernel
theorem dX4_sayIsland_10 : decode cX4_sayIsland 10 = .ok (.iload_n 1, 1) := by decide +kernel
theorem dX4_sayIsland_11 : decode cX4_sayIsland 11 = .ok (.iload_n 2, 1) := by decide +kernel
theorem dX4_sayIsland_12 : decode cX4_sayIsland 12 = .ok (.invokevirtual 148, 3) := by decide +kernel
theorem dX4_sayIsland_15 : decode cX4_sayIsland 15 = .ok (.i2l, 1) := by decide +kernel
theorem dX4_sayIsland_16 : decode cX4_sayIsland 16 = .ok (.invokevirtual 259, 3) := by decide +kernel
theorem dX4_sayIsland_19 : decode cX4_sayIsland 19 = .ok (.iinc 2 1, 3) := by decide +kernel
theorem dX4_sayIsland_22 : decode cX4_sayIsland 22 = .ok (.goto (-20), 3) := by decide +kernel
theorem dX4_sayIsland_25 : decode cX4_sayIsland 25 = .ok (.iconst 0, 1) := by decide +kernel
theorem dX4_sayIsland_26 : decode cX4_sayIsland 26 = .ok (.istore_n 2, 1) := by decide +kernel
theorem dX4_sayIsland_27 : decode cX4_sayIsland 27 = .ok (.iload_n 2, 1) := by decide +kernel
theorem dX4_sayIsland_28 : decode cX4_sayIsland 28 = .ok (.aload_n 0, 1) := by decide +kernel
theorem dX4_sayIsland_29 : decode cX4_sayIsland 29 = .ok (.getfield 76, 3) := by decide +kernel
theorem dX4_sayIsland_32 : decode cX4_sayIsland 32 = .ok (.if_icmp .ge 28, 3) := by decide +kernel
theorem dX4_sayIsland_35 : decode cX4_sayIsland 35 = .ok (.iload_n 2, 1) := by decide +kernel
theorem dX4_sayIsland_36 : decode cX4_sayIsland 36 = .ok (.iload_n 1, 1) := by decide +kernel
theorem dX4_sayIsland_37 : decode cX4_sayIsland 37 = .ok (.if_icmp .eq 17, 3) := by decide +kernel
theorem dX4_sayIsland_40 : decode cX4_sayIsland 40 = .ok (.aload_n 0, 1) := by decide +kernel
theorem dX4_sayIsland_41 : decode cX4_sayIsland 41 = .ok (.aload_n 0, 1) := by decide +kernel
theorem dX4_sayIsland_42 : decode cX4_sayIsland 42 = .ok (.iload_n 1, 1) := by decide +kernel
theorem dX4_sayIsland_43 : decode cX4_sayIsland 43 = .ok (.iload_n 2, 1) := by decide +kernel
theorem dX4_sayIsland_44 : decode cX4_sayIsland 44 = .ok (.iconst 0, 1) := by decide +kernel
theorem dX4_sayIsland_45 : decode cX4_sayIsland 45 = .ok (.bipush 60, 2) := by decide +kernel
theorem dX4_sayIsland_47 : decode cX4_sayIsland 47 = .ok (.invokevirtual 157, 3) := by decide +kernel
theorem dX4_sayIsland_50 : decode cX4_sayIsland 50 = .ok (.i2l, 1) := by decide +kernel
theorem dX4_sayIsland_51 : decode cX4_sayIsland 51 = .ok (.invokevirtual 259, 3) := by decide +kernel
theorem dX4_sayIsland_54 : decode cX4_sayIsland 54 = .ok (.iinc 2 1, 3) := by decide +kernel
theorem dX4_sayIsland_57 : decode cX4_sayIsland 57 = .ok (.goto (-30), 3) := by decide +kernel
theorem dX4_sayIsland_60 : decode cX4_sayIsland 60 = .ok (.return_, 1) := by decide +kernel
theorem dX4_digest_0 : decode cX4_digest 0 = .ok (.aload_n 0, 1) := by decide +kernel
theorem dX4_digest_1 : decode cX4_digest 1 = .ok (.ldc2_w 263, 3) := by decide +kernel
theorem dX4_digest_4 : decode cX4_digest 4 = .ok (.putfield 255, 3) := by decide +kernel
theorem dX4_digest_7 : decode cX4_digest 7 = .ok (.iconst 0, 1) := by decide +kernel
theorem dX4_digest_8 : decode cX4_digest 8 = .ok (.istore_n 1, 1) := by decide +kernel
theorem dX4_digest_9 : decode cX4_digest 9 = .ok (.iload_n 1, 1) := by decide +kernel
theorem dX4_digest_10 : decode cX4_digest 10 = .ok (.bipush 12, 2) := by decide +kernel
theorem dX4_digest_12 : decode cX4_digest 12 = .ok (.if_icmp .ge 37, 3) := by decide +kernel
theorem dX4_digest_15 : decode cX4_digest 15 = .ok (.aload_n 0, 1) := by decide +kernel
theorem dX4_digest_16 : decode cX4_digest 16 = .ok (.getfield 63, 3) := by decide +kernel
theorem dX4_digest_19 : decode cX4_digest 19 = .ok (.ifCond .eq 30, 3) := by decide +kernel
theorem dX4_digest_22 : decode cX4_digest 22 = .ok (.aload_n 0, 1) := by decide +kernel
theorem dX4_digest_23 : decode cX4_digest 23 = .ok (.aload_n 0, 1) := by decide +kernel
theorem dX4_digest_24 : decode cX4_digest 24 = .ok (.getfield 13, 3) := by decide +kernel
theorem dX4_digest_27 : decode cX4_digest 27 = .ok (.iload_n 1, 1) := by decide +kernel
theorem dX4_digest_28 : decode cX4_digest 28 = .ok (.iaload, 1) := by decide +kernel
theorem dX4_digest_29 : decode cX4_digest 29 = .ok (.i2l, 1) := by decide +kernel
theorem dX4_digest_30 : decode cX4_digest 30 = .ok (.invokevirtual 259, 3) := by decide +kernel
theorem dX4_digest_33 : decode cX4_digest 33 = .ok (.aload_n 0, 1) := by decide +kernel
theorem dX4_digest_34 : decode cX4_digest 34 = .ok (.aload_n 0, 1) := by decide +kernel
theorem dX4_digest_35 : decode cX4_digest 35 = .ok (.iload_n 1, 1) := by decide +kernel
theorem dX4_digest_36 : decode cX4_digest 36 = .ok (.invokevirtual 97, 3) := by decide +kernel
theorem dX4_digest_39 : decode cX4_digest 39 = .ok (.i2l, 1) := by decide +kernel
theorem dX4_digest_40 : decode cX4_digest 40 = .ok (.invokevirtual 259, 3) := by decide +kernel
theorem dX4_digest_43 : decode cX4_digest 43 = .ok (.iinc 1 1, 3) := by decide +kernel
theorem dX4_digest_46 : decode cX4_digest 46 = .ok (.goto (-37), 3) := by decide +kernel
theorem dX4_digest_49 : decode cX4_digest 49 = .ok (.iconst 0, 1) := by decide +kernel
theorem dX4_digest_50 : decode cX4_digest 50 = .ok (.istore_n 1, 1) := by decide +kernel
theorem dX4_digest_51 : decode cX4_digest 51 = .ok (.iload_n 1, 1) := by decide +kernel
theorem dX4_digest_52 : decode cX4_digest 52 = .ok (.aload_n 0, 1) := by decide +kernel
theorem dX4_digest_53 : decode cX4_digest 53 = .ok (.getfield 76, 3) := by decide +kernel
theorem dX4_digest_56 : decode cX4_digest 56 = .ok (.if_icmp .ge 14, 3) := by decide +kernel
theorem dX4_digest_59 : decode cX4_digest 59 = .ok (.aload_n 0, 1) := by decide +kernel
theorem dX4_digest_60 : decode cX4_digest 60 = .ok (.iload_n 1, 1) := by decide +kernel
theorem dX4_digest_61 : decode cX4_digest 61 = .ok (.invokevirtual 265, 3) := by decide +kernel
theorem dX4_digest_64 : decode cX4_digest 64 = .ok (.iinc 1 1, 3) := by decide +kernel
theorem dX4_digest_67 : decode cX4_digest 67 = .ok (.goto (-16), 3) := by decide +kernel
theorem dX4_digest_70 : decode cX4_digest 70 = .ok (.aload_n 0, 1) := by decide +kernel
theorem dX4_digest_71 : decode cX4_digest 71 = .ok (.getfield 63, 3) := by decide +kernel
theorem dX4_digest_74 : decode cX4_digest 74 = .ok (.ifCond .eq 42, 3) := by decide +kernel
theorem dX4_digest_77 : decode cX4_digest 77 = .ok (.aload_n 0, 1) := by decide +kernel
theorem dX4_digest_78 : decode cX4_digest 78 = .ok (.invokevirtual 197, 3) := by decide +kernel
theorem dX4_digest_81 : decode cX4_digest 81 = .ok (.iconst 0, 1) := by decide +kernel
theorem dX4_digest_82 : decode cX4_digest 82 = .ok (.istore_n 1, 1) := by decide +kernel
theorem dX4_digest_83 : decode cX4_digest 83 = .ok (.iload_n 1, 1) := by decide +kernel
theorem dX4_digest_84 : decode cX4_digest 84 = .ok (.bipush 15, 2) := by decide +kernel
theorem dX4_digest_86 : decode cX4_digest 86 = .ok (.if_icmp .ge 30, 3) := by decide +kernel
theorem dX4_digest_89 : decode cX4_digest 89 = .ok (.iload_n 1, 1) := by decide +kernel
theorem dX4_digest_90 : decode cX4_digest 90 = .ok (.iconst 2, 1) := by decide +kernel
theorem dX4_digest_91 : decode cX4_digest 91 = .ok (.if_icmp .lt 9, 3) := by decide +kernel
theorem dX4_digest_94 : decode cX4_digest 94 = .ok (.iload_n 1, 1) := by decide +kernel
theorem dX4_digest_95 : decode cX4_digest 95 = .ok (.bipush 9, 2) := by decide +kernel
theorem dX4_digest_97 : decode cX4_digest 97 = .ok (.if_icmp .le 13, 3) := by decide +kernel
theorem dX4_digest_100 : decode cX4_digest 100 = .ok (.aload_n 0, 1) := by decide +kernel
theorem dX4_digest_101 : decode cX4_digest 101 = .ok (.aload_n 0, 1) := by decide +kernel
theorem dX4_digest_102 : decode cX4_digest 102 = .ok (.iload_n 1, 1) := by decide +kernel
theorem dX4_digest_103 : decode cX4_digest 103 = .ok (.invokevirtual 200, 3) := by decide +kernel
theorem dX4_digest_106 : decode cX4_digest 106 = .ok (.i2l, 1) := by decide +kernel
theorem dX4_digest_107 : decode cX4_digest 107 = .ok (.invokevirtual 259, 3) := by decide +kernel
theorem dX4_digest_110 : decode cX4_digest 110 = .ok (.iinc 1 1, 3) := by decide +kernel
theorem dX4_digest_113 : decode cX4_digest 113 = .ok (.goto (-30), 3) := by decide +kernel
theorem dX4_digest_116 : decode cX4_digest 116 = .ok (.iconst 0, 1) := by decide +kernel
theorem dX4_digest_117 : decode cX4_digest 117 = .ok (.istore_n 1, 1) := by decide +kernel
theorem dX4_digest_118 : decode cX4_digest 118 = .ok (.iload_n 1, 1) := by decide +kernel
theorem dX4_digest_119 : decode cX4_digest 119 = .ok (.aload_n 0, 1) := by decide +kernel
theorem dX4_digest_120 : decode cX4_digest 120 = .ok (.getfield 56, 3) := by decide +kernel
theorem dX4_digest_123 : decode cX4_digest 123 = .ok (.if_icmp .ge 20, 3) := by decide +kernel
theorem dX4_digest_126 : decode cX4_digest 126 = .ok (.aload_n 0, 1) := by decide +kernel
theorem dX4_digest_127 : decode cX4_digest 127 = .ok (.aload_n 0, 1) := by decide +kernel
theorem dX4_digest_128 : decode cX4_digest 128 = .ok (.getfield 7, 3) := by decide +kernel
theorem dX4_digest_131 : decode cX4_digest 131 = .ok (.iload_n 1, 1) := by decide +kernel
theorem dX4_digest_132 : decode cX4_digest 132 = .ok (.iaload, 1) := by decide +kernel
theorem dX4_digest_133 : decode cX4_digest 133 = .ok (.i2l, 1) := by decide +kernel
theorem dX4_digest_134 : decode cX4_digest 134 = .ok (.invokevirtual 259, 3) := by decide +kernel
theorem dX4_digest_137 : decode cX4_digest 137 = .ok (.iinc 1 1, 3) := by decide +kernel
theorem dX4_digest_140 : decode cX4_digest 140 = .ok (.goto (-22), 3) := by decide +kernel
theorem dX4_digest_143 : decode cX4_digest 143 = .ok (.iconst 0, 1) := by decide +kernel
theorem dX4_digest_144 : decode cX4_digest 144 = .ok (.istore_n 1, 1) := by decide +kernel
theorem dX4_digest_145 : decode cX4_digest 145 = .ok (.iload_n 1, 1) := by decide +kernel
theorem dX4_digest_146 : decode cX4_digest 146 = .ok (.bipush 12, 2) := by decide +kernel
theorem dX4_digest_148 : decode cX4_digest 148 = .ok (.if_icmp .ge 19, 3) := by decide +kernel
theorem dX4_digest_151 : decode cX4_digest 151 = .ok (.aload_n 0, 1) := by decide +kernel
theorem dX4_digest_152 : decode cX4_digest 152 = .ok (.aload_n 0, 1) := by decide +kernel
theorem dX4_digest_153 : decode cX4_digest 153 = .ok (.iload_n 1, 1) := by decide +kernel
theorem dX4_digest_154 : decode cX4_digest 154 = .ok (.invokevirtual 250, 3) := by decide +kernel
theorem dX4_digest_157 : decode cX4_digest 157 = .ok (.i2l, 1) := by decide +kernel
theorem dX4_digest_158 : decode cX4_digest 158 = .ok (.invokevirtual 259, 3) := by decide +kernel
theorem dX4_digest_161 : decode cX4_digest 161 = .ok (.iinc 1 1, 3) := by decide +kernel
theorem dX4_digest_164 : decode cX4_digest 164 = .ok (.goto (-19), 3) := by decide +kernel
theorem dX4_digest_167 : decode cX4_digest 167 = .ok (.aload_n 0, 1) := by decide +kernel
theorem dX4_digest_168 : decode cX4_digest 168 = .ok (.getfield 255, 3) := by decide +kernel
theorem dX4_digest_171 : decode cX4_digest 171 = .ok (.lreturn, 1) := by decide +kernel
