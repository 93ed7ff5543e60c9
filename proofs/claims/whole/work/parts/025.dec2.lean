theorem dX6_init_0 : decode cX6_init 0 = .ok (.aload_n 0, 1) := by decide +kernel
theorem dX6_init_1 : decode cX6_init 1 = .ok (.invokespecial 3, 3) := by decide +kernel
theorem dX6_init_4 : decode cX6_init 4 = .ok (.aload_n 0, 1) := by decide +kernel
theorem dX6_init_5 : decode cX6_init 5 = .ok (.new 9, 3) := by decide +kernel
theorem dX6_init_8 : decode cX6_init 8 = .ok (.dup, 1) := by decide +kernel
theorem dX6_init_9 : decode cX6_init 9 = .ok (.invokespecial 11, 3) := by decide +kernel
theorem dX6_init_12 : decode cX6_init 12 = .ok (.putfield 12, 3) := by decide +kernel
theorem dX6_init_15 : decode cX6_init 15 = .ok (.aload_n 0, 1) := by decide +kernel
theorem dX6_init_16 : decode cX6_init 16 = .ok (.new 9, 3) := by decide +kernel
theorem dX6_init_19 : decode cX6_init 19 = .ok (.dup, 1) := by decide +kernel
theorem dX6_init_20 : decode cX6_init 20 = .ok (.invokespecial 11, 3) := by decide +kernel
theorem dX6_init_23 : decode cX6_init 23 = .ok (.putfield 18, 3) := by decide +kernel
theorem dX6_init_26 : decode cX6_init 26 = .ok (.aload_n 0, 1) := by decide +kernel
theorem dX6_init_27 : decode cX6_init 27 = .ok (.bipush 64, 2) := by decide +kernel
theorem dX6_init_29 : decode cX6_init 29 = .ok (.newarray .int, 2) := by decide +kernel
theorem dX6_init_31 : decode cX6_init 31 = .ok (.putfield 21, 3) := by decide +kernel
theorem dX6_init_34 : decode cX6_init 34 = .ok (.aload_n 0, 1) := by decide +kernel
theorem dX6_init_35 : decode cX6_init 35 = .ok (.bipush 6, 2) := by decide +kernel
theorem dX6_init_37 : decode cX6_init 37 = .ok (.bipush 8, 2) := by decide +kernel
theorem dX6_init_39 : decode cX6_init 39 = .ok (.multianewarray 25 2, 4) := by decide +kernel
theorem dX6_init_43 : decode cX6_init 43 = .ok (.putfield 27, 3) := by decide +kernel
theorem dX6_init_46 : decode cX6_init 46 = .ok (.aload_n 0, 1) := by decide +kernel
theorem dX6_init_47 : decode cX6_init 47 = .ok (.iconst 3, 1) := by decide +kernel
theorem dX6_init_48 : decode cX6_init 48 = .ok (.newarray .int, 2) := by decide +kernel
theorem dX6_init_50 : decode cX6_init 50 = .ok (.putfield 30, 3) := by decide +kernel
theorem dX6_init_53 : decode cX6_init 53 = .ok (.aload_n 0, 1) := by decide +kernel
theorem dX6_init_54 : decode cX6_init 54 = .ok (.bipush 41, 2) := by decide +kernel
theorem dX6_init_56 : decode cX6_init 56 = .ok (.newarray .int, 2) := by decide +kernel
theorem dX6_init_58 : decode cX6_init 58 = .ok (.putfield 33, 3) := by decide +kernel
theorem dX6_init_61 : decode cX6_init 61 = .ok (.aload_n 0, 1) := by decide +kernel
theorem dX6_init_62 : decode cX6_init 62 = .ok (.aload_n 1, 1) := by decide +kernel
theorem dX6_init_63 : decode cX6_init 63 = .ok (.putfield 36, 3) := by decide +kernel
theorem dX6_init_66 : decode cX6_init 66 = .ok (.return_, 1) := by decide +kernel
theorem dX6_find_0 : decode cX6_find 0 = .ok (.iconst 0, 1) := by decide +kernel
theorem dX6_find_1 : decode cX6_find 1 = .ok (.istore_n 3, 1) := by decide +kernel
theorem dX6_find_2 : decode cX6_find 2 = .ok (.iload_n 3, 1) := by decide +kernel
theorem dX6_find_3 : decode cX6_find 3 = .ok (.iload_n 1, 1) := by decide +kernel
theorem dX6_find_4 : decode cX6_find 4 = .ok (.if_icmp .gt 46, 3) := by decide +kernel
theorem dX6_find_7 : decode cX6_find 7 = .ok (.iload_n 3, 1) := by decide +kernel
theorem dX6_find_8 : decode cX6_find 8 = .ok (.bipush 64, 2) := by decide +kernel
theorem dX6_find_10 : decode cX6_find 10 = .ok (.if_icmp .ge 40, 3) := by decide +kernel
theorem dX6_find_13 : decode cX6_find 13 = .ok (.iload_n 3, 1) := by decide +kernel
theorem dX6_find_14 : decode cX6_find 14 = .ok (.iload_n 1, 1) := by decide +kernel
theorem dX6_find_15 : decode cX6_find 15 = .ok (.iconst (-1), 1) := by decide +kernel
theorem dX6_find_16 : decode cX6_find 16 = .ok (.ixor, 1) := by decide +kernel
theorem dX6_find_17 : decode cX6_find 17 = .ok (.iand, 1) := by decide +kernel
theorem dX6_find_18 : decode cX6_find 18 = .ok (.ifCond .ne 26, 3) := by decide +kernel
theorem dX6_find_21 : decode cX6_find 21 = .ok (.aload_n 0, 1) := by decide +kernel
theorem dX6_find_22 : decode cX6_find 22 = .ok (.iload_n 3, 1) := by decide +kernel
theorem dX6_find_23 : decode cX6_find 23 = .ok (.invokevirtual 40, 3) := by decide +kernel
theorem dX6_find_26 : decode cX6_find 26 = .ok (.ifCond .eq 18, 3) := by decide +kernel
theorem dX6_find_29 : decode cX6_find 29 = .ok (.aload_n 0, 1) := by decide +kernel
theorem dX6_find_30 : decode cX6_find 30 = .ok (.iload_n 2, 1) := by decide +kernel
theorem dX6_find_31 : decode cX6_find 31 = .ok (.invokevirtual 44, 3) := by decide +kernel
theorem dX6_find_34 : decode cX6_find 34 = .ok (.aload_n 0, 1) := by decide +kernel
theorem dX6_find_35 : decode cX6_find 35 = .ok (.iload_n 1, 1) := by decide +kernel
theorem dX6_find_36 : decode cX6_find 36 = .ok (.invokevirtual 48, 3) := by decide +kernel
theorem dX6_find_39 : decode cX6_find 39 = .ok (.ifCond .eq 5, 3) := by decide +kernel
theorem dX6_find_42 : decode cX6_find 42 = .ok (.iload_n 3, 1) := by decide +kernel
theorem dX6_find_43 : decode cX6_find 43 = .ok (.ireturn, 1) := by decide +kernel
theorem dX6_find_44 : decode cX6_find 44 = .ok (.iinc 3 1, 3) := by decide +kernel
theorem dX6_find_47 : decode cX6_find 47 = .ok (.goto (-45), 3) := by decide +kernel
theorem dX6_find_50 : decode cX6_find 50 = .ok (.iconst (-1), 1) := by decide +kernel
theorem dX6_find_51 : decode cX6_find 51 = .ok (.ireturn, 1) := by decide +kernel
theorem dX6_meet_0 : decode cX6_meet 0 = .ok (.iload_n 1, 1) := by decide +kernel
theorem dX6_meet_1 : decode cX6_meet 1 = .ok (.invokestatic 51, 3) := by decide +kernel
theorem dX6_meet_4 : decode cX6_meet 4 = .ok (.aload_n 0, 1) := by decide +kernel
theorem dX6_meet_5 : decode cX6_meet 5 = .ok (.getfield 36, 3) := by decide +kernel
theorem dX6_meet_8 : decode cX6_meet 8 = .ok (.getfield 57, 3) := by decide +kernel
theorem dX6_meet_11 : decode cX6_meet 11 = .ok (.if_icmp .le 5, 3) := by decide +kernel
theorem dX6_meet_14 : decode cX6_meet 14 = .ok (.iconst 0, 1) := by decide +kernel
theorem dX6_meet_15 : decode cX6_meet 15 = .ok (.ireturn, 1) := by decide +kernel
theorem dX6_meet_16 : decode cX6_meet 16 = .ok (.aload_n 0, 1) := by decide +kernel
theorem dX6_meet_17 : decode cX6_meet 17 = .ok (.iload_n 1, 1) := by decide +kernel
theorem dX6_meet_18 : decode cX6_meet 18 = .ok (.invokevirtual 63, 3) := by decide +kernel
theorem dX6_meet_21 : decode cX6_meet 21 = .ok (.aload_n 0, 1) := by decide +kernel
theorem dX6_meet_22 : decode cX6_meet 22 = .ok (.invokevirtual 66, 3) := by decide +kernel
theorem dX6_meet_25 : decode cX6_meet 25 = .ok (.aload_n 0, 1) := by decide +kernel
theorem dX6_meet_26 : decode cX6_meet 26 = .ok (.invokevirtual 69, 3) := by decide +kernel
theorem dX6_meet_29 : decode cX6_meet 29 = .ok (.aload_n 0, 1) := by decide +kernel
theorem dX6_meet_30 : decode cX6_meet 30 = .ok (.invokevirtual 72, 3) := by decide +kernel
theorem dX6_meet_33 : decode cX6_meet 33 = .ok (.ireturn, 1) := by decide +kernel
theorem dX6_gather_0 : decode cX6_gather 0 = .ok (.iconst 0, 1) := by decide +kernel
theorem dX6_gather_1 : decode cX6_gather 1 = .ok (.istore_n 2, 1) := by decide +kernel
theorem dX6_gather_2 : decode cX6_gather 2 = .ok (.iconst 0, 1) := by decide +kernel
theorem dX6_gather_3 : decode cX6_gather 3 = .ok (.istore_n 3, 1) := by decide +kernel
theorem dX6_gather_4 : decode cX6_gather 4 = .ok (.iload_n 3, 1) := by decide +kernel
theorem dX6_gather_5 : decode cX6_gather 5 = .ok (.aload_n 0, 1) := by decide +kernel
theorem dX6_gather_6 : decode cX6_gather 6 = .ok (.getfield 36, 3) := by decide +kernel
theorem dX6_gather_9 : decode cX6_gather 9 = .ok (.getfield 76, 3) := by decide +kernel
theorem dX6_gather_12 : decode cX6_gather 12 = .ok (.if_icmp .ge 32, 3) := by decide +kernel
theorem dX6_gather_15 : decode cX6_gather 15 = .ok (.iload_n 2, 1) := by decide +kernel
theorem dX6_gather_16 : decode cX6_gather 16 = .ok (.iconst 3, 1) := by decide +kernel
theorem dX6_gather_17 : decode cX6_gather 17 = .ok (.if_icmp .ge 27, 3) := by decide +kernel
theorem dX6_gather_20 : decode cX6_gather 20 = .ok (.iload_n 1, 1) := by decide +kernel
theorem dX6_gather_21 : decode cX6_gather 21 = .ok (.iload_n 3, 1) := by decide +kernel
theorem dX6_gather_22 : decode cX6_gather 22 = .ok (.ishr, 1) := by decide +kernel
theorem dX6_gather_23 : decode cX6_gather 23 = .ok (.iconst 1, 1) := by decide +kernel
theorem dX6_gather_24 : decode cX6_gather 24 = .ok (.iand, 1) := by decide +kernel
theorem dX6_gather_25 : decode cX6_gather 25 = .ok (.ifCond .eq 13, 3) := by decide +kernel
theorem dX6_gather_28 : decode cX6_gather 28 = .ok (.aload_n 0, 1) := by decide +kernel
theorem dX6_gather_29 : decode cX6_gather 29 = .ok (.getfield 30, 3) := by decide +kernel
theorem dX6_gather_32 : decode cX6_gather 32 = .ok (.iload_n 2, 1) := by decide +kernel
theorem dX6_gather_33 : decode cX6_gather 33 = .ok (.iload_n 3, 1) := by decide +kernel
theorem dX6_gather_34 : decode cX6_gather 34 = .ok (.iastore, 1) := by decide +kernel
theorem dX6_gather_35 : decode cX6_gather 35 = .ok (.iinc 2 1, 3) := by decide +kernel
theorem dX6_gather_38 : decode cX6_gather 38 = .ok (.iinc 3 1, 3) := by decide +kernel
theorem dX6_gather_41 : decode cX6_gather 41 = .ok (.goto (-37), 3) := by decide +kernel
theorem dX6_gather_44 : decode cX6_gather 44 = .ok (.aload_n 0, 1) := by decide +kernel
theorem dX6_gather_45 : decode cX6_gather 45 = .ok (.aload_n 0, 1) := by decide +kernel
theorem dX6_gather_46 : decode cX6_gather 46 = .ok (.getfield 36, 3) := by decide +kernel
theorem dX6_gather_49 : decode cX6_gather 49 = .ok (.getfield 57, 3) := by decide +kernel
theorem dX6_gather_52 : decode cX6_gather 52 = .ok (.iload_n 2, 1) := by decide +kernel
theorem dX6_gather_53 : decode cX6_gather 53 = .ok (.iadd, 1) := by decide +kernel
theorem dX6_gather_54 : decode cX6_gather 54 = .ok (.putfield 79, 3) := by decide +kernel
theorem dX6_gather_57 : decode cX6_gather 57 = .ok (.return_, 1) := by decide +kernel
theorem dX6_fillBowlRows_0 : decode cX6_fillBowlRows 0 = .ok (.aload_n 0, 1) := by decide +kernel
theorem dX6_fillBowlRows_1 : decode cX6_fillBowlRows 1 = .ok (.getfield 36, 3) := by decide +kernel
theorem dX6_fillBowlRows_4 : decode cX6_fillBowlRows 4 = .ok (.getfield 57, 3) := by decide +kernel
theorem dX6_fillBowlRows_7 : decode cX6_fillBowlRows 7 = .ok (.istore_n 1, 1) := by decide +kernel
theorem dX6_fillBowlRows_8 : decode cX6_fillBowlRows 8 = .ok (.iconst 0, 1) := by decide +kernel
theorem dX6_fillBowlRows_9 : decode cX6_fillBowlRows 9 = .ok (.istore_n 2, 1) := by decide +kernel
theorem dX6_fillBowlRows_10 : decode cX6_fillBowlRows 10 = .ok (.iload_n 2, 1) := by decide +kernel
theorem dX6_fillBowlRows_11 : decode cX6_fillBowlRows 11 = .ok (.iload_n 1, 1) := by decide +kernel
theorem dX6_fillBowlRows_12 : decode cX6_fillBowlRows 12 = .ok (.if_icmp .ge 117, 3) := by decide +kernel
theorem dX6_fillBowlRows_15 : decode cX6_fillBowlRows 15 = .ok (.iconst 0, 1) := by decide +kernel
theorem dX6_fillBowlRows_16 : decode cX6_fillBowlRows 16 = .ok (.istore_n 3, 1) := by decide +kernel
theorem dX6_fillBowlRows_17 : decode cX6_fillBowlRows 17 = .ok (.iload_n 3, 1) := by decide +kernel
theorem dX6_fillBowlRows_18 : decode cX6_fillBowlRows 18 = .ok (.iload_n 1, 1) := by decide +kernel
theorem dX6_fillBowlRows_19 : decode cX6_fillBowlRows 19 = .ok (.if_icmp .ge 27, 3) := by decide +kernel
theorem dX6_fillBowlRows_22 : decode cX6_fillBowlRows 22 = .ok (.aload_n 0, 1) := by decide +kernel
theorem dX6_fillBowlRows_23 : decode cX6_fillBowlRows 23 = .ok (.getfield 27, 3) := by decide +kernel
theorem dX6_fillBowlRows_26 : decode cX6_fillBowlRows 26 = .ok (.iload_n 2, 1) := by decide +kernel
theorem dX6_fillBowlRows_27 : decode cX6_fillBowlRows 27 = .ok (.aaload, 1) := by decide +kernel
theorem dX6_fillBowlRows_28 : decode cX6_fillBowlRows 28 = .ok (.iload_n 3, 1) := by decide +kernel
theorem dX6_fillBowlRows_29 : decode cX6_fillBowlRows 29 = .ok (.aload_n 0, 1) := by decide +kernel
theorem dX6_fillBowlRows_30 : decode cX6_fillBowlRows 30 = .ok (.getfield 36, 3) := by decide +kernel
theorem dX6_fillBowlRows_33 : decode cX6_fillBowlRows 33 = .ok (.iload_n 2, 1) := by decide +kernel
theorem dX6_fillBowlRows_34 : decode cX6_fillBowlRows 34 = .ok (.iload_n 3, 1) := by decide +kernel
theorem dX6_fillBowlRows_35 : decode cX6_fillBowlRows 35 = .ok (.invokevirtual 82, 3) := by decide +kernel
theorem dX6_fillBowlRows_38 : decode cX6_fillBowlRows 38 = .ok (.i2l, 1) := by decide +kernel
theorem dX6_fillBowlRows_39 : decode cX6_fillBowlRows 39 = .ok (.lastore, 1) := by decide +kernel
theorem dX6_fillBowlRows_40 : decode cX6_fillBowlRows 40 = .ok (.iinc 3 1, 3) := by decide +kernel
theorem dX6_fillBowlRows_43 : decode cX6_fillBowlRows 43 = .ok (.goto (-26), 3) := by decide +kernel
theorem dX6_fillBowlRows_46 : decode cX6_fillBowlRows 46 = .ok (.iload_n 1, 1) := by decide +kernel
theorem dX6_fillBowlRows_47 : decode cX6_fillBowlRows 47 = .ok (.istore_n 3, 1) := by decide +kernel
theorem dX6_fillBowlRows_48 : decode cX6_fillBowlRows 48 = .ok (.iload_n 3, 1) := by decide +kernel
theorem dX6_fillBowlRows_49 : decode cX6_fillBowlRows 49 = .ok (.aload_n 0, 1) := by decide +kernel
theorem dX6_fillBowlRows_50 : decode cX6_fillBowlRows 50 = .ok (.getfield 79, 3) := by decide +kernel
theorem dX6_fillBowlRows_53 : decode cX6_fillBowlRows 53 = .ok (.if_icmp .ge 34, 3) := by decide +kernel
theorem dX6_fillBowlRows_56 : decode cX6_fillBowlRows 56 = .ok (.aload_n 0, 1) := by decide +kernel
theorem dX6_fillBowlRows_57 : decode cX6_fillBowlRows 57 = .ok (.getfield 27, 3) := by decide +kernel
theorem dX6_fillBowlRows_60 : decode cX6_fillBowlRows 60 = .ok (.iload_n 2, 1) := by decide +kernel
theorem dX6_fillBowlRows_61 : decode cX6_fillBowlRows 61 = .ok (.aaload, 1) := by decide +kernel
theorem dX6_fillBowlRows_62 : decode cX6_fillBowlRows 62 = .ok (.iload_n 3, 1) := by decide +kernel
theorem dX6_fillBowlRows_63 : decode cX6_fillBowlRows 63 = .ok (.aload_n 0, 1) := by decide +kernel
theorem dX6_fillBowlRows_64 : decode cX6_fillBowlRows 64 = .ok (.getfield 36, 3) := by decide +kernel
theorem dX6_fillBowlRows_67 : decode cX6_fillBowlRows 67 = .ok (.aload_n 0, 1) := by decide +kernel
theorem dX6_fillBowlRows_68 : decode cX6_fillBowlRows 68 = .ok (.getfield 30, 3) := by decide +kernel
theorem dX6_fillBowlRows_71 : decode cX6_fillBowlRows 71 = .ok (.iload_n 3, 1) := by decide +kernel
theorem dX6_fillBowlRows_72 : decode cX6_fillBowlRows 72 = .ok (.iload_n 1, 1) := by decide +kernel
theorem dX6_fillBowlRows_73 : decode cX6_fillBowlRows 73 = .ok (.isub, 1) := by decide +kernel
theorem dX6_fillBowlRows_74 : decode cX6_fillBowlRows 74 = .ok (.iaload, 1) := by decide +kernel
theorem dX6_fillBowlRows_75 : decode cX6_fillBowlRows 75 = .ok (.iload_n 2, 1) := by decide +kernel
theorem dX6_fillBowlRows_76 : decode cX6_fillBowlRows 76 = .ok (.invokevirtual 86, 3) := by decide +kernel
theorem dX6_fillBowlRows_79 : decode cX6_fillBowlRows 79 = .ok (.i2l, 1) := by decide +kernel
theorem dX6_fillBowlRows_80 : decode cX6_fillBowlRows 80 = .ok (.lastore, 1) := by decide +kernel
theorem dX6_fillBowlRows_81 : decode cX6_fillBowlRows 81 = .ok (.iinc 3 1, 3) := by decide +kernel
theorem dX6_fillBowlRows_84 : decode cX6_fillBowlRows 84 = .ok (.goto (-36), 3) := by decide +kernel
theorem dX6_fillBowlRows_87 : decode cX6_fillBowlRows 87 = .ok (.aload_n 0, 1) := by decide +kernel
theorem dX6_fillBowlRows_88 : decode cX6_fillBowlRows 88 = .ok (.getfield 27, 3) := by decide +kernel
theorem dX6_fillBowlRows_91 : decode cX6_fillBowlRows 91 = .ok (.iload_n 2, 1) := by decide +kernel
theorem dX6_fillBowlRows_92 : decode cX6_fillBowlRows 92 = .ok (.aaload, 1) := by decide +kernel
theorem dX6_fillBowlRows_93 : decode cX6_fillBowlRows 93 = .ok (.aload_n 0, 1) := by decide +kernel
theorem dX6_fillBowlRows_94 : decode cX6_fillBowlRows 94 = .ok (.getfield 79, 3) := by decide +kernel
theorem dX6_fillBowlRows_97 : decode cX6_fillBowlRows 97 = .ok (.aload_n 0, 1) := by decide +kernel
theorem dX6_fillBowlRows_98 : decode cX6_fillBowlRows 98 = .ok (.getfield 36, 3) := by decide +kernel
theorem dX6_fillBowlRows_101 : decode cX6_fillBowlRows 101 = .ok (.getfield 89, 3) := by decide +kernel
theorem dX6_fillBowlRows_104 : decode cX6_fillBowlRows 104 = .ok (.iload_n 2, 1) := by decide +kernel
theorem dX6_fillBowlRows_105 : decode cX6_fillBowlRows 105 = .ok (.iaload, 1) := by decide +kernel
theorem dX6_fillBowlRows_106 : decode cX6_fillBowlRows 106 = .ok (.ineg, 1) := by decide +kernel
theorem dX6_fillBowlRows_107 : decode cX6_fillBowlRows 107 = .ok (.i2l, 1) := by decide +kernel
theorem dX6_fillBowlRows_108 : decode cX6_fillBowlRows 108 = .ok (.lastore, 1) := by decide +kernel
theorem dX6_fillBowlRows_109 : decode cX6_fillBowlRows 109 = .ok (.aload_n 0, 1) := by decide +kernel
theorem dX6_fillBowlRows_110 : decode cX6_fillBowlRows 110 = .ok (.getfield 27, 3) := by decide +kernel
theorem dX6_fillBowlRows_113 : decode cX6_fillBowlRows 113 = .ok (.iload_n 2, 1) := by decide +kernel
theorem dX6_fillBowlRows_114 : decode cX6_fillBowlRows 114 = .ok (.aaload, 1) := by decide +kernel
theorem dX6_fillBowlRows_115 : decode cX6_fillBowlRows 115 = .ok (.aload_n 0, 1) := by decide +kernel
theorem dX6_fillBowlRows_116 : decode cX6_fillBowlRows 116 = .ok (.getfield 79, 3) := by decide +kernel
theorem dX6_fillBowlRows_119 : decode cX6_fillBowlRows 119 = .ok (.iconst 1, 1) := by decide +kernel
theorem dX6_fillBowlRows_120 : decode cX6_fillBowlRows 120 = .ok (.iadd, 1) := by decide +kernel
theorem dX6_fillBowlRows_121 : decode cX6_fillBowlRows 121 = .ok (.lconst 0, 1) := by decide +kernel
theorem dX6_fillBowlRows_122 : decode cX6_fillBowlRows 122 = .ok (.lastore, 1) := by decide +kernel
theorem dX6_fillBowlRows_123 : decode cX6_fillBowlRows 123 = .ok (.iinc 2 1, 3) := by decide +kernel
theorem dX6_fillBowlRows_126 : decode cX6_fillBowlRows 126 = .ok (.goto (-116), 3) := by decide +kernel
theorem dX6_fillBowlRows_129 : decode cX6_fillBowlRows 129 = .ok (.return_, 1) := by decide +kernel
theorem dX6_fillLineRows_0 : decode cX6_fillLineRows 0 = .ok (.aload_n 0, 1) := by decide +kernel
theorem dX6_fillLineRows_1 : decode cX6_fillLineRows 1 = .ok (.getfield 36, 3) := by decide +kernel
theorem dX6_fillLineRows_4 : decode cX6_fillLineRows 4 = .ok (.getfield 57, 3) := by decide +kernel
theorem dX6_fillLineRows_7 : decode cX6_fillLineRows 7 = .ok (.istore_n 1, 1) := by decide +kernel
theorem dX6_fillLineRows_8 : decode cX6_fillLineRows 8 = .ok (.iload_n 1, 1) := by decide +kernel
theorem dX6_fillLineRows_9 : decode cX6_fillLineRows 9 = .ok (.istore_n 2, 1) := by decide +kernel
theorem dX6_fillLineRows_10 : decode cX6_fillLineRows 10 = .ok (.iload_n 2, 1) := by decide +kernel
theorem dX6_fillLineRows_11 : decode cX6_fillLineRows 11 = .ok (.aload_n 0, 1) := by decide +kernel
theorem dX6_fillLineRows_12 : decode cX6_fillLineRows 12 = .ok (.getfield 79, 3) := by decide +kernel
theorem dX6_fillLineRows_15 : decode cX6_fillLineRows 15 = .ok (.if_icmp .ge 106, 3) := by decide +kernel
theorem dX6_fillLineRows_18 : decode cX6_fillLineRows 18 = .ok (.aload_n 0, 1) := by decide +kernel
theorem dX6_fillLineRows_19 : decode cX6_fillLineRows 19 = .ok (.getfield 30, 3) := by decide +kernel
theorem dX6_fillLineRows_22 : decode cX6_fillLineRows 22 = .ok (.iload_n 2, 1) := by decide +kernel
theorem dX6_fillLineRows_23 : decode cX6_fillLineRows 23 = .ok (.iload_n 1, 1) := by decide +kernel
theorem dX6_fillLineRows_24 : decode cX6_fillLineRows 24 = .ok (.isub, 1) := by decide +kernel
theorem dX6_fillLineRows_25 : decode cX6_fillLineRows 25 = .ok (.iaload, 1) := by decide +kernel
theorem dX6_fillLineRows_26 : decode cX6_fillLineRows 26 = .ok (.istore_n 3, 1) := by decide +kernel
theorem dX6_fillLineRows_27 : decode cX6_fillLineRows 27 = .ok (.aload_n 0, 1) := by decide +kernel
theorem dX6_fillLineRows_28 : decode cX6_fillLineRows 28 = .ok (.getfield 27, 3) := by decide +kernel
theorem dX6_fillLineRows_31 : decode cX6_fillLineRows 31 = .ok (.iload_n 2, 1) := by decide +kernel
theorem dX6_fillLineRows_32 : decode cX6_fillLineRows 32 = .ok (.aaload, 1) := by decide +kernel
theorem dX6_fillLineRows_33 : decode cX6_fillLineRows 33 = .ok (.lconst 0, 1) := by decide +kernel
theorem dX6_fillLineRows_34 : decode cX6_fillLineRows 34 = .ok (.invokestatic 92, 3) := by decide +kernel
theorem dX6_fillLineRows_37 : decode cX6_fillLineRows 37 = .ok (.iconst 0, 1) := by decide +kernel
theorem dX6_fillLineRows_38 : decode cX6_fillLineRows 38 = .ok (.istore 4, 2) := by decide +kernel
theorem dX6_fillLineRows_40 : decode cX6_fillLineRows 40 = .ok (.iload 4, 2) := by decide +kernel
theorem dX6_fillLineRows_42 : decode cX6_fillLineRows 42 = .ok (.iload_n 1, 1) := by decide +kernel
theorem dX6_fillLineRows_43 : decode cX6_fillLineRows 43 = .ok (.if_icmp .ge 29, 3) := by decide +kernel
theorem dX6_fillLineRows_46 : decode cX6_fillLineRows 46 = .ok (.aload_n 0, 1) := by decide +kernel
theorem dX6_fillLineRows_47 : decode cX6_fillLineRows 47 = .ok (.getfield 27, 3) := by decide +kernel
theorem dX6_fillLineRows_50 : decode cX6_fillLineRows 50 = .ok (.iload_n 2, 1) := by decide +kernel
theorem dX6_fillLineRows_51 : decode cX6_fillLineRows 51 = .ok (.aaload, 1) := by decide +kernel
theorem dX6_fillLineRows_52 : decode cX6_fillLineRows 52 = .ok (.iload 4, 2) := by decide +kernel
theorem dX6_fillLineRows_54 : decode cX6_fillLineRows 54 = .ok (.aload_n 0, 1) := by decide +kernel
theorem dX6_fillLineRows_55 : decode cX6_fillLineRows 55 = .ok (.getfield 36, 3) := by decide +kernel
theorem dX6_fillLineRows_58 : decode cX6_fillLineRows 58 = .ok (.iload_n 3, 1) := by decide +kernel
theorem dX6_fillLineRows_59 : decode cX6_fillLineRows 59 = .ok (.iload 4, 2) := by decide +kernel
theorem dX6_fillLineRows_61 : decode cX6_fillLineRows 61 = .ok (.invokevirtual 86, 3) := by decide +kernel
theorem dX6_fillLineRows_64 : decode cX6_fillLineRows 64 = .ok (.i2l, 1) := by decide +kernel
theorem dX6_fillLineRows_65 : decode cX6_fillLineRows 65 = .ok (.lastore, 1) := by decide +kernel
theorem dX6_fillLineRows_66 : decode cX6_fillLineRows 66 = .ok (.iinc 4 1, 3) := by decide +kernel
theorem dX6_fillLineRows_69 : decode cX6_fillLineRows 69 = .ok (.goto (-29), 3) := by decide +kernel
theorem dX6_fillLineRows_72 : decode cX6_fillLineRows 72 = .ok (.aload_n 0, 1) := by decide +kernel
theorem dX6_fillLineRows_73 : decode cX6_fillLineRows 73 = .ok (.getfield 27, 3) := by decide +kernel
theorem dX6_fillLineRows_76 : decode cX6_fillLineRows 76 = .ok (.iload_n 2, 1) := by decide +kernel
theorem dX6_fillLineRows_77 : decode cX6_fillLineRows 77 = .ok (.aaload, 1) := by decide +kernel
theorem dX6_fillLineRows_78 : decode cX6_fillLineRows 78 = .ok (.aload_n 0, 1) := by decide +kernel
theorem dX6_fillLineRows_79 : decode cX6_fillLineRows 79 = .ok (.getfield 79, 3) := by decide +kernel
theorem dX6_fillLineRows_82 : decode cX6_fillLineRows 82 = .ok (.aload_n 0, 1) := by decide +kernel
theorem dX6_fillLineRows_83 : decode cX6_fillLineRows 83 = .ok (.getfield 36, 3) := by decide +kernel
theorem dX6_fillLineRows_86 : decode cX6_fillLineRows 86 = .ok (.iload_n 3, 1) := by decide +kernel
theorem dX6_fillLineRows_87 : decode cX6_fillLineRows 87 = .ok (.iconst 0, 1) := by decide +kernel
theorem dX6_fillLineRows_88 : decode cX6_fillLineRows 88 = .ok (.invokevirtual 98, 3) := by decide +kernel
theorem dX6_fillLineRows_91 : decode cX6_fillLineRows 91 = .ok (.i2l, 1) := by decide +kernel
theorem dX6_fillLineRows_92 : decode cX6_fillLineRows 92 = .ok (.lastore, 1) := by decide +kernel
theorem dX6_fillLineRows_93 : decode cX6_fillLineRows 93 = .ok (.aload_n 0, 1) := by decide +kernel
theorem dX6_fillLineRows_94 : decode cX6_fillLineRows 94 = .ok (.getfield 27, 3) := by decide +kernel
theorem dX6_fillLineRows_97 : decode cX6_fillLineRows 97 = .ok (.iload_n 2, 1) := by decide +kernel
theorem dX6_fillLineRows_98 : decode cX6_fillLineRows 98 = .ok (.aaload, 1) := by decide +kernel
theorem dX6_fillLineRows_99 : decode cX6_fillLineRows 99 = .ok (.aload_n 0, 1) := by decide +kernel
theorem dX6_fillLineRows_100 : decode cX6_fillLineRows 100 = .ok (.getfield 79, 3) := by decide +kernel
theorem dX6_fillLineRows_103 : decode cX6_fillLineRows 103 = .ok (.iconst 1, 1) := by decide +kernel
theorem dX6_fillLineRows_104 : decode cX6_fillLineRows 104 = .ok (.iadd, 1) := by decide +kernel
theorem dX6_fillLineRows_105 : decode cX6_fillLineRows 105 = .ok (.aload_n 0, 1) := by decide +kernel
theorem dX6_fillLineRows_106 : decode cX6_fillLineRows 106 = .ok (.getfield 36, 3) := by decide +kernel
theorem dX6_fillLineRows_109 : decode cX6_fillLineRows 109 = .ok (.iload_n 3, 1) := by decide +kernel
theorem dX6_fillLineRows_110 : decode cX6_fillLineRows 110 = .ok (.invokevirtual 101, 3) := by decide +kernel
theorem dX6_fillLineRows_113 : decode cX6_fillLineRows 113 = .ok (.i2l, 1) := by decide +kernel
theorem dX6_fillLineRows_114 : decode cX6_fillLineRows 114 = .ok (.lastore, 1) := by decide +kernel
theorem dX6_fillLineRows_115 : decode cX6_fillLineRows 115 = .ok (.iinc 2 1, 3) := by decide +kernel
theorem dX6_fillLineRows_118 : decode cX6_fillLineRows 118 = .ok (.goto (-108), 3) := by decide +kernel
theorem dX6_fillLineRows_121 : decode cX6_fillLineRows 121 = .ok (.return_, 1) := by decide +kernel
theorem dX6_eliminate_0 : decode cX6_eliminate 0 = .ok (.lconst 1, 1) := by decide +kernel
theorem dX6_eliminate_1 : decode cX6_eliminate 1 = .ok (.lstore_n 1, 1) := by decide +kernel
theorem dX6_eliminate_2 : decode cX6_eliminate 2 = .ok (.iconst 0, 1) := by decide +kernel
theorem dX6_eliminate_3 : decode cX6_eliminate 3 = .ok (.istore_n 3, 1) := by decide +kernel
theorem dX6_eliminate_4 : decode cX6_eliminate 4 = .ok (.iload_n 3, 1) := by decide +kernel
theorem dX6_eliminate_5 : decode cX6_eliminate 5 = .ok (.aload_n 0, 1) := by decide +kernel
theorem dX6_eliminate_6 : decode cX6_eliminate 6 = .ok (.getfield 79, 3) := by decide +kernel
theorem dX6_eliminate_9 : decode cX6_eliminate 9 = .ok (.if_icmp .ge 74, 3) := by decide +kernel
theorem dX6_eliminate_12 : decode cX6_eliminate 12 = .ok (.aload_n 0, 1) := by decide +kernel
theorem dX6_eliminate_13 : decode cX6_eliminate 13 = .ok (.getfield 27, 3) := by decide +kernel
theorem dX6_eliminate_16 : decode cX6_eliminate 16 = .ok (.iload_n 3, 1) := by decide +kernel
theorem dX6_eliminate_17 : decode cX6_eliminate 17 = .ok (.aaload, 1) := by decide +kernel
theorem dX6_eliminate_18 : decode cX6_eliminate 18 = .ok (.iload_n 3, 1) := by decide +kernel
theorem dX6_eliminate_19 : decode cX6_eliminate 19 = .ok (.laload, 1) := by decide +kernel
theorem dX6_eliminate_20 : decode cX6_eliminate 20 = .ok (.lstore 4, 2) := by decide +kernel
theorem dX6_eliminate_22 : decode cX6_eliminate 22 = .ok (.lload 4, 2) := by decide +kernel
theorem dX6_eliminate_24 : decode cX6_eliminate 24 = .ok (.lconst 0, 1) := by decide +kernel
theorem dX6_eliminate_25 : decode cX6_eliminate 25 = .ok (.lcmp, 1) := by decide +kernel
theorem dX6_eliminate_26 : decode cX6_eliminate 26 = .ok (.ifCond .ne 5, 3) := by decide +kernel
theorem dX6_eliminate_29 : decode cX6_eliminate 29 = .ok (.iconst 0, 1) := by decide +kernel
theorem dX6_eliminate_30 : decode cX6_eliminate 30 = .ok (.ireturn, 1) := by decide +kernel
theorem dX6_eliminate_31 : decode cX6_eliminate 31 = .ok (.iconst 0, 1) := by decide +kernel
theorem dX6_eliminate_32 : decode cX6_eliminate 32 = .ok (.istore 6, 2) := by decide +kernel
theorem dX6_eliminate_34 : decode cX6_eliminate 34 = .ok (.iload 6, 2) := by decide +kernel
theorem dX6_eliminate_36 : decode cX6_eliminate 36 = .ok (.aload_n 0, 1) := by decide +kernel
theorem dX6_eliminate_37 : decode cX6_eliminate 37 = .ok (.getfield 79, 3) := by decide +kernel
theorem dX6_eliminate_40 : decode cX6_eliminate 40 = .ok (.if_icmp .ge 34, 3) := by decide +kernel
theorem dX6_eliminate_43 : decode cX6_eliminate 43 = .ok (.iload 6, 2) := by decide +kernel
theorem dX6_eliminate_45 : decode cX6_eliminate 45 = .ok (.iload_n 3, 1) := by decide +kernel
theorem dX6_eliminate_46 : decode cX6_eliminate 46 = .ok (.if_icmp .eq 22, 3) := by decide +kernel
theorem dX6_eliminate_49 : decode cX6_eliminate 49 = .ok (.aload_n 0, 1) := by decide +kernel
theorem dX6_eliminate_50 : decode cX6_eliminate 50 = .ok (.aload_n 0, 1) := by decide +kernel
theorem dX6_eliminate_51 : decode cX6_eliminate 51 = .ok (.getfield 27, 3) := by decide +kernel
theorem dX6_eliminate_54 : decode cX6_eliminate 54 = .ok (.iload 6, 2) := by decide +kernel
theorem dX6_eliminate_56 : decode cX6_eliminate 56 = .ok (.aaload, 1) := by decide +kernel
theorem dX6_eliminate_57 : decode cX6_eliminate 57 = .ok (.aload_n 0, 1) := by decide +kernel
theorem dX6_eliminate_58 : decode cX6_eliminate 58 = .ok (.getfield 27, 3) := by decide +kernel
theorem dX6_eliminate_61 : decode cX6_eliminate 61 = .ok (.iload_n 3, 1) := by decide +kernel
theorem dX6_eliminate_62 : decode cX6_eliminate 62 = .ok (.aaload, 1) := by decide +kernel
theorem dX6_eliminate_63 : decode cX6_eliminate 63 = .ok (.iload_n 3, 1) := by decide +kernel
theorem dX6_eliminate_64 : decode cX6_eliminate 64 = .ok (.lload_n 1, 1) := by decide +kernel
theorem dX6_eliminate_65 : decode cX6_eliminate 65 = .ok (.invokevirtual 104, 3) := by decide +kernel
theorem dX6_eliminate_68 : decode cX6_eliminate 68 = .ok (.iinc 6 1, 3) := by decide +kernel
theorem dX6_eliminate_71 : decode cX6_eliminate 71 = .ok (.goto (-37), 3) := by decide +kernel
theorem dX6_eliminate_74 : decode cX6_eliminate 74 = .ok (.lload 4, 2) := by decide +kernel
theorem dX6_eliminate_76 : decode cX6_eliminate 76 = .ok (.lstore_n 1, 1) := by decide +kernel
theorem dX6_eliminate_77 : decode cX6_eliminate 77 = .ok (.iinc 3 1, 3) := by decide +kernel
theorem dX6_eliminate_80 : decode cX6_eliminate 80 = .ok (.goto (-76), 3) := by decide +kernel
theorem dX6_eliminate_83 : decode cX6_eliminate 83 = .ok (.aload_n 0, 1) := by decide +kernel
theorem dX6_eliminate_84 : decode cX6_eliminate 84 = .ok (.lload_n 1, 1) := by decide +kernel
theorem dX6_eliminate_85 : decode cX6_eliminate 85 = .ok (.putfield 108, 3) := by decide +kernel
theorem dX6_eliminate_88 : decode cX6_eliminate 88 = .ok (.iconst 1, 1) := by decide +kernel
theorem dX6_eliminate_89 : decode cX6_eliminate 89 = .ok (.ireturn, 1) := by decide +kernel
theorem dX6_clearRow_0 : decode cX6_clearRow 0 = .ok (.aload_n 2, 1) := by decide +kernel
theorem dX6_clearRow_1 : decode cX6_clearRow 1 = .ok (.iload_n 3, 1) := by decide +kernel
theorem dX6_clearRow_2 : decode cX6_clearRow 2 = .ok (.laload, 1) := by decide +kernel
theorem dX6_clearRow_3 : decode cX6_clearRow 3 = .ok (.lstore 6, 2) := by decide +kernel
theorem dX6_clearRow_5 : decode cX6_clearRow 5 = .ok (.aload_n 1, 1) := by decide +kernel
theorem dX6_clearRow_6 : decode cX6_clearRow 6 = .ok (.iload_n 3, 1) := by decide +kernel
theorem dX6_clearRow_7 : decode cX6_clearRow 7 = .ok (.laload, 1) := by decide +kernel
theorem dX6_clearRow_8 : decode cX6_clearRow 8 = .ok (.lstore 8, 2) := by decide +kernel
theorem dX6_clearRow_10 : decode cX6_clearRow 10 = .ok (.iload_n 3, 1) := by decide +kernel
theorem dX6_clearRow_11 : decode cX6_clearRow 11 = .ok (.iconst 1, 1) := by decide +kernel
theorem dX6_clearRow_12 : decode cX6_clearRow 12 = .ok (.iadd, 1) := by decide +kernel
theorem dX6_clearRow_13 : decode cX6_clearRow 13 = .ok (.istore 10, 2) := by decide +kernel
theorem dX6_clearRow_15 : decode cX6_clearRow 15 = .ok (.iload 10, 2) := by decide +kernel
theorem dX6_clearRow_17 : decode cX6_clearRow 17 = .ok (.aload_n 0, 1) := by decide +kernel
theorem dX6_clearRow_18 : decode cX6_clearRow 18 = .ok (.getfield 79, 3) := by decide +kernel
theorem dX6_clearRow_21 : decode cX6_clearRow 21 = .ok (.iconst 2, 1) := by decide +kernel
theorem dX6_clearRow_22 : decode cX6_clearRow 22 = .ok (.iadd, 1) := by decide +kernel
theorem dX6_clearRow_23 : decode cX6_clearRow 23 = .ok (.if_icmp .ge 38, 3) := by decide +kernel
theorem dX6_clearRow_26 : decode cX6_clearRow 26 = .ok (.lload 4, 2) := by decide +kernel
theorem dX6_clearRow_28 : decode cX6_clearRow 28 = .ok (.lconst 0, 1) := by decide +kernel
theorem dX6_clearRow_29 : decode cX6_clearRow 29 = .ok (.lcmp, 1) := by decide +kernel
theorem dX6_clearRow_30 : decode cX6_clearRow 30 = .ok (.ifCond .eq 31, 3) := by decide +kernel
theorem dX6_clearRow_33 : decode cX6_clearRow 33 = .ok (.aload_n 1, 1) := by decide +kernel
theorem dX6_clearRow_34 : decode cX6_clearRow 34 = .ok (.iload 10, 2) := by decide +kernel
theorem dX6_clearRow_36 : decode cX6_clearRow 36 = .ok (.lload 6, 2) := by decide +kernel
theorem dX6_clearRow_38 : decode cX6_clearRow 38 = .ok (.aload_n 1, 1) := by decide +kernel
theorem dX6_clearRow_39 : decode cX6_clearRow 39 = .ok (.iload 10, 2) := by decide +kernel
theorem dX6_clearRow_41 : decode cX6_clearRow 41 = .ok (.laload, 1) := by decide +kernel
theorem dX6_clearRow_42 : decode cX6_clearRow 42 = .ok (.lmul, 1) := by decide +kernel
theorem dX6_clearRow_43 : decode cX6_clearRow 43 = .ok (.lload 8, 2) := by decide +kernel
theorem dX6_clearRow_45 : decode cX6_clearRow 45 = .ok (.aload_n 2, 1) := by decide +kernel
theorem dX6_clearRow_46 : decode cX6_clearRow 46 = .ok (.iload 10, 2) := by decide +kernel
theorem dX6_clearRow_48 : decode cX6_clearRow 48 = .ok (.laload, 1) := by decide +kernel
theorem dX6_clearRow_49 : decode cX6_clearRow 49 = .ok (.lmul, 1) := by decide +kernel
theorem dX6_clearRow_50 : decode cX6_clearRow 50 = .ok (.lsub, 1) := by decide +kernel
theorem dX6_clearRow_51 : decode cX6_clearRow 51 = .ok (.lload 4, 2) := by decide +kernel
theorem dX6_clearRow_53 : decode cX6_clearRow 53 = .ok (.ldiv, 1) := by decide +kernel
theorem dX6_clearRow_54 : decode cX6_clearRow 54 = .ok (.lastore, 1) := by decide +kernel
theorem dX6_clearRow_55 : decode cX6_clearRow 55 = .ok (.iinc 10 1, 3) := by decide +kernel
theorem dX6_clearRow_58 : decode cX6_clearRow 58 = .ok (.goto (-43), 3) := by decide +kernel
theorem dX6_clearRow_61 : decode cX6_clearRow 61 = .ok (.return_, 1) := by decide +kernel
theorem dX6_layAt_0 : decode cX6_layAt 0 = .ok (.aload_n 0, 1) := by decide +kernel
theorem dX6_layAt_1 : decode cX6_layAt 1 = .ok (.iload_n 1, 1) := by decide +kernel
theorem dX6_layAt_2 : decode cX6_layAt 2 = .ok (.putfield 112, 3) := by decide +kernel
theorem dX6_layAt_5 : decode cX6_layAt 5 = .ok (.aload_n 0, 1) := by decide +kernel
theorem dX6_layAt_6 : decode cX6_layAt 6 = .ok (.getfield 108, 3) := by decide +kernel
theorem dX6_layAt_9 : decode cX6_layAt 9 = .ok (.lconst 0, 1) := by decide +kernel
theorem dX6_layAt_10 : decode cX6_layAt 10 = .ok (.lcmp, 1) := by decide +kernel
theorem dX6_layAt_11 : decode cX6_layAt 11 = .ok (.ifCond .ge 7, 3) := by decide +kernel
theorem dX6_layAt_14 : decode cX6_layAt 14 = .ok (.iconst (-1), 1) := by decide +kernel
theorem dX6_layAt_15 : decode cX6_layAt 15 = .ok (.goto 4, 3) := by decide +kernel
theorem dX6_layAt_18 : decode cX6_layAt 18 = .ok (.iconst 1, 1) := by decide +kernel
theorem dX6_layAt_19 : decode cX6_layAt 19 = .ok (.istore_n 2, 1) := by decide +kernel
theorem dX6_layAt_20 : decode cX6_layAt 20 = .ok (.aload_n 0, 1) := by decide +kernel
theorem dX6_layAt_21 : decode cX6_layAt 21 = .ok (.getfield 12, 3) := by decide +kernel
theorem dX6_layAt_24 : decode cX6_layAt 24 = .ok (.iload_n 2, 1) := by decide +kernel
theorem dX6_layAt_25 : decode cX6_layAt 25 = .ok (.i2l, 1) := by decide +kernel
theorem dX6_layAt_26 : decode cX6_layAt 26 = .ok (.aload_n 0, 1) := by decide +kernel
theorem dX6_layAt_27 : decode cX6_layAt 27 = .ok (.getfield 108, 3) := by decide +kernel
theorem dX6_layAt_30 : decode cX6_layAt 30 = .ok (.lmul, 1) := by decide +kernel
theorem dX6_layAt_31 : decode cX6_layAt 31 = .ok (.putfield 115, 3) := by decide +kernel
theorem dX6_layAt_34 : decode cX6_layAt 34 = .ok (.aload_n 0, 1) := by decide +kernel
theorem dX6_layAt_35 : decode cX6_layAt 35 = .ok (.getfield 18, 3) := by decide +kernel
theorem dX6_layAt_38 : decode cX6_layAt 38 = .ok (.aload_n 0, 1) := by decide +kernel
theorem dX6_layAt_39 : decode cX6_layAt 39 = .ok (.getfield 12, 3) := by decide +kernel
theorem dX6_layAt_42 : decode cX6_layAt 42 = .ok (.getfield 115, 3) := by decide +kernel
theorem dX6_layAt_45 : decode cX6_layAt 45 = .ok (.putfield 115, 3) := by decide +kernel
theorem dX6_layAt_48 : decode cX6_layAt 48 = .ok (.aload_n 0, 1) := by decide +kernel
theorem dX6_layAt_49 : decode cX6_layAt 49 = .ok (.getfield 12, 3) := by decide +kernel
theorem dX6_layAt_52 : decode cX6_layAt 52 = .ok (.getfield 116, 3) := by decide +kernel
theorem dX6_layAt_55 : decode cX6_layAt 55 = .ok (.lconst 0, 1) := by decide +kernel
theorem dX6_layAt_56 : decode cX6_layAt 56 = .ok (.invokestatic 92, 3) := by decide +kernel
theorem dX6_layAt_59 : decode cX6_layAt 59 = .ok (.aload_n 0, 1) := by decide +kernel
theorem dX6_layAt_60 : decode cX6_layAt 60 = .ok (.getfield 18, 3) := by decide +kernel
theorem dX6_layAt_63 : decode cX6_layAt 63 = .ok (.getfield 116, 3) := by decide +kernel
theorem dX6_layAt_66 : decode cX6_layAt 66 = .ok (.lconst 0, 1) := by decide +kernel
theorem dX6_layAt_67 : decode cX6_layAt 67 = .ok (.invokestatic 92, 3) := by decide +kernel
theorem dX6_layAt_70 : decode cX6_layAt 70 = .ok (.aload_n 0, 1) := by decide +kernel
theorem dX6_layAt_71 : decode cX6_layAt 71 = .ok (.getfield 36, 3) := by decide +kernel
theorem dX6_layAt_74 : decode cX6_layAt 74 = .ok (.getfield 57, 3) := by decide +kernel
theorem dX6_layAt_77 : decode cX6_layAt 77 = .ok (.istore_n 3, 1) := by decide +kernel
theorem dX6_layAt_78 : decode cX6_layAt 78 = .ok (.iconst 0, 1) := by decide +kernel
theorem dX6_layAt_79 : decode cX6_layAt 79 = .ok (.istore 4, 2) := by decide +kernel
theorem dX6_layAt_81 : decode cX6_layAt 81 = .ok (.iload 4, 2) := by decide +kernel
theorem dX6_layAt_83 : decode cX6_layAt 83 = .ok (.aload_n 0, 1) := by decide +kernel
theorem dX6_layAt_84 : decode cX6_layAt 84 = .ok (.getfield 79, 3) := by decide +kernel
theorem dX6_layAt_87 : decode cX6_layAt 87 = .ok (.if_icmp .ge 122, 3) := by decide +kernel
theorem dX6_layAt_90 : decode cX6_layAt 90 = .ok (.iload_n 2, 1) := by decide +kernel
theorem dX6_layAt_91 : decode cX6_layAt 91 = .ok (.i2l, 1) := by decide +kernel
theorem dX6_layAt_92 : decode cX6_layAt 92 = .ok (.aload_n 0, 1) := by decide +kernel
theorem dX6_layAt_93 : decode cX6_layAt 93 = .ok (.getfield 27, 3) := by decide +kernel
theorem dX6_layAt_96 : decode cX6_layAt 96 = .ok (.iload 4, 2) := by decide +kernel
theorem dX6_layAt_98 : decode cX6_layAt 98 = .ok (.aaload, 1) := by decide +kernel
theorem dX6_layAt_99 : decode cX6_layAt 99 = .ok (.aload_n 0, 1) := by decide +kernel
theorem dX6_layAt_100 : decode cX6_layAt 100 = .ok (.getfield 79, 3) := by decide +kernel
theorem dX6_layAt_103 : decode cX6_layAt 103 = .ok (.iconst 1, 1) := by decide +kernel
theorem dX6_layAt_104 : decode cX6_layAt 104 = .ok (.iadd, 1) := by decide +kernel
theorem dX6_layAt_105 : decode cX6_layAt 105 = .ok (.laload, 1) := by decide +kernel
theorem dX6_layAt_106 : decode cX6_layAt 106 = .ok (.lmul, 1) := by decide +kernel
theorem dX6_layAt_107 : decode cX6_layAt 107 = .ok (.lstore 5, 2) := by decide +kernel
theorem dX6_layAt_109 : decode cX6_layAt 109 = .ok (.iload_n 2, 1) := by decide +kernel
theorem dX6_layAt_110 : decode cX6_layAt 110 = .ok (.i2l, 1) := by decide +kernel
theorem dX6_layAt_111 : decode cX6_layAt 111 = .ok (.aload_n 0, 1) := by decide +kernel
theorem dX6_layAt_112 : decode cX6_layAt 112 = .ok (.getfield 27, 3) := by decide +kernel
theorem dX6_layAt_115 : decode cX6_layAt 115 = .ok (.iload 4, 2) := by decide +kernel
theorem dX6_layAt_117 : decode cX6_layAt 117 = .ok (.aaload, 1) := by decide +kernel
theorem dX6_layAt_118 : decode cX6_layAt 118 = .ok (.aload_n 0, 1) := by decide +kernel
theorem dX6_layAt_119 : decode cX6_layAt 119 = .ok (.getfield 79, 3) := by decide +kernel
theorem dX6_layAt_122 : decode cX6_layAt 122 = .ok (.laload, 1) := by decide +kernel
theorem dX6_layAt_123 : decode cX6_layAt 123 = .ok (.lmul, 1) := by decide +kernel
theorem dX6_layAt_124 : decode cX6_layAt 124 = .ok (.iload_n 1, 1) := by decide +kernel
theorem dX6_layAt_125 : decode cX6_layAt 125 = .ok (.i2l, 1) := by decide +kernel
theorem dX6_layAt_126 : decode cX6_layAt 126 = .ok (.lload 5, 2) := by decide +kernel
theorem dX6_layAt_128 : decode cX6_layAt 128 = .ok (.lmul, 1) := by decide +kernel
theorem dX6_layAt_129 : decode cX6_layAt 129 = .ok (.ladd, 1) := by decide +kernel
theorem dX6_layAt_130 : decode cX6_layAt 130 = .ok (.lstore 7, 2) := by decide +kernel
theorem dX6_layAt_132 : decode cX6_layAt 132 = .ok (.iload 4, 2) := by decide +kernel
theorem dX6_layAt_134 : decode cX6_layAt 134 = .ok (.iload_n 3, 1) := by decide +kernel
theorem dX6_layAt_135 : decode cX6_layAt 135 = .ok (.if_icmp .ge 30, 3) := by decide +kernel
theorem dX6_layAt_138 : decode cX6_layAt 138 = .ok (.aload_n 0, 1) := by decide +kernel
theorem dX6_layAt_139 : decode cX6_layAt 139 = .ok (.getfield 12, 3) := by decide +kernel
theorem dX6_layAt_142 : decode cX6_layAt 142 = .ok (.getfield 120, 3) := by decide +kernel
theorem dX6_layAt_145 : decode cX6_layAt 145 = .ok (.iload 4, 2) := by decide +kernel
theorem dX6_layAt_147 : decode cX6_layAt 147 = .ok (.lload 7, 2) := by decide +kernel
theorem dX6_layAt_149 : decode cX6_layAt 149 = .ok (.lastore, 1) := by decide +kernel
theorem dX6_layAt_150 : decode cX6_layAt 150 = .ok (.aload_n 0, 1) := by decide +kernel
theorem dX6_layAt_151 : decode cX6_layAt 151 = .ok (.getfield 18, 3) := by decide +kernel
theorem dX6_layAt_154 : decode cX6_layAt 154 = .ok (.getfield 120, 3) := by decide +kernel
theorem dX6_layAt_157 : decode cX6_layAt 157 = .ok (.iload 4, 2) := by decide +kernel
theorem dX6_layAt_159 : decode cX6_layAt 159 = .ok (.lload 5, 2) := by decide +kernel
theorem dX6_layAt_161 : decode cX6_layAt 161 = .ok (.lastore, 1) := by decide +kernel
theorem dX6_layAt_162 : decode cX6_layAt 162 = .ok (.goto 41, 3) := by decide +kernel
theorem dX6_layAt_165 : decode cX6_layAt 165 = .ok (.aload_n 0, 1) := by decide +kernel
theorem dX6_layAt_166 : decode cX6_layAt 166 = .ok (.getfield 12, 3) := by decide +kernel
theorem dX6_layAt_169 : decode cX6_layAt 169 = .ok (.getfield 116, 3) := by decide +kernel
theorem dX6_layAt_172 : decode cX6_layAt 172 = .ok (.aload_n 0, 1) := by decide +kernel
theorem dX6_layAt_173 : decode cX6_layAt 173 = .ok (.getfield 30, 3) := by decide +kernel
theorem dX6_layAt_176 : decode cX6_layAt 176 = .ok (.iload 4, 2) := by decide +kernel
theorem dX6_layAt_178 : decode cX6_layAt 178 = .ok (.iload_n 3, 1) := by decide +kernel
theorem dX6_layAt_179 : decode cX6_layAt 179 = .ok (.isub, 1) := by decide +kernel
theorem dX6_layAt_180 : decode cX6_layAt 180 = .ok (.iaload, 1) := by decide +kernel
theorem dX6_layAt_181 : decode cX6_layAt 181 = .ok (.lload 7, 2) := by decide +kernel
theorem dX6_layAt_183 : decode cX6_layAt 183 = .ok (.lastore, 1) := by decide +kernel
theorem dX6_layAt_184 : decode cX6_layAt 184 = .ok (.aload_n 0, 1) := by decide +kernel
theorem dX6_layAt_185 : decode cX6_layAt 185 = .ok (.getfield 18, 3) := by decide +kernel
theorem dX6_layAt_188 : decode cX6_layAt 188 = .ok (.getfield 116, 3) := by decide +kernel
theorem dX6_layAt_191 : decode cX6_layAt 191 = .ok (.aload_n 0, 1) := by decide +kernel
theorem dX6_layAt_192 : decode cX6_layAt 192 = .ok (.getfield 30, 3) := by decide +kernel
theorem dX6_layAt_195 : decode cX6_layAt 195 = .ok (.iload 4, 2) := by decide +kernel
theorem dX6_layAt_197 : decode cX6_layAt 197 = .ok (.iload_n 3, 1) := by decide +kernel
theorem dX6_layAt_198 : decode cX6_layAt 198 = .ok (.isub, 1) := by decide +kernel
theorem dX6_layAt_199 : decode cX6_layAt 199 = .ok (.iaload, 1) := by decide +kernel
theorem dX6_layAt_200 : decode cX6_layAt 200 = .ok (.lload 5, 2) := by decide +kernel
theorem dX6_layAt_202 : decode cX6_layAt 202 = .ok (.lastore, 1) := by decide +kernel
theorem dX6_layAt_203 : decode cX6_layAt 203 = .ok (.iinc 4 1, 3) := by decide +kernel
theorem dX6_layAt_206 : decode cX6_layAt 206 = .ok (.goto (-125), 3) := by decide +kernel
theorem dX6_layAt_209 : decode cX6_layAt 209 = .ok (.return_, 1) := by decide +kernel
theorem dX6_fits_0 : decode cX6_fits 0 = .ok (.iconst 0, 1) := by decide +kernel
theorem dX6_fits_1 : decode cX6_fits 1 = .ok (.istore_n 2, 1) := by decide +kernel
theorem dX6_fits_2 : decode cX6_fits 2 = .ok (.iload_n 2, 1) := by decide +kernel
theorem dX6_fits_3 : decode cX6_fits 3 = .ok (.aload_n 0, 1) := by decide +kernel
theorem dX6_fits_4 : decode cX6_fits 4 = .ok (.getfield 36, 3) := by decide +kernel
theorem dX6_fits_7 : decode cX6_fits 7 = .ok (.getfield 76, 3) := by decide +kernel
theorem dX6_fits_10 : decode cX6_fits 10 = .ok (.if_icmp .ge 62, 3) := by decide +kernel
theorem dX6_fits_13 : decode cX6_fits 13 = .ok (.aload_n 0, 1) := by decide +kernel
theorem dX6_fits_14 : decode cX6_fits 14 = .ok (.getfield 12, 3) := by decide +kernel
theorem dX6_fits_17 : decode cX6_fits 17 = .ok (.getfield 116, 3) := by decide +kernel
theorem dX6_fits_20 : decode cX6_fits 20 = .ok (.iload_n 2, 1) := by decide +kernel
theorem dX6_fits_21 : decode cX6_fits 21 = .ok (.laload, 1) := by decide +kernel
theorem dX6_fits_22 : decode cX6_fits 22 = .ok (.lconst 0, 1) := by decide +kernel
theorem dX6_fits_23 : decode cX6_fits 23 = .ok (.lcmp, 1) := by decide +kernel
theorem dX6_fits_24 : decode cX6_fits 24 = .ok (.ifCond .ge 16, 3) := by decide +kernel
theorem dX6_fits_27 : decode cX6_fits 27 = .ok (.aload_n 0, 1) := by decide +kernel
theorem dX6_fits_28 : decode cX6_fits 28 = .ok (.getfield 36, 3) := by decide +kernel
theorem dX6_fits_31 : decode cX6_fits 31 = .ok (.iload_n 2, 1) := by decide +kernel
theorem dX6_fits_32 : decode cX6_fits 32 = .ok (.invokevirtual 123, 3) := by decide +kernel
theorem dX6_fits_35 : decode cX6_fits 35 = .ok (.ifCond .ne 5, 3) := by decide +kernel
theorem dX6_fits_38 : decode cX6_fits 38 = .ok (.iconst 0, 1) := by decide +kernel
theorem dX6_fits_39 : decode cX6_fits 39 = .ok (.ireturn, 1) := by decide +kernel
theorem dX6_fits_40 : decode cX6_fits 40 = .ok (.iload_n 1, 1) := by decide +kernel
theorem dX6_fits_41 : decode cX6_fits 41 = .ok (.iload_n 2, 1) := by decide +kernel
theorem dX6_fits_42 : decode cX6_fits 42 = .ok (.ishr, 1) := by decide +kernel
theorem dX6_fits_43 : decode cX6_fits 43 = .ok (.iconst 1, 1) := by decide +kernel
theorem dX6_fits_44 : decode cX6_fits 44 = .ok (.iand, 1) := by decide +kernel
theorem dX6_fits_45 : decode cX6_fits 45 = .ok (.ifCond .eq 21, 3) := by decide +kernel
theorem dX6_fits_48 : decode cX6_fits 48 = .ok (.aload_n 0, 1) := by decide +kernel
theorem dX6_fits_49 : decode cX6_fits 49 = .ok (.getfield 36, 3) := by decide +kernel
theorem dX6_fits_52 : decode cX6_fits 52 = .ok (.iload_n 2, 1) := by decide +kernel
theorem dX6_fits_53 : decode cX6_fits 53 = .ok (.aload_n 0, 1) := by decide +kernel
theorem dX6_fits_54 : decode cX6_fits 54 = .ok (.iload_n 2, 1) := by decide +kernel
theorem dX6_fits_55 : decode cX6_fits 55 = .ok (.invokevirtual 126, 3) := by decide +kernel
theorem dX6_fits_58 : decode cX6_fits 58 = .ok (.invokevirtual 130, 3) := by decide +kernel
theorem dX6_fits_61 : decode cX6_fits 61 = .ok (.ifCond .ne 5, 3) := by decide +kernel
theorem dX6_fits_64 : decode cX6_fits 64 = .ok (.iconst 0, 1) := by decide +kernel
theorem dX6_fits_65 : decode cX6_fits 65 = .ok (.ireturn, 1) := by decide +kernel
theorem dX6_fits_66 : decode cX6_fits 66 = .ok (.iinc 2 1, 3) := by decide +kernel
theorem dX6_fits_69 : decode cX6_fits 69 = .ok (.goto (-67), 3) := by decide +kernel
theorem dX6_fits_72 : decode cX6_fits 72 = .ok (.iconst 1, 1) := by decide +kernel
theorem dX6_fits_73 : decode cX6_fits 73 = .ok (.ireturn, 1) := by decide +kernel
theorem dX6_slackOf_0 : decode cX6_slackOf 0 = .ok (.aload_n 0, 1) := by decide +kernel
theorem dX6_slackOf_1 : decode cX6_slackOf 1 = .ok (.getfield 36, 3) := by decide +kernel
theorem dX6_slackOf_4 : decode cX6_slackOf 4 = .ok (.aload_n 0, 1) := by decide +kernel
theorem dX6_slackOf_5 : decode cX6_slackOf 5 = .ok (.getfield 36, 3) := by decide +kernel
theorem dX6_slackOf_8 : decode cX6_slackOf 8 = .ok (.iload_n 1, 1) := by decide +kernel
theorem dX6_slackOf_9 : decode cX6_slackOf 9 = .ok (.aload_n 0, 1) := by decide +kernel
theorem dX6_slackOf_10 : decode cX6_slackOf 10 = .ok (.getfield 112, 3) := by decide +kernel
theorem dX6_slackOf_13 : decode cX6_slackOf 13 = .ok (.invokevirtual 98, 3) := by decide +kernel
theorem dX6_slackOf_16 : decode cX6_slackOf 16 = .ok (.iload_n 1, 1) := by decide +kernel
theorem dX6_slackOf_17 : decode cX6_slackOf 17 = .ok (.aload_n 0, 1) := by decide +kernel
theorem dX6_slackOf_18 : decode cX6_slackOf 18 = .ok (.getfield 12, 3) := by decide +kernel
theorem dX6_slackOf_21 : decode cX6_slackOf 21 = .ok (.invokevirtual 134, 3) := by decide +kernel
theorem dX6_slackOf_24 : decode cX6_slackOf 24 = .ok (.lreturn, 1) := by decide +kernel
theorem dX6_heldLines_0 : decode cX6_heldLines 0 = .ok (.iconst 0, 1) := by decide +kernel
theorem dX6_heldLines_1 : decode cX6_heldLines 1 = .ok (.istore_n 1, 1) := by decide +kernel
theorem dX6_heldLines_2 : decode cX6_heldLines 2 = .ok (.iconst 0, 1) := by decide +kernel
theorem dX6_heldLines_3 : decode cX6_heldLines 3 = .ok (.istore_n 2, 1) := by decide +kernel
theorem dX6_heldLines_4 : decode cX6_heldLines 4 = .ok (.iload_n 2, 1) := by decide +kernel
theorem dX6_heldLines_5 : decode cX6_heldLines 5 = .ok (.aload_n 0, 1) := by decide +kernel
theorem dX6_heldLines_6 : decode cX6_heldLines 6 = .ok (.getfield 36, 3) := by decide +kernel
theorem dX6_heldLines_9 : decode cX6_heldLines 9 = .ok (.getfield 76, 3) := by decide +kernel
theorem dX6_heldLines_12 : decode cX6_heldLines 12 = .ok (.if_icmp .ge 35, 3) := by decide +kernel
theorem dX6_heldLines_15 : decode cX6_heldLines 15 = .ok (.iload_n 1, 1) := by decide +kernel
theorem dX6_heldLines_16 : decode cX6_heldLines 16 = .ok (.aload_n 0, 1) := by decide +kernel
theorem dX6_heldLines_17 : decode cX6_heldLines 17 = .ok (.getfield 36, 3) := by decide +kernel
theorem dX6_heldLines_20 : decode cX6_heldLines 20 = .ok (.iload_n 2, 1) := by decide +kernel
theorem dX6_heldLines_21 : decode cX6_heldLines 21 = .ok (.aload_n 0, 1) := by decide +kernel
theorem dX6_heldLines_22 : decode cX6_heldLines 22 = .ok (.iload_n 2, 1) := by decide +kernel
theorem dX6_heldLines_23 : decode cX6_heldLines 23 = .ok (.invokevirtual 126, 3) := by decide +kernel
theorem dX6_heldLines_26 : decode cX6_heldLines 26 = .ok (.invokevirtual 130, 3) := by decide +kernel
theorem dX6_heldLines_29 : decode cX6_heldLines 29 = .ok (.ifCond .eq 9, 3) := by decide +kernel
theorem dX6_heldLines_32 : decode cX6_heldLines 32 = .ok (.iconst 1, 1) := by decide +kernel
theorem dX6_heldLines_33 : decode cX6_heldLines 33 = .ok (.iload_n 2, 1) := by decide +kernel
theorem dX6_heldLines_34 : decode cX6_heldLines 34 = .ok (.ishl, 1) := by decide +kernel
theorem dX6_heldLines_35 : decode cX6_heldLines 35 = .ok (.goto 4, 3) := by decide +kernel
theorem dX6_heldLines_38 : decode cX6_heldLines 38 = .ok (.iconst 0, 1) := by decide +kernel
theorem dX6_heldLines_39 : decode cX6_heldLines 39 = .ok (.ior, 1) := by decide +kernel
theorem dX6_heldLines_40 : decode cX6_heldLines 40 = .ok (.istore_n 1, 1) := by decide +kernel
theorem dX6_heldLines_41 : decode cX6_heldLines 41 = .ok (.iinc 2 1, 3) := by decide +kernel
theorem dX6_heldLines_44 : decode cX6_heldLines 44 = .ok (.goto (-40), 3) := by decide +kernel
theorem dX6_heldLines_47 : decode cX6_heldLines 47 = .ok (.iload_n 1, 1) := by decide +kernel
theorem dX6_heldLines_48 : decode cX6_heldLines 48 = .ok (.ireturn, 1) := by decide +kernel
theorem dX6_tightLines_0 : decode cX6_tightLines 0 = .ok (.iconst 0, 1) := by decide +kernel
theorem dX6_tightLines_1 : decode cX6_tightLines 1 = .ok (.istore_n 1, 1) := by decide +kernel
theorem dX6_tightLines_2 : decode cX6_tightLines 2 = .ok (.iconst 0, 1) := by decide +kernel
theorem dX6_tightLines_3 : decode cX6_tightLines 3 = .ok (.istore_n 2, 1) := by decide +kernel
theorem dX6_tightLines_4 : decode cX6_tightLines 4 = .ok (.iload_n 2, 1) := by decide +kernel
theorem dX6_tightLines_5 : decode cX6_tightLines 5 = .ok (.aload_n 0, 1) := by decide +kernel
theorem dX6_tightLines_6 : decode cX6_tightLines 6 = .ok (.getfield 36, 3) := by decide +kernel
theorem dX6_tightLines_9 : decode cX6_tightLines 9 = .ok (.getfield 76, 3) := by decide +kernel
theorem dX6_tightLines_12 : decode cX6_tightLines 12 = .ok (.if_icmp .ge 29, 3) := by decide +kernel
theorem dX6_tightLines_15 : decode cX6_tightLines 15 = .ok (.iload_n 1, 1) := by decide +kernel
theorem dX6_tightLines_16 : decode cX6_tightLines 16 = .ok (.aload_n 0, 1) := by decide +kernel
theorem dX6_tightLines_17 : decode cX6_tightLines 17 = .ok (.iload_n 2, 1) := by decide +kernel
theorem dX6_tightLines_18 : decode cX6_tightLines 18 = .ok (.invokevirtual 126, 3) := by decide +kernel
theorem dX6_tightLines_21 : decode cX6_tightLines 21 = .ok (.lconst 0, 1) := by decide +kernel
theorem dX6_tightLines_22 : decode cX6_tightLines 22 = .ok (.lcmp, 1) := by decide +kernel
theorem dX6_tightLines_23 : decode cX6_tightLines 23 = .ok (.ifCond .ne 9, 3) := by decide +kernel
theorem dX6_tightLines_26 : decode cX6_tightLines 26 = .ok (.iconst 1, 1) := by decide +kernel
theorem dX6_tightLines_27 : decode cX6_tightLines 27 = .ok (.iload_n 2, 1) := by decide +kernel
theorem dX6_tightLines_28 : decode cX6_tightLines 28 = .ok (.ishl, 1) := by decide +kernel
theorem dX6_tightLines_29 : decode cX6_tightLines 29 = .ok (.goto 4, 3) := by decide +kernel
theorem dX6_tightLines_32 : decode cX6_tightLines 32 = .ok (.iconst 0, 1) := by decide +kernel
theorem dX6_tightLines_33 : decode cX6_tightLines 33 = .ok (.ior, 1) := by decide +kernel
theorem dX6_tightLines_34 : decode cX6_tightLines 34 = .ok (.istore_n 1, 1) := by decide +kernel
theorem dX6_tightLines_35 : decode cX6_tightLines 35 = .ok (.iinc 2 1, 3) := by decide +kernel
theorem dX6_tightLines_38 : decode cX6_tightLines 38 = .ok (.goto (-34), 3) := by decide +kernel
theorem dX6_tightLines_41 : decode cX6_tightLines 41 = .ok (.iload_n 1, 1) := by decide +kernel
theorem dX6_tightLines_42 : decode cX6_tightLines 42 = .ok (.ireturn, 1) := by decide +kernel
theorem dX6_twiceWorth_0 : decode cX6_twiceWorth 0 = .ok (.lconst 0, 1) := by decide +kernel
theorem dX6_twiceWorth_1 : decode cX6_twiceWorth 1 = .ok (.lstore_n 1, 1) := by decide +kernel
theorem dX6_twiceWorth_2 : decode cX6_twiceWorth 2 = .ok (.iconst 0, 1) := by decide +kernel
theorem dX6_twiceWorth_3 : decode cX6_twiceWorth 3 = .ok (.istore_n 3, 1) := by decide +kernel
theorem dX6_twiceWorth_4 : decode cX6_twiceWorth 4 = .ok (.iload_n 3, 1) := by decide +kernel
theorem dX6_twiceWorth_5 : decode cX6_twiceWorth 5 = .ok (.aload_n 0, 1) := by decide +kernel
theorem dX6_twiceWorth_6 : decode cX6_twiceWorth 6 = .ok (.getfield 36, 3) := by decide +kernel
theorem dX6_twiceWorth_9 : decode cX6_twiceWorth 9 = .ok (.getfield 57, 3) := by decide +kernel
theorem dX6_twiceWorth_12 : decode cX6_twiceWorth 12 = .ok (.if_icmp .ge 32, 3) := by decide +kernel
theorem dX6_twiceWorth_15 : decode cX6_twiceWorth 15 = .ok (.lload_n 1, 1) := by decide +kernel
theorem dX6_twiceWorth_16 : decode cX6_twiceWorth 16 = .ok (.aload_n 0, 1) := by decide +kernel
theorem dX6_twiceWorth_17 : decode cX6_twiceWorth 17 = .ok (.getfield 36, 3) := by decide +kernel
theorem dX6_twiceWorth_20 : decode cX6_twiceWorth 20 = .ok (.getfield 89, 3) := by decide +kernel
theorem dX6_twiceWorth_23 : decode cX6_twiceWorth 23 = .ok (.iload_n 3, 1) := by decide +kernel
theorem dX6_twiceWorth_24 : decode cX6_twiceWorth 24 = .ok (.iaload, 1) := by decide +kernel
theorem dX6_twiceWorth_25 : decode cX6_twiceWorth 25 = .ok (.i2l, 1) := by decide +kernel
theorem dX6_twiceWorth_26 : decode cX6_twiceWorth 26 = .ok (.aload_n 0, 1) := by decide +kernel
theorem dX6_twiceWorth_27 : decode cX6_twiceWorth 27 = .ok (.getfield 12, 3) := by decide +kernel
theorem dX6_twiceWorth_30 : decode cX6_twiceWorth 30 = .ok (.getfield 120, 3) := by decide +kernel
theorem dX6_twiceWorth_33 : decode cX6_twiceWorth 33 = .ok (.iload_n 3, 1) := by decide +kernel
theorem dX6_twiceWorth_34 : decode cX6_twiceWorth 34 = .ok (.laload, 1) := by decide +kernel
theorem dX6_twiceWorth_35 : decode cX6_twiceWorth 35 = .ok (.lmul, 1) := by decide +kernel
theorem dX6_twiceWorth_36 : decode cX6_twiceWorth 36 = .ok (.ladd, 1) := by decide +kernel
theorem dX6_twiceWorth_37 : decode cX6_twiceWorth 37 = .ok (.lstore_n 1, 1) := by decide +kernel
theorem dX6_twiceWorth_38 : decode cX6_twiceWorth 38 = .ok (.iinc 3 1, 3) := by decide +kernel
theorem dX6_twiceWorth_41 : decode cX6_twiceWorth 41 = .ok (.goto (-37), 3) := by decide +kernel
theorem dX6_twiceWorth_44 : decode cX6_twiceWorth 44 = .ok (.iconst 0, 1) := by decide +kernel
theorem dX6_twiceWorth_45 : decode cX6_twiceWorth 45 = .ok (.istore_n 3, 1) := by decide +kernel
theorem dX6_twiceWorth_46 : decode cX6_twiceWorth 46 = .ok (.iload_n 3, 1) := by decide +kernel
theorem dX6_twiceWorth_47 : decode cX6_twiceWorth 47 = .ok (.aload_n 0, 1) := by decide +kernel
theorem dX6_twiceWorth_48 : decode cX6_twiceWorth 48 = .ok (.getfield 36, 3) := by decide +kernel
theorem dX6_twiceWorth_51 : decode cX6_twiceWorth 51 = .ok (.getfield 76, 3) := by decide +kernel
theorem dX6_twiceWorth_54 : decode cX6_twiceWorth 54 = .ok (.if_icmp .ge 35, 3) := by decide +kernel
theorem dX6_twiceWorth_57 : decode cX6_twiceWorth 57 = .ok (.lload_n 1, 1) := by decide +kernel
theorem dX6_twiceWorth_58 : decode cX6_twiceWorth 58 = .ok (.aload_n 0, 1) := by decide +kernel
theorem dX6_twiceWorth_59 : decode cX6_twiceWorth 59 = .ok (.getfield 36, 3) := by decide +kernel
theorem dX6_twiceWorth_62 : decode cX6_twiceWorth 62 = .ok (.iload_n 3, 1) := by decide +kernel
theorem dX6_twiceWorth_63 : decode cX6_twiceWorth 63 = .ok (.aload_n 0, 1) := by decide +kernel
theorem dX6_twiceWorth_64 : decode cX6_twiceWorth 64 = .ok (.getfield 112, 3) := by decide +kernel
theorem dX6_twiceWorth_67 : decode cX6_twiceWorth 67 = .ok (.invokevirtual 98, 3) := by decide +kernel
theorem dX6_twiceWorth_70 : decode cX6_twiceWorth 70 = .ok (.i2l, 1) := by decide +kernel
theorem dX6_twiceWorth_71 : decode cX6_twiceWorth 71 = .ok (.aload_n 0, 1) := by decide +kernel
theorem dX6_twiceWorth_72 : decode cX6_twiceWorth 72 = .ok (.getfield 12, 3) := by decide +kernel
theorem dX6_twiceWorth_75 : decode cX6_twiceWorth 75 = .ok (.getfield 116, 3) := by decide +kernel
theorem dX6_twiceWorth_78 : decode cX6_twiceWorth 78 = .ok (.iload_n 3, 1) := by decide +kernel
theorem dX6_twiceWorth_79 : decode cX6_twiceWorth 79 = .ok (.laload, 1) := by decide +kernel
theorem dX6_twiceWorth_80 : decode cX6_twiceWorth 80 = .ok (.lmul, 1) := by decide +kernel
theorem dX6_twiceWorth_81 : decode cX6_twiceWorth 81 = .ok (.lsub, 1) := by decide +kernel
theorem dX6_twiceWorth_82 : decode cX6_twiceWorth 82 = .ok (.lstore_n 1, 1) := by decide +kernel
theorem dX6_twiceWorth_83 : decode cX6_twiceWorth 83 = .ok (.iinc 3 1, 3) := by decide +kernel
theorem dX6_twiceWorth_86 : decode cX6_twiceWorth 86 = .ok (.goto (-40), 3) := by decide +kernel
theorem dX6_twiceWorth_89 : decode cX6_twiceWorth 89 = .ok (.lload_n 1, 1) := by decide +kernel
theorem dX6_twiceWorth_90 : decode cX6_twiceWorth 90 = .ok (.lreturn, 1) := by decide +kernel
theorem dX6_goPath_0 : decode cX6_goPath 0 = .ok (.aload_n 0, 1) := by decide +kernel
theorem dX6_goPath_1 : decode cX6_goPath 1 = .ok (.iconst 0, 1) := by decide +kernel
theorem dX6_goPath_2 : decode cX6_goPath 2 = .ok (.aload_n 0, 1) := by decide +kernel
theorem dX6_goPath_3 : decode cX6_goPath 3 = .ok (.getfield 36, 3) := by decide +kernel
theorem dX6_goPath_6 : decode cX6_goPath 6 = .ok (.getfield 138, 3) := by decide +kernel
theorem dX6_goPath_9 : decode cX6_goPath 9 = .ok (.invokevirtual 139, 3) := by decide +kernel
theorem dX6_goPath_12 : decode cX6_goPath 12 = .ok (.istore_n 1, 1) := by decide +kernel
theorem dX6_goPath_13 : decode cX6_goPath 13 = .ok (.aload_n 0, 1) := by decide +kernel
theorem dX6_goPath_14 : decode cX6_goPath 14 = .ok (.iconst 0, 1) := by decide +kernel
theorem dX6_goPath_15 : decode cX6_goPath 15 = .ok (.putfield 142, 3) := by decide +kernel
theorem dX6_goPath_18 : decode cX6_goPath 18 = .ok (.iconst 0, 1) := by decide +kernel
theorem dX6_goPath_19 : decode cX6_goPath 19 = .ok (.istore_n 2, 1) := by decide +kernel
theorem dX6_goPath_20 : decode cX6_goPath 20 = .ok (.iload_n 2, 1) := by decide +kernel
theorem dX6_goPath_21 : decode cX6_goPath 21 = .ok (.bipush 64, 2) := by decide +kernel
theorem dX6_goPath_23 : decode cX6_goPath 23 = .ok (.if_icmp .ge 66, 3) := by decide +kernel
theorem dX6_goPath_26 : decode cX6_goPath 26 = .ok (.iload_n 1, 1) := by decide +kernel
theorem dX6_goPath_27 : decode cX6_goPath 27 = .ok (.ifCond .lt 62, 3) := by decide +kernel
theorem dX6_goPath_30 : decode cX6_goPath 30 = .ok (.aload_n 0, 1) := by decide +kernel
theorem dX6_goPath_31 : decode cX6_goPath 31 = .ok (.getfield 21, 3) := by decide +kernel
theorem dX6_goPath_34 : decode cX6_goPath 34 = .ok (.iload_n 2, 1) := by decide +kernel
theorem dX6_goPath_35 : decode cX6_goPath 35 = .ok (.iload_n 1, 1) := by decide +kernel
theorem dX6_goPath_36 : decode cX6_goPath 36 = .ok (.iastore, 1) := by decide +kernel
theorem dX6_goPath_37 : decode cX6_goPath 37 = .ok (.aload_n 0, 1) := by decide +kernel
theorem dX6_goPath_38 : decode cX6_goPath 38 = .ok (.iload_n 2, 1) := by decide +kernel
theorem dX6_goPath_39 : decode cX6_goPath 39 = .ok (.iconst 1, 1) := by decide +kernel
theorem dX6_goPath_40 : decode cX6_goPath 40 = .ok (.iadd, 1) := by decide +kernel
theorem dX6_goPath_41 : decode cX6_goPath 41 = .ok (.putfield 142, 3) := by decide +kernel
theorem dX6_goPath_44 : decode cX6_goPath 44 = .ok (.aload_n 0, 1) := by decide +kernel
theorem dX6_goPath_45 : decode cX6_goPath 45 = .ok (.getfield 36, 3) := by decide +kernel
theorem dX6_goPath_48 : decode cX6_goPath 48 = .ok (.invokevirtual 145, 3) := by decide +kernel
theorem dX6_goPath_51 : decode cX6_goPath 51 = .ok (.aload_n 0, 1) := by decide +kernel
theorem dX6_goPath_52 : decode cX6_goPath 52 = .ok (.invokevirtual 149, 3) := by decide +kernel
theorem dX6_goPath_55 : decode cX6_goPath 55 = .ok (.iconst (-1), 1) := by decide +kernel
theorem dX6_goPath_56 : decode cX6_goPath 56 = .ok (.ixor, 1) := by decide +kernel
theorem dX6_goPath_57 : decode cX6_goPath 57 = .ok (.iand, 1) := by decide +kernel
theorem dX6_goPath_58 : decode cX6_goPath 58 = .ok (.istore_n 3, 1) := by decide +kernel
theorem dX6_goPath_59 : decode cX6_goPath 59 = .ok (.iload_n 3, 1) := by decide +kernel
theorem dX6_goPath_60 : decode cX6_goPath 60 = .ok (.ifCond .ne 5, 3) := by decide +kernel
theorem dX6_goPath_63 : decode cX6_goPath 63 = .ok (.iconst 1, 1) := by decide +kernel
theorem dX6_goPath_64 : decode cX6_goPath 64 = .ok (.ireturn, 1) := by decide +kernel
theorem dX6_goPath_65 : decode cX6_goPath 65 = .ok (.aload_n 0, 1) := by decide +kernel
theorem dX6_goPath_66 : decode cX6_goPath 66 = .ok (.iload_n 1, 1) := by decide +kernel
theorem dX6_goPath_67 : decode cX6_goPath 67 = .ok (.iload_n 3, 1) := by decide +kernel
theorem dX6_goPath_68 : decode cX6_goPath 68 = .ok (.iload_n 3, 1) := by decide +kernel
theorem dX6_goPath_69 : decode cX6_goPath 69 = .ok (.ineg, 1) := by decide +kernel
theorem dX6_goPath_70 : decode cX6_goPath 70 = .ok (.iand, 1) := by decide +kernel
theorem dX6_goPath_71 : decode cX6_goPath 71 = .ok (.ior, 1) := by decide +kernel
theorem dX6_goPath_72 : decode cX6_goPath 72 = .ok (.aload_n 0, 1) := by decide +kernel
theorem dX6_goPath_73 : decode cX6_goPath 73 = .ok (.getfield 36, 3) := by decide +kernel
theorem dX6_goPath_76 : decode cX6_goPath 76 = .ok (.getfield 138, 3) := by decide +kernel
theorem dX6_goPath_79 : decode cX6_goPath 79 = .ok (.invokevirtual 139, 3) := by decide +kernel
theorem dX6_goPath_82 : decode cX6_goPath 82 = .ok (.istore_n 1, 1) := by decide +kernel
theorem dX6_goPath_83 : decode cX6_goPath 83 = .ok (.iinc 2 1, 3) := by decide +kernel
theorem dX6_goPath_86 : decode cX6_goPath 86 = .ok (.goto (-66), 3) := by decide +kernel
theorem dX6_goPath_89 : decode cX6_goPath 89 = .ok (.iconst 0, 1) := by decide +kernel
theorem dX6_goPath_90 : decode cX6_goPath 90 = .ok (.ireturn, 1) := by decide +kernel
theorem dX6_changesTo_0 : decode cX6_changesTo 0 = .ok (.aload_n 0, 1) := by decide +kernel
theorem dX6_changesTo_1 : decode cX6_changesTo 1 = .ok (.getfield 36, 3) := by decide +kernel
theorem dX6_changesTo_4 : decode cX6_changesTo 4 = .ok (.invokevirtual 145, 3) := by decide +kernel
theorem dX6_changesTo_7 : decode cX6_changesTo 7 = .ok (.istore_n 2, 1) := by decide +kernel
theorem dX6_changesTo_8 : decode cX6_changesTo 8 = .ok (.aload_n 0, 1) := by decide +kernel
theorem dX6_changesTo_9 : decode cX6_changesTo 9 = .ok (.getfield 33, 3) := by decide +kernel
theorem dX6_changesTo_12 : decode cX6_changesTo 12 = .ok (.iconst (-1), 1) := by decide +kernel
theorem dX6_changesTo_13 : decode cX6_changesTo 13 = .ok (.invokestatic 152, 3) := by decide +kernel
theorem dX6_changesTo_16 : decode cX6_changesTo 16 = .ok (.iconst 0, 1) := by decide +kernel
theorem dX6_changesTo_17 : decode cX6_changesTo 17 = .ok (.istore_n 3, 1) := by decide +kernel
theorem dX6_changesTo_18 : decode cX6_changesTo 18 = .ok (.iload_n 3, 1) := by decide +kernel
theorem dX6_changesTo_19 : decode cX6_changesTo 19 = .ok (.iload_n 2, 1) := by decide +kernel
theorem dX6_changesTo_20 : decode cX6_changesTo 20 = .ok (.if_icmp .gt 24, 3) := by decide +kernel
theorem dX6_changesTo_23 : decode cX6_changesTo 23 = .ok (.aload_n 0, 1) := by decide +kernel
theorem dX6_changesTo_24 : decode cX6_changesTo 24 = .ok (.iload_n 3, 1) := by decide +kernel
theorem dX6_changesTo_25 : decode cX6_changesTo 25 = .ok (.invokevirtual 40, 3) := by decide +kernel
theorem dX6_changesTo_28 : decode cX6_changesTo 28 = .ok (.ifCond .eq 10, 3) := by decide +kernel
theorem dX6_changesTo_31 : decode cX6_changesTo 31 = .ok (.aload_n 0, 1) := by decide +kernel
theorem dX6_changesTo_32 : decode cX6_changesTo 32 = .ok (.iload_n 3, 1) := by decide +kernel
theorem dX6_changesTo_33 : decode cX6_changesTo 33 = .ok (.iload_n 2, 1) := by decide +kernel
theorem dX6_changesTo_34 : decode cX6_changesTo 34 = .ok (.iload_n 1, 1) := by decide +kernel
theorem dX6_changesTo_35 : decode cX6_changesTo 35 = .ok (.invokevirtual 155, 3) := by decide +kernel
theorem dX6_changesTo_38 : decode cX6_changesTo 38 = .ok (.iinc 3 1, 3) := by decide +kernel
theorem dX6_changesTo_41 : decode cX6_changesTo 41 = .ok (.goto (-23), 3) := by decide +kernel
theorem dX6_changesTo_44 : decode cX6_changesTo 44 = .ok (.iconst 0, 1) := by decide +kernel
theorem dX6_changesTo_45 : decode cX6_changesTo 45 = .ok (.istore_n 3, 1) := by decide +kernel
theorem dX6_changesTo_46 : decode cX6_changesTo 46 = .ok (.iconst 1, 1) := by decide +kernel
theorem dX6_changesTo_47 : decode cX6_changesTo 47 = .ok (.istore 4, 2) := by decide +kernel
theorem dX6_changesTo_49 : decode cX6_changesTo 49 = .ok (.iload 4, 2) := by decide +kernel
theorem dX6_changesTo_51 : decode cX6_changesTo 51 = .ok (.iload_n 1, 1) := by decide +kernel
theorem dX6_changesTo_52 : decode cX6_changesTo 52 = .ok (.if_icmp .gt 43, 3) := by decide +kernel
theorem dX6_changesTo_55 : decode cX6_changesTo 55 = .ok (.iload 4, 2) := by decide +kernel
theorem dX6_changesTo_57 : decode cX6_changesTo 57 = .ok (.bipush 40, 2) := by decide +kernel
theorem dX6_changesTo_59 : decode cX6_changesTo 59 = .ok (.if_icmp .gt 36, 3) := by decide +kernel
theorem dX6_changesTo_62 : decode cX6_changesTo 62 = .ok (.iload_n 3, 1) := by decide +kernel
theorem dX6_changesTo_63 : decode cX6_changesTo 63 = .ok (.aload_n 0, 1) := by decide +kernel
theorem dX6_changesTo_64 : decode cX6_changesTo 64 = .ok (.getfield 33, 3) := by decide +kernel
theorem dX6_changesTo_67 : decode cX6_changesTo 67 = .ok (.iload 4, 2) := by decide +kernel
theorem dX6_changesTo_69 : decode cX6_changesTo 69 = .ok (.iaload, 1) := by decide +kernel
theorem dX6_changesTo_70 : decode cX6_changesTo 70 = .ok (.aload_n 0, 1) := by decide +kernel
theorem dX6_changesTo_71 : decode cX6_changesTo 71 = .ok (.getfield 33, 3) := by decide +kernel
theorem dX6_changesTo_74 : decode cX6_changesTo 74 = .ok (.iload 4, 2) := by decide +kernel
theorem dX6_changesTo_76 : decode cX6_changesTo 76 = .ok (.iconst 1, 1) := by decide +kernel
theorem dX6_changesTo_77 : decode cX6_changesTo 77 = .ok (.isub, 1) := by decide +kernel
theorem dX6_changesTo_78 : decode cX6_changesTo 78 = .ok (.iaload, 1) := by decide +kernel
theorem dX6_changesTo_79 : decode cX6_changesTo 79 = .ok (.if_icmp .eq 7, 3) := by decide +kernel
theorem dX6_changesTo_82 : decode cX6_changesTo 82 = .ok (.iconst 1, 1) := by decide +kernel
theorem dX6_changesTo_83 : decode cX6_changesTo 83 = .ok (.goto 4, 3) := by decide +kernel
theorem dX6_changesTo_86 : decode cX6_changesTo 86 = .ok (.iconst 0, 1) := by decide +kernel
theorem dX6_changesTo_87 : decode cX6_changesTo 87 = .ok (.iadd, 1) := by decide +kernel
theorem dX6_changesTo_88 : decode cX6_changesTo 88 = .ok (.istore_n 3, 1) := by decide +kernel
theorem dX6_changesTo_89 : decode cX6_changesTo 89 = .ok (.iinc 4 1, 3) := by decide +kernel
theorem dX6_changesTo_92 : decode cX6_changesTo 92 = .ok (.goto (-43), 3) := by decide +kernel
theorem dX6_changesTo_95 : decode cX6_changesTo 95 = .ok (.iload_n 3, 1) := by decide +kernel
theorem dX6_changesTo_96 : decode cX6_changesTo 96 = .ok (.ireturn, 1) := by decide +kernel
theorem dX6_claimTides_0 : decode cX6_claimTides 0 = .ok (.iconst 0, 1) := by decide +kernel
theorem dX6_claimTides_1 : decode cX6_claimTides 1 = .ok (.istore 4, 2) := by decide +kernel
theorem dX6_claimTides_3 : decode cX6_claimTides 3 = .ok (.iload 4, 2) := by decide +kernel
theorem dX6_claimTides_5 : decode cX6_claimTides 5 = .ok (.iload_n 3, 1) := by decide +kernel
theorem dX6_claimTides_6 : decode cX6_claimTides 6 = .ok (.if_icmp .gt 49, 3) := by decide +kernel
theorem dX6_claimTides_9 : decode cX6_claimTides 9 = .ok (.iload 4, 2) := by decide +kernel
theorem dX6_claimTides_11 : decode cX6_claimTides 11 = .ok (.bipush 40, 2) := by decide +kernel
theorem dX6_claimTides_13 : decode cX6_claimTides 13 = .ok (.if_icmp .gt 42, 3) := by decide +kernel
theorem dX6_claimTides_16 : decode cX6_claimTides 16 = .ok (.aload_n 0, 1) := by decide +kernel
theorem dX6_claimTides_17 : decode cX6_claimTides 17 = .ok (.getfield 33, 3) := by decide +kernel
theorem dX6_claimTides_20 : decode cX6_claimTides 20 = .ok (.iload 4, 2) := by decide +kernel
theorem dX6_claimTides_22 : decode cX6_claimTides 22 = .ok (.iaload, 1) := by decide +kernel
theorem dX6_claimTides_23 : decode cX6_claimTides 23 = .ok (.iconst (-1), 1) := by decide +kernel
theorem dX6_claimTides_24 : decode cX6_claimTides 24 = .ok (.if_icmp .ne 25, 3) := by decide +kernel
theorem dX6_claimTides_27 : decode cX6_claimTides 27 = .ok (.aload_n 0, 1) := by decide +kernel
theorem dX6_claimTides_28 : decode cX6_claimTides 28 = .ok (.iload 4, 2) := by decide +kernel
theorem dX6_claimTides_30 : decode cX6_claimTides 30 = .ok (.invokevirtual 44, 3) := by decide +kernel
theorem dX6_claimTides_33 : decode cX6_claimTides 33 = .ok (.aload_n 0, 1) := by decide +kernel
theorem dX6_claimTides_34 : decode cX6_claimTides 34 = .ok (.iload_n 2, 1) := by decide +kernel
theorem dX6_claimTides_35 : decode cX6_claimTides 35 = .ok (.invokevirtual 48, 3) := by decide +kernel
theorem dX6_claimTides_38 : decode cX6_claimTides 38 = .ok (.ifCond .eq 11, 3) := by decide +kernel
theorem dX6_claimTides_41 : decode cX6_claimTides 41 = .ok (.aload_n 0, 1) := by decide +kernel
theorem dX6_claimTides_42 : decode cX6_claimTides 42 = .ok (.getfield 33, 3) := by decide +kernel
theorem dX6_claimTides_45 : decode cX6_claimTides 45 = .ok (.iload 4, 2) := by decide +kernel
theorem dX6_claimTides_47 : decode cX6_claimTides 47 = .ok (.iload_n 1, 1) := by decide +kernel
theorem dX6_claimTides_48 : decode cX6_claimTides 48 = .ok (.iastore, 1) := by decide +kernel
theorem dX6_claimTides_49 : decode cX6_claimTides 49 = .ok (.iinc 4 1, 3) := by decide +kernel
theorem dX6_claimTides_52 : decode cX6_claimTides 52 = .ok (.goto (-49), 3) := by decide +kernel
theorem dX6_claimTides_55 : decode cX6_claimTides 55 = .ok (.return_, 1) := by decide +kernel
theorem dX6_findReach_0 : decode cX6_findReach 0 = .ok (.aload_n 0, 1) := by decide +kernel
theorem dX6_findReach_1 : decode cX6_findReach 1 = .ok (.lconst 0, 1) := by decide +kernel
theorem dX6_findReach_2 : decode cX6_findReach 2 = .ok (.putfield 159, 3) := by decide +kernel
theorem dX6_findReach_5 : decode cX6_findReach 5 = .ok (.iconst 0, 1) := by decide +kernel
theorem dX6_findReach_6 : decode cX6_findReach 6 = .ok (.istore_n 1, 1) := by decide +kernel
theorem dX6_findReach_7 : decode cX6_findReach 7 = .ok (.iload_n 1, 1) := by decide +kernel
theorem dX6_findReach_8 : decode cX6_findReach 8 = .ok (.aload_n 0, 1) := by decide +kernel
theorem dX6_findReach_9 : decode cX6_findReach 9 = .ok (.getfield 36, 3) := by decide +kernel
theorem dX6_findReach_12 : decode cX6_findReach 12 = .ok (.getfield 76, 3) := by decide +kernel
theorem dX6_findReach_15 : decode cX6_findReach 15 = .ok (.if_icmp .ge 90, 3) := by decide +kernel
theorem dX6_findReach_18 : decode cX6_findReach 18 = .ok (.aload_n 0, 1) := by decide +kernel
theorem dX6_findReach_19 : decode cX6_findReach 19 = .ok (.getfield 36, 3) := by decide +kernel
theorem dX6_findReach_22 : decode cX6_findReach 22 = .ok (.aload_n 0, 1) := by decide +kernel
theorem dX6_findReach_23 : decode cX6_findReach 23 = .ok (.getfield 36, 3) := by decide +kernel
theorem dX6_findReach_26 : decode cX6_findReach 26 = .ok (.iload_n 1, 1) := by decide +kernel
theorem dX6_findReach_27 : decode cX6_findReach 27 = .ok (.invokevirtual 101, 3) := by decide +kernel
theorem dX6_findReach_30 : decode cX6_findReach 30 = .ok (.iload_n 1, 1) := by decide +kernel
theorem dX6_findReach_31 : decode cX6_findReach 31 = .ok (.aload_n 0, 1) := by decide +kernel
theorem dX6_findReach_32 : decode cX6_findReach 32 = .ok (.getfield 18, 3) := by decide +kernel
theorem dX6_findReach_35 : decode cX6_findReach 35 = .ok (.invokevirtual 134, 3) := by decide +kernel
theorem dX6_findReach_38 : decode cX6_findReach 38 = .ok (.lstore_n 2, 1) := by decide +kernel
theorem dX6_findReach_39 : decode cX6_findReach 39 = .ok (.aload_n 0, 1) := by decide +kernel
theorem dX6_findReach_40 : decode cX6_findReach 40 = .ok (.getfield 36, 3) := by decide +kernel
theorem dX6_findReach_43 : decode cX6_findReach 43 = .ok (.iload_n 1, 1) := by decide +kernel
theorem dX6_findReach_44 : decode cX6_findReach 44 = .ok (.invokevirtual 123, 3) := by decide +kernel
theorem dX6_findReach_47 : decode cX6_findReach 47 = .ok (.ifCond .eq 20, 3) := by decide +kernel
theorem dX6_findReach_50 : decode cX6_findReach 50 = .ok (.aload_n 0, 1) := by decide +kernel
theorem dX6_findReach_51 : decode cX6_findReach 51 = .ok (.aload_n 0, 1) := by decide +kernel
theorem dX6_findReach_52 : decode cX6_findReach 52 = .ok (.iload_n 1, 1) := by decide +kernel
theorem dX6_findReach_53 : decode cX6_findReach 53 = .ok (.invokevirtual 126, 3) := by decide +kernel
theorem dX6_findReach_56 : decode cX6_findReach 56 = .ok (.lload_n 2, 1) := by decide +kernel
theorem dX6_findReach_57 : decode cX6_findReach 57 = .ok (.invokestatic 162, 3) := by decide +kernel
theorem dX6_findReach_60 : decode cX6_findReach 60 = .ok (.lneg, 1) := by decide +kernel
theorem dX6_findReach_61 : decode cX6_findReach 61 = .ok (.invokevirtual 168, 3) := by decide +kernel
theorem dX6_findReach_64 : decode cX6_findReach 64 = .ok (.goto 35, 3) := by decide +kernel
theorem dX6_findReach_67 : decode cX6_findReach 67 = .ok (.aload_n 0, 1) := by decide +kernel
theorem dX6_findReach_68 : decode cX6_findReach 68 = .ok (.aload_n 0, 1) := by decide +kernel
theorem dX6_findReach_69 : decode cX6_findReach 69 = .ok (.iload_n 1, 1) := by decide +kernel
theorem dX6_findReach_70 : decode cX6_findReach 70 = .ok (.invokevirtual 126, 3) := by decide +kernel
theorem dX6_findReach_73 : decode cX6_findReach 73 = .ok (.lload_n 2, 1) := by decide +kernel
theorem dX6_findReach_74 : decode cX6_findReach 74 = .ok (.invokevirtual 168, 3) := by decide +kernel
theorem dX6_findReach_77 : decode cX6_findReach 77 = .ok (.aload_n 0, 1) := by decide +kernel
theorem dX6_findReach_78 : decode cX6_findReach 78 = .ok (.aload_n 0, 1) := by decide +kernel
theorem dX6_findReach_79 : decode cX6_findReach 79 = .ok (.getfield 12, 3) := by decide +kernel
theorem dX6_findReach_82 : decode cX6_findReach 82 = .ok (.getfield 116, 3) := by decide +kernel
theorem dX6_findReach_85 : decode cX6_findReach 85 = .ok (.iload_n 1, 1) := by decide +kernel
theorem dX6_findReach_86 : decode cX6_findReach 86 = .ok (.laload, 1) := by decide +kernel
theorem dX6_findReach_87 : decode cX6_findReach 87 = .ok (.aload_n 0, 1) := by decide +kernel
theorem dX6_findReach_88 : decode cX6_findReach 88 = .ok (.getfield 18, 3) := by decide +kernel
theorem dX6_findReach_91 : decode cX6_findReach 91 = .ok (.getfield 116, 3) := by decide +kernel
theorem dX6_findReach_94 : decode cX6_findReach 94 = .ok (.iload_n 1, 1) := by decide +kernel
theorem dX6_findReach_95 : decode cX6_findReach 95 = .ok (.laload, 1) := by decide +kernel
theorem dX6_findReach_96 : decode cX6_findReach 96 = .ok (.invokevirtual 168, 3) := by decide +kernel
theorem dX6_findReach_99 : decode cX6_findReach 99 = .ok (.iinc 1 1, 3) := by decide +kernel
theorem dX6_findReach_102 : decode cX6_findReach 102 = .ok (.goto (-95), 3) := by decide +kernel
theorem dX6_findReach_105 : decode cX6_findReach 105 = .ok (.aload_n 0, 1) := by decide +kernel
theorem dX6_findReach_106 : decode cX6_findReach 106 = .ok (.getfield 159, 3) := by decide +kernel
theorem dX6_findReach_109 : decode cX6_findReach 109 = .ok (.lconst 0, 1) := by decide +kernel
theorem dX6_findReach_110 : decode cX6_findReach 110 = .ok (.lcmp, 1) := by decide +kernel
theorem dX6_findReach_111 : decode cX6_findReach 111 = .ok (.ifCond .eq 7, 3) := by decide +kernel
theorem dX6_findReach_114 : decode cX6_findReach 114 = .ok (.iconst 1, 1) := by decide +kernel
theorem dX6_findReach_115 : decode cX6_findReach 115 = .ok (.goto 4, 3) := by decide +kernel
theorem dX6_findReach_118 : decode cX6_findReach 118 = .ok (.iconst 0, 1) := by decide +kernel
theorem dX6_findReach_119 : decode cX6_findReach 119 = .ok (.ireturn, 1) := by decide +kernel
theorem dX6_limitReach_0 : decode cX6_limitReach 0 = .ok (.lload_n 3, 1) := by decide +kernel
theorem dX6_limitReach_1 : decode cX6_limitReach 1 = .ok (.lconst 0, 1) := by decide +kernel
theorem dX6_limitReach_2 : decode cX6_limitReach 2 = .ok (.lcmp, 1) := by decide +kernel
theorem dX6_limitReach_3 : decode cX6_limitReach 3 = .ok (.ifCond .lt 4, 3) := by decide +kernel
theorem dX6_limitReach_6 : decode cX6_limitReach 6 = .ok (.return_, 1) := by decide +kernel
theorem dX6_limitReach_7 : decode cX6_limitReach 7 = .ok (.aload_n 0, 1) := by decide +kernel
theorem dX6_limitReach_8 : decode cX6_limitReach 8 = .ok (.getfield 159, 3) := by decide +kernel
theorem dX6_limitReach_11 : decode cX6_limitReach 11 = .ok (.lconst 0, 1) := by decide +kernel
theorem dX6_limitReach_12 : decode cX6_limitReach 12 = .ok (.lcmp, 1) := by decide +kernel
theorem dX6_limitReach_13 : decode cX6_limitReach 13 = .ok (.ifCond .eq 20, 3) := by decide +kernel
theorem dX6_limitReach_16 : decode cX6_limitReach 16 = .ok (.lload_n 1, 1) := by decide +kernel
theorem dX6_limitReach_17 : decode cX6_limitReach 17 = .ok (.lload_n 3, 1) := by decide +kernel
theorem dX6_limitReach_18 : decode cX6_limitReach 18 = .ok (.lneg, 1) := by decide +kernel
theorem dX6_limitReach_19 : decode cX6_limitReach 19 = .ok (.aload_n 0, 1) := by decide +kernel
theorem dX6_limitReach_20 : decode cX6_limitReach 20 = .ok (.getfield 172, 3) := by decide +kernel
theorem dX6_limitReach_23 : decode cX6_limitReach 23 = .ok (.aload_n 0, 1) := by decide +kernel
theorem dX6_limitReach_24 : decode cX6_limitReach 24 = .ok (.getfield 159, 3) := by decide +kernel
theorem dX6_limitReach_27 : decode cX6_limitReach 27 = .ok (.invokestatic 175, 3) := by decide +kernel
theorem dX6_limitReach_30 : decode cX6_limitReach 30 = .ok (.ifCond .eq 14, 3) := by decide +kernel
theorem dX6_limitReach_33 : decode cX6_limitReach 33 = .ok (.aload_n 0, 1) := by decide +kernel
theorem dX6_limitReach_34 : decode cX6_limitReach 34 = .ok (.lload_n 1, 1) := by decide +kernel
theorem dX6_limitReach_35 : decode cX6_limitReach 35 = .ok (.putfield 172, 3) := by decide +kernel
theorem dX6_limitReach_38 : decode cX6_limitReach 38 = .ok (.aload_n 0, 1) := by decide +kernel
theorem dX6_limitReach_39 : decode cX6_limitReach 39 = .ok (.lload_n 3, 1) := by decide +kernel
theorem dX6_limitReach_40 : decode cX6_limitReach 40 = .ok (.lneg, 1) := by decide +kernel
theorem dX6_limitReach_41 : decode cX6_limitReach 41 = .ok (.putfield 159, 3) := by decide +kernel
theorem dX6_limitReach_44 : decode cX6_limitReach 44 = .ok (.return_, 1) := by decide +kernel
theorem dX7_init_0 : decode cX7_init 0 = .ok (.aload_n 0, 1) := by decide +kernel
theorem dX7_init_1 : decode cX7_init 1 = .ok (.invokespecial 1, 3) := by decide +kernel
theorem dX7_init_4 : decode cX7_init 4 = .ok (.aload_n 0, 1) := by decide +kernel
theorem dX7_init_5 : decode cX7_init 5 = .ok (.new 7, 3) := by decide +kernel
theorem dX7_init_8 : decode cX7_init 8 = .ok (.dup, 1) := by decide +kernel
theorem dX7_init_9 : decode cX7_init 9 = .ok (.invokespecial 9, 3) := by decide +kernel
theorem dX7_init_12 : decode cX7_init 12 = .ok (.putfield 10, 3) := by decide +kernel
theorem dX7_init_15 : decode cX7_init 15 = .ok (.aload_n 0, 1) := by decide +kernel
theorem dX7_init_16 : decode cX7_init 16 = .ok (.new 7, 3) := by decide +kernel
theorem dX7_init_19 : decode cX7_init 19 = .ok (.dup, 1) := by decide +kernel
theorem dX7_init_20 : decode cX7_init 20 = .ok (.invokespecial 9, 3) := by decide +kernel
theorem dX7_init_23 : decode cX7_init 23 = .ok (.putfield 16, 3) := by decide +kernel
theorem dX7_init_26 : decode cX7_init 26 = .ok (.aload_n 0, 1) := by decide +kernel
theorem dX7_init_27 : decode cX7_init 27 = .ok (.new 7, 3) := by decide +kernel
theorem dX7_init_30 : decode cX7_init 30 = .ok (.dup, 1) := by decide +kernel
theorem dX7_init_31 : decode cX7_init 31 = .ok (.invokespecial 9, 3) := by decide +kernel
theorem dX7_init_34 : decode cX7_init 34 = .ok (.putfield 19, 3) := by decide +kernel
theorem dX7_init_37 : decode cX7_init 37 = .ok (.aload_n 0, 1) := by decide +kernel
theorem dX7_init_38 : decode cX7_init 38 = .ok (.new 22, 3) := by decide +kernel
theorem dX7_init_41 : decode cX7_init 41 = .ok (.dup, 1) := by decide +kernel
theorem dX7_init_42 : decode cX7_init 42 = .ok (.aload_n 0, 1) := by decide +kernel
theorem dX7_init_43 : decode cX7_init 43 = .ok (.getfield 10, 3) := by decide +kernel
theorem dX7_init_46 : decode cX7_init 46 = .ok (.invokespecial 24, 3) := by decide +kernel
theorem dX7_init_49 : decode cX7_init 49 = .ok (.putfield 27, 3) := by decide +kernel
theorem dX7_init_52 : decode cX7_init 52 = .ok (.aload_n 0, 1) := by decide +kernel
theorem dX7_init_53 : decode cX7_init 53 = .ok (.new 22, 3) := by decide +kernel
theorem dX7_init_56 : decode cX7_init 56 = .ok (.dup, 1) := by decide +kernel
theorem dX7_init_57 : decode cX7_init 57 = .ok (.aload_n 0, 1) := by decide +kernel
theorem dX7_init_58 : decode cX7_init 58 = .ok (.getfield 19, 3) := by decide +kernel
theorem dX7_init_61 : decode cX7_init 61 = .ok (.invokespecial 24, 3) := by decide +kernel
theorem dX7_init_64 : decode cX7_init 64 = .ok (.putfield 31, 3) := by decide +kernel
theorem dX7_init_67 : decode cX7_init 67 = .ok (.aload_n 0, 1) := by decide +kernel
theorem dX7_init_68 : decode cX7_init 68 = .ok (.new 34, 3) := by decide +kernel
theorem dX7_init_71 : decode cX7_init 71 = .ok (.dup, 1) := by decide +kernel
theorem dX7_init_72 : decode cX7_init 72 = .ok (.invokespecial 36, 3) := by decide +kernel
theorem dX7_init_75 : decode cX7_init 75 = .ok (.putfield 37, 3) := by decide +kernel
theorem dX7_init_78 : decode cX7_init 78 = .ok (.aload_n 0, 1) := by decide +kernel
theorem dX7_init_79 : decode cX7_init 79 = .ok (.new 41, 3) := by decide +kernel
theorem dX7_init_82 : decode cX7_init 82 = .ok (.dup, 1) := by decide +kernel
theorem dX7_init_83 : decode cX7_init 83 = .ok (.aload_n 0, 1) := by decide +kernel
theorem dX7_init_84 : decode cX7_init 84 = .ok (.getfield 10, 3) := by decide +kernel
theorem dX7_init_87 : decode cX7_init 87 = .ok (.invokespecial 43, 3) := by decide +kernel
theorem dX7_init_90 : decode cX7_init 90 = .ok (.putfield 44, 3) := by decide +kernel
theorem dX7_init_93 : decode cX7_init 93 = .ok (.aload_n 0, 1) := by decide +kernel
theorem dX7_init_94 : decode cX7_init 94 = .ok (.new 48, 3) := by decide +kernel
theorem dX7_init_97 : decode cX7_init 97 = .ok (.dup, 1) := by decide +kernel
theorem dX7_init_98 : decode cX7_init 98 = .ok (.invokespecial 50, 3) := by decide +kernel
theorem dX7_init_101 : decode cX7_init 101 = .ok (.putfield 51, 3) := by decide +kernel
theorem dX7_init_104 : decode cX7_init 104 = .ok (.aload_n 0, 1) := by decide +kernel
theorem dX7_init_105 : decode cX7_init 105 = .ok (.getfield 10, 3) := by decide +kernel
theorem dX7_init_108 : decode cX7_init 108 = .ok (.iconst 2, 1) := by decide +kernel
theorem dX7_init_109 : decode cX7_init 109 = .ok (.invokevirtual 55, 3) := by decide +kernel
theorem dX7_init_112 : decode cX7_init 112 = .ok (.return_, 1) := by decide +kernel
theorem dX7_size_0 : decode cX7_size 0 = .ok (.iload_n 1, 1) := by decide +kernel
theorem dX7_size_1 : decode cX7_size 1 = .ok (.iconst 1, 1) := by decide +kernel
theorem dX7_size_2 : decode cX7_size 2 = .ok (.if_icmp .lt 8, 3) := by decide +kernel
theorem dX7_size_5 : decode cX7_size 5 = .ok (.iload_n 1, 1) := by decide +kernel
theorem dX7_size_6 : decode cX7_size 6 = .ok (.iconst 3, 1) := by decide +kernel
theorem dX7_size_7 : decode cX7_size 7 = .ok (.if_icmp .le 6, 3) := by decide +kernel
theorem dX7_size_10 : decode cX7_size 10 = .ok (.bipush (-2), 2) := by decide +kernel
theorem dX7_size_12 : decode cX7_size 12 = .ok (.ireturn, 1) := by decide +kernel
theorem dX7_size_13 : decode cX7_size 13 = .ok (.aload_n 0, 1) := by decide +kernel
theorem dX7_size_14 : decode cX7_size 14 = .ok (.getfield 10, 3) := by decide +kernel
theorem dX7_size_17 : decode cX7_size 17 = .ok (.getfield 59, 3) := by decide +kernel
theorem dX7_size_20 : decode cX7_size 20 = .ok (.istore_n 2, 1) := by decide +kernel
theorem dX7_size_21 : decode cX7_size 21 = .ok (.aload_n 0, 1) := by decide +kernel
theorem dX7_size_22 : decode cX7_size 22 = .ok (.getfield 10, 3) := by decide +kernel
theorem dX7_size_25 : decode cX7_size 25 = .ok (.iload_n 1, 1) := by decide +kernel
theorem dX7_size_26 : decode cX7_size 26 = .ok (.invokevirtual 55, 3) := by decide +kernel
theorem dX7_size_29 : decode cX7_size 29 = .ok (.iload_n 2, 1) := by decide +kernel
theorem dX7_size_30 : decode cX7_size 30 = .ok (.ireturn, 1) := by decide +kernel
theorem dX7_bend_0 : decode cX7_bend 0 = .ok (.aload_n 0, 1) := by decide +kernel
theorem dX7_bend_1 : decode cX7_bend 1 = .ok (.iload_n 1, 1) := by decide +kernel
theorem dX7_bend_2 : decode cX7_bend 2 = .ok (.invokevirtual 63, 3) := by decide +kernel
theorem dX7_bend_5 : decode cX7_bend 5 = .ok (.ifCond .eq 28, 3) := by decide +kernel
theorem dX7_bend_8 : decode cX7_bend 8 = .ok (.aload_n 0, 1) := by decide +kernel
theorem dX7_bend_9 : decode cX7_bend 9 = .ok (.iload_n 2, 1) := by decide +kernel
theorem dX7_bend_10 : decode cX7_bend 10 = .ok (.invokevirtual 63, 3) := by decide +kernel
theorem dX7_bend_13 : decode cX7_bend 13 = .ok (.ifCond .eq 20, 3) := by decide +kernel
theorem dX7_bend_16 : decode cX7_bend 16 = .ok (.iload_n 1, 1) := by decide +kernel
theorem dX7_bend_17 : decode cX7_bend 17 = .ok (.iload_n 2, 1) := by decide +kernel
theorem dX7_bend_18 : decode cX7_bend 18 = .ok (.if_icmp .ne 7, 3) := by decide +kernel
theorem dX7_bend_21 : decode cX7_bend 21 = .ok (.iconst 1, 1) := by decide +kernel
theorem dX7_bend_22 : decode cX7_bend 22 = .ok (.goto 4, 3) := by decide +kernel
theorem dX7_bend_25 : decode cX7_bend 25 = .ok (.iconst 0, 1) := by decide +kernel
theorem dX7_bend_26 : decode cX7_bend 26 = .ok (.iload_n 3, 1) := by decide +kernel
theorem dX7_bend_27 : decode cX7_bend 27 = .ok (.invokestatic 67, 3) := by decide +kernel
theorem dX7_bend_30 : decode cX7_bend 30 = .ok (.ifCond .ne 6, 3) := by decide +kernel
theorem dX7_bend_33 : decode cX7_bend 33 = .ok (.bipush (-2), 2) := by decide +kernel
theorem dX7_bend_35 : decode cX7_bend 35 = .ok (.ireturn, 1) := by decide +kernel
theorem dX7_bend_36 : decode cX7_bend 36 = .ok (.aload_n 0, 1) := by decide +kernel
theorem dX7_bend_37 : decode cX7_bend 37 = .ok (.getfield 10, 3) := by decide +kernel
theorem dX7_bend_40 : decode cX7_bend 40 = .ok (.iload_n 1, 1) := by decide +kernel
theorem dX7_bend_41 : decode cX7_bend 41 = .ok (.iload_n 2, 1) := by decide +kernel
theorem dX7_bend_42 : decode cX7_bend 42 = .ok (.invokevirtual 71, 3) := by decide +kernel
theorem dX7_bend_45 : decode cX7_bend 45 = .ok (.istore 4, 2) := by decide +kernel
theorem dX7_bend_47 : decode cX7_bend 47 = .ok (.aload_n 0, 1) := by decide +kernel
theorem dX7_bend_48 : decode cX7_bend 48 = .ok (.getfield 10, 3) := by decide +kernel
theorem dX7_bend_51 : decode cX7_bend 51 = .ok (.iload_n 1, 1) := by decide +kernel
theorem dX7_bend_52 : decode cX7_bend 52 = .ok (.iload_n 2, 1) := by decide +kernel
theorem dX7_bend_53 : decode cX7_bend 53 = .ok (.iload_n 3, 1) := by decide +kernel
theorem dX7_bend_54 : decode cX7_bend 54 = .ok (.invokevirtual 75, 3) := by decide +kernel
theorem dX7_bend_57 : decode cX7_bend 57 = .ok (.iload 4, 2) := by decide +kernel
theorem dX7_bend_59 : decode cX7_bend 59 = .ok (.ireturn, 1) := by decide +kernel
theorem dX7_push_0 : decode cX7_push 0 = .ok (.aload_n 0, 1) := by decide +kernel
theorem dX7_push_1 : decode cX7_push 1 = .ok (.iload_n 1, 1) := by decide +kernel
theorem dX7_push_2 : decode cX7_push 2 = .ok (.invokevirtual 63, 3) := by decide +kernel
theorem dX7_push_5 : decode cX7_push 5 = .ok (.ifCond .eq 12, 3) := by decide +kernel
theorem dX7_push_8 : decode cX7_push 8 = .ok (.iload_n 2, 1) := by decide +kernel
theorem dX7_push_9 : decode cX7_push 9 = .ok (.bipush 99, 2) := by decide +kernel
theorem dX7_push_11 : decode cX7_push 11 = .ok (.invokestatic 79, 3) := by decide +kernel
theorem dX7_push_14 : decode cX7_push 14 = .ok (.ifCond .ne 6, 3) := by decide +kernel
theorem dX7_push_17 : decode cX7_push 17 = .ok (.bipush (-2), 2) := by decide +kernel
theorem dX7_push_19 : decode cX7_push 19 = .ok (.ireturn, 1) := by decide +kernel
theorem dX7_push_20 : decode cX7_push 20 = .ok (.aload_n 0, 1) := by decide +kernel
theorem dX7_push_21 : decode cX7_push 21 = .ok (.getfield 10, 3) := by decide +kernel
theorem dX7_push_24 : decode cX7_push 24 = .ok (.getfield 83, 3) := by decide +kernel
theorem dX7_push_27 : decode cX7_push 27 = .ok (.iload_n 1, 1) := by decide +kernel
theorem dX7_push_28 : decode cX7_push 28 = .ok (.iaload, 1) := by decide +kernel
theorem dX7_push_29 : decode cX7_push 29 = .ok (.istore_n 3, 1) := by decide +kernel
theorem dX7_push_30 : decode cX7_push 30 = .ok (.aload_n 0, 1) := by decide +kernel
theorem dX7_push_31 : decode cX7_push 31 = .ok (.getfield 10, 3) := by decide +kernel
theorem dX7_push_34 : decode cX7_push 34 = .ok (.getfield 83, 3) := by decide +kernel
theorem dX7_push_37 : decode cX7_push 37 = .ok (.iload_n 1, 1) := by decide +kernel
theorem dX7_push_38 : decode cX7_push 38 = .ok (.iload_n 2, 1) := by decide +kernel
theorem dX7_push_39 : decode cX7_push 39 = .ok (.iastore, 1) := by decide +kernel
theorem dX7_push_40 : decode cX7_push 40 = .ok (.iload_n 3, 1) := by decide +kernel
theorem dX7_push_41 : decode cX7_push 41 = .ok (.ireturn, 1) := by decide +kernel
theorem dX7_tide_0 : decode cX7_tide 0 = .ok (.iload_n 1, 1) := by decide +kernel
theorem dX7_tide_1 : decode cX7_tide 1 = .ok (.ifCond .lt 9, 3) := by decide +kernel
theorem dX7_tide_4 : decode cX7_tide 4 = .ok (.iload_n 1, 1) := by decide +kernel
theorem dX7_tide_5 : decode cX7_tide 5 = .ok (.bipush 40, 2) := by decide +kernel
theorem dX7_tide_7 : decode cX7_tide 7 = .ok (.if_icmp .le 6, 3) := by decide +kernel
theorem dX7_tide_10 : decode cX7_tide 10 = .ok (.bipush (-2), 2) := by decide +kernel
theorem dX7_tide_12 : decode cX7_tide 12 = .ok (.ireturn, 1) := by decide +kernel
theorem dX7_tide_13 : decode cX7_tide 13 = .ok (.aload_n 0, 1) := by decide +kernel
theorem dX7_tide_14 : decode cX7_tide 14 = .ok (.getfield 10, 3) := by decide +kernel
theorem dX7_tide_17 : decode cX7_tide 17 = .ok (.getfield 87, 3) := by decide +kernel
theorem dX7_tide_20 : decode cX7_tide 20 = .ok (.istore_n 2, 1) := by decide +kernel
theorem dX7_tide_21 : decode cX7_tide 21 = .ok (.aload_n 0, 1) := by decide +kernel
theorem dX7_tide_22 : decode cX7_tide 22 = .ok (.getfield 10, 3) := by decide +kernel
theorem dX7_tide_25 : decode cX7_tide 25 = .ok (.iload_n 1, 1) := by decide +kernel
theorem dX7_tide_26 : decode cX7_tide 26 = .ok (.putfield 87, 3) := by decide +kernel
theorem dX7_tide_29 : decode cX7_tide 29 = .ok (.iload_n 2, 1) := by decide +kernel
theorem dX7_tide_30 : decode cX7_tide 30 = .ok (.ireturn, 1) := by decide +kernel
theorem dX7_line_0 : decode cX7_line 0 = .ok (.iload_n 1, 1) := by decide +kernel
theorem dX7_line_1 : decode cX7_line 1 = .ok (.invokestatic 90, 3) := by decide +kernel
theorem dX7_line_4 : decode cX7_line 4 = .ok (.ifCond .eq 21, 3) := by decide +kernel
theorem dX7_line_7 : decode cX7_line 7 = .ok (.iload_n 2, 1) := by decide +kernel
theorem dX7_line_8 : decode cX7_line 8 = .ok (.bipush 99, 2) := by decide +kernel
theorem dX7_line_10 : decode cX7_line 10 = .ok (.invokestatic 79, 3) := by decide +kernel
theorem dX7_line_13 : decode cX7_line 13 = .ok (.ifCond .eq 12, 3) := by decide +kernel
theorem dX7_line_16 : decode cX7_line 16 = .ok (.iload_n 3, 1) := by decide +kernel
theorem dX7_line_17 : decode cX7_line 17 = .ok (.bipush 9, 2) := by decide +kernel
theorem dX7_line_19 : decode cX7_line 19 = .ok (.invokestatic 79, 3) := by decide +kernel
theorem dX7_line_22 : decode cX7_line 22 = .ok (.ifCond .ne 6, 3) := by decide +kernel
theorem dX7_line_25 : decode cX7_line 25 = .ok (.bipush (-2), 2) := by decide +kernel
theorem dX7_line_27 : decode cX7_line 27 = .ok (.ireturn, 1) := by decide +kernel
theorem dX7_line_28 : decode cX7_line 28 = .ok (.aload_n 0, 1) := by decide +kernel
theorem dX7_line_29 : decode cX7_line 29 = .ok (.getfield 10, 3) := by decide +kernel
theorem dX7_line_32 : decode cX7_line 32 = .ok (.getfield 93, 3) := by decide +kernel
theorem dX7_line_35 : decode cX7_line 35 = .ok (.bipush 6, 2) := by decide +kernel
theorem dX7_line_37 : decode cX7_line 37 = .ok (.if_icmp .lt 6, 3) := by decide +kernel
theorem dX7_line_40 : decode cX7_line 40 = .ok (.bipush (-4), 2) := by decide +kernel
theorem dX7_line_42 : decode cX7_line 42 = .ok (.ireturn, 1) := by decide +kernel
theorem dX7_line_43 : decode cX7_line 43 = .ok (.aload_n 0, 1) := by decide +kernel
theorem dX7_line_44 : decode cX7_line 44 = .ok (.getfield 10, 3) := by decide +kernel
theorem dX7_line_47 : decode cX7_line 47 = .ok (.iload_n 1, 1) := by decide +kernel
theorem dX7_line_48 : decode cX7_line 48 = .ok (.iload_n 2, 1) := by decide +kernel
theorem dX7_line_49 : decode cX7_line 49 = .ok (.iload_n 3, 1) := by decide +kernel
theorem dX7_line_50 : decode cX7_line 50 = .ok (.invokevirtual 96, 3) := by decide +kernel
theorem dX7_line_53 : decode cX7_line 53 = .ok (.ireturn, 1) := by decide +kernel
theorem dX7_slope_0 : decode cX7_slope 0 = .ok (.aload_n 0, 1) := by decide +kernel
theorem dX7_slope_1 : decode cX7_slope 1 = .ok (.iload_n 1, 1) := by decide +kernel
theorem dX7_slope_2 : decode cX7_slope 2 = .ok (.invokevirtual 100, 3) := by decide +kernel
theorem dX7_slope_5 : decode cX7_slope 5 = .ok (.ifCond .eq 21, 3) := by decide +kernel
theorem dX7_slope_8 : decode cX7_slope 8 = .ok (.iload_n 2, 1) := by decide +kernel
theorem dX7_slope_9 : decode cX7_slope 9 = .ok (.ifCond .lt 17, 3) := by decide +kernel
theorem dX7_slope_12 : decode cX7_slope 12 = .ok (.iload_n 2, 1) := by decide +kernel
theorem dX7_slope_13 : decode cX7_slope 13 = .ok (.iconst 3, 1) := by decide +kernel
theorem dX7_slope_14 : decode cX7_slope 14 = .ok (.if_icmp .ge 12, 3) := by decide +kernel
theorem dX7_slope_17 : decode cX7_slope 17 = .ok (.iload_n 3, 1) := by decide +kernel
theorem dX7_slope_18 : decode cX7_slope 18 = .ok (.bipush 9, 2) := by decide +kernel
theorem dX7_slope_20 : decode cX7_slope 20 = .ok (.invokestatic 79, 3) := by decide +kernel
theorem dX7_slope_23 : decode cX7_slope 23 = .ok (.ifCond .ne 6, 3) := by decide +kernel
theorem dX7_slope_26 : decode cX7_slope 26 = .ok (.bipush (-2), 2) := by decide +kernel
theorem dX7_slope_28 : decode cX7_slope 28 = .ok (.ireturn, 1) := by decide +kernel
theorem dX7_slope_29 : decode cX7_slope 29 = .ok (.aload_n 0, 1) := by decide +kernel
theorem dX7_slope_30 : decode cX7_slope 30 = .ok (.getfield 10, 3) := by decide +kernel
theorem dX7_slope_33 : decode cX7_slope 33 = .ok (.getfield 103, 3) := by decide +kernel
theorem dX7_slope_36 : decode cX7_slope 36 = .ok (.iload_n 1, 1) := by decide +kernel
theorem dX7_slope_37 : decode cX7_slope 37 = .ok (.iconst 3, 1) := by decide +kernel
theorem dX7_slope_38 : decode cX7_slope 38 = .ok (.imul, 1) := by decide +kernel
theorem dX7_slope_39 : decode cX7_slope 39 = .ok (.iload_n 2, 1) := by decide +kernel
theorem dX7_slope_40 : decode cX7_slope 40 = .ok (.iadd, 1) := by decide +kernel
theorem dX7_slope_41 : decode cX7_slope 41 = .ok (.iaload, 1) := by decide +kernel
theorem dX7_slope_42 : decode cX7_slope 42 = .ok (.istore 4, 2) := by decide +kernel
theorem dX7_slope_44 : decode cX7_slope 44 = .ok (.aload_n 0, 1) := by decide +kernel
theorem dX7_slope_45 : decode cX7_slope 45 = .ok (.getfield 10, 3) := by decide +kernel
theorem dX7_slope_48 : decode cX7_slope 48 = .ok (.getfield 103, 3) := by decide +kernel
theorem dX7_slope_51 : decode cX7_slope 51 = .ok (.iload_n 1, 1) := by decide +kernel
theorem dX7_slope_52 : decode cX7_slope 52 = .ok (.iconst 3, 1) := by decide +kernel
theorem dX7_slope_53 : decode cX7_slope 53 = .ok (.imul, 1) := by decide +kernel
theorem dX7_slope_54 : decode cX7_slope 54 = .ok (.iload_n 2, 1) := by decide +kernel
theorem dX7_slope_55 : decode cX7_slope 55 = .ok (.iadd, 1) := by decide +kernel
theorem dX7_slope_56 : decode cX7_slope 56 = .ok (.iload_n 3, 1) := by decide +kernel
theorem dX7_slope_57 : decode cX7_slope 57 = .ok (.iastore, 1) := by decide +kernel
theorem dX7_slope_58 : decode cX7_slope 58 = .ok (.iload 4, 2) := by decide +kernel
theorem dX7_slope_60 : decode cX7_slope 60 = .ok (.ireturn, 1) := by decide +kernel
theorem dX7_change_0 : decode cX7_change 0 = .ok (.aload_n 0, 1) := by decide +kernel
theorem dX7_change_1 : decode cX7_change 1 = .ok (.iload_n 1, 1) := by decide +kernel
theorem dX7_change_2 : decode cX7_change 2 = .ok (.invokevirtual 100, 3) := by decide +kernel
theorem dX7_change_5 : decode cX7_change 5 = .ok (.ifCond .eq 11, 3) := by decide +kernel
theorem dX7_change_8 : decode cX7_change 8 = .ok (.iload_n 2, 1) := by decide +kernel
theorem dX7_change_9 : decode cX7_change 9 = .ok (.iload_n 3, 1) := by decide +kernel
theorem dX7_change_10 : decode cX7_change 10 = .ok (.invokestatic 106, 3) := by decide +kernel
theorem dX7_change_13 : decode cX7_change 13 = .ok (.ifCond .ne 6, 3) := by decide +kernel
theorem dX7_change_16 : decode cX7_change 16 = .ok (.bipush (-2), 2) := by decide +kernel
theorem dX7_change_18 : decode cX7_change 18 = .ok (.ireturn, 1) := by decide +kernel
theorem dX7_change_19 : decode cX7_change 19 = .ok (.iload_n 2, 1) := by decide +kernel
theorem dX7_change_20 : decode cX7_change 20 = .ok (.ifCond .ne 13, 3) := by decide +kernel
theorem dX7_change_23 : decode cX7_change 23 = .ok (.aload_n 0, 1) := by decide +kernel
theorem dX7_change_24 : decode cX7_change 24 = .ok (.getfield 10, 3) := by decide +kernel
theorem dX7_change_27 : decode cX7_change 27 = .ok (.getfield 109, 3) := by decide +kernel
theorem dX7_change_30 : decode cX7_change 30 = .ok (.goto 25, 3) := by decide +kernel
theorem dX7_change_33 : decode cX7_change 33 = .ok (.iload_n 2, 1) := by decide +kernel
theorem dX7_change_34 : decode cX7_change 34 = .ok (.iconst 1, 1) := by decide +kernel
theorem dX7_change_35 : decode cX7_change 35 = .ok (.if_icmp .ne 13, 3) := by decide +kernel
theorem dX7_change_38 : decode cX7_change 38 = .ok (.aload_n 0, 1) := by decide +kernel
theorem dX7_change_39 : decode cX7_change 39 = .ok (.getfield 10, 3) := by decide +kernel
theorem dX7_change_42 : decode cX7_change 42 = .ok (.getfield 112, 3) := by decide +kernel
theorem dX7_change_45 : decode cX7_change 45 = .ok (.goto 10, 3) := by decide +kernel
theorem dX7_change_48 : decode cX7_change 48 = .ok (.aload_n 0, 1) := by decide +kernel
theorem dX7_change_49 : decode cX7_change 49 = .ok (.getfield 10, 3) := by decide +kernel
theorem dX7_change_52 : decode cX7_change 52 = .ok (.getfield 115, 3) := by decide +kernel
theorem dX7_change_55 : decode cX7_change 55 = .ok (.astore 4, 2) := by decide +kernel
theorem dX7_change_57 : decode cX7_change 57 = .ok (.aload 4, 2) := by decide +kernel
theorem dX7_change_59 : decode cX7_change 59 = .ok (.iload_n 1, 1) := by decide +kernel
theorem dX7_change_60 : decode cX7_change 60 = .ok (.iaload, 1) := by decide +kernel
theorem dX7_change_61 : decode cX7_change 61 = .ok (.istore 5, 2) := by decide +kernel
theorem dX7_change_63 : decode cX7_change 63 = .ok (.aload 4, 2) := by decide +kernel
theorem dX7_change_65 : decode cX7_change 65 = .ok (.iload_n 1, 1) := by decide +kernel
theorem dX7_change_66 : decode cX7_change 66 = .ok (.iload_n 3, 1) := by decide +kernel
theorem dX7_change_67 : decode cX7_change 67 = .ok (.iastore, 1) := by decide +kernel
theorem dX7_change_68 : decode cX7_change 68 = .ok (.iload 5, 2) := by decide +kernel
theorem dX7_change_70 : decode cX7_change 70 = .ok (.ireturn, 1) := by decide +kernel
theorem dX7_drop_0 : decode cX7_drop 0 = .ok (.aload_n 0, 1) := by decide +kernel
theorem dX7_drop_1 : decode cX7_drop 1 = .ok (.iload_n 1, 1) := by decide +kernel
theorem dX7_drop_2 : decode cX7_drop 2 = .ok (.invokevirtual 100, 3) := by decide +kernel
theorem dX7_drop_5 : decode cX7_drop 5 = .ok (.ifCond .ne 6, 3) := by decide +kernel
theorem dX7_drop_8 : decode cX7_drop 8 = .ok (.bipush (-2), 2) := by decide +kernel
theorem dX7_drop_10 : decode cX7_drop 10 = .ok (.ireturn, 1) := by decide +kernel
theorem dX7_drop_11 : decode cX7_drop 11 = .ok (.aload_n 0, 1) := by decide +kernel
theorem dX7_drop_12 : decode cX7_drop 12 = .ok (.getfield 10, 3) := by decide +kernel
theorem dX7_drop_15 : decode cX7_drop 15 = .ok (.iload_n 1, 1) := by decide +kernel
theorem dX7_drop_16 : decode cX7_drop 16 = .ok (.invokevirtual 118, 3) := by decide +kernel
theorem dX7_drop_19 : decode cX7_drop 19 = .ok (.aload_n 0, 1) := by decide +kernel
theorem dX7_drop_20 : decode cX7_drop 20 = .ok (.getfield 10, 3) := by decide +kernel
theorem dX7_drop_23 : decode cX7_drop 23 = .ok (.getfield 93, 3) := by decide +kernel
theorem dX7_drop_26 : decode cX7_drop 26 = .ok (.ireturn, 1) := by decide +kernel
theorem dX7_lineOf_0 : decode cX7_lineOf 0 = .ok (.aload_n 0, 1) := by decide +kernel
theorem dX7_lineOf_1 : decode cX7_lineOf 1 = .ok (.iload_n 1, 1) := by decide +kernel
theorem dX7_lineOf_2 : decode cX7_lineOf 2 = .ok (.invokevirtual 100, 3) := by decide +kernel
theorem dX7_lineOf_5 : decode cX7_lineOf 5 = .ok (.ifCond .ne 6, 3) := by decide +kernel
theorem dX7_lineOf_8 : decode cX7_lineOf 8 = .ok (.bipush (-2), 2) := by decide +kernel
theorem dX7_lineOf_10 : decode cX7_lineOf 10 = .ok (.ireturn, 1) := by decide +kernel
theorem dX7_lineOf_11 : decode cX7_lineOf 11 = .ok (.iload_n 2, 1) := by decide +kernel
theorem dX7_lineOf_12 : decode cX7_lineOf 12 = .ok (.tableswitch 116 0 6 #[44, 54, 64, 74, 90, 90, 90], 44) := by decide +kernel
theorem dX7_lineOf_56 : decode cX7_lineOf 56 = .ok (.aload_n 0, 1) := by decide +kernel
theorem dX7_lineOf_57 : decode cX7_lineOf 57 = .ok (.getfield 10, 3) := by decide +kernel
theorem dX7_lineOf_60 : decode cX7_lineOf 60 = .ok (.getfield 109, 3) := by decide +kernel
theorem dX7_lineOf_63 : decode cX7_lineOf 63 = .ok (.iload_n 1, 1) := by decide +kernel
theorem dX7_lineOf_64 : decode cX7_lineOf 64 = .ok (.iaload, 1) := by decide +kernel
theorem dX7_lineOf_65 : decode cX7_lineOf 65 = .ok (.ireturn, 1) := by decide +kernel
theorem dX7_lineOf_66 : decode cX7_lineOf 66 = .ok (.aload_n 0, 1) := by decide +kernel
theorem dX7_lineOf_67 : decode cX7_lineOf 67 = .ok (.getfield 10, 3) := by decide +kernel
theorem dX7_lineOf_70 : decode cX7_lineOf 70 = .ok (.getfield 112, 3) := by decide +kernel
theorem dX7_lineOf_73 : decode cX7_lineOf 73 = .ok (.iload_n 1, 1) := by decide +kernel
theorem dX7_lineOf_74 : decode cX7_lineOf 74 = .ok (.iaload, 1) := by decide +kernel
theorem dX7_lineOf_75 : decode cX7_lineOf 75 = .ok (.ireturn, 1) := by decide +kernel
theorem dX7_lineOf_76 : decode cX7_lineOf 76 = .ok (.aload_n 0, 1) := by decide +kernel
theorem dX7_lineOf_77 : decode cX7_lineOf 77 = .ok (.getfield 10, 3) := by decide +kernel
theorem dX7_lineOf_80 : decode cX7_lineOf 80 = .ok (.getfield 115, 3) := by decide +kernel
theorem dX7_lineOf_83 : decode cX7_lineOf 83 = .ok (.iload_n 1, 1) := by decide +kernel
theorem dX7_lineOf_84 : decode cX7_lineOf 84 = .ok (.iaload, 1) := by decide +kernel
theorem dX7_lineOf_85 : decode cX7_lineOf 85 = .ok (.ireturn, 1) := by decide +kernel
theorem dX7_lineOf_86 : decode cX7_lineOf 86 = .ok (.aload_n 0, 1) := by decide +kernel
theorem dX7_lineOf_87 : decode cX7_lineOf 87 = .ok (.getfield 10, 3) := by decide +kernel
theorem dX7_lineOf_90 : decode cX7_lineOf 90 = .ok (.iload_n 1, 1) := by decide +kernel
theorem dX7_lineOf_91 : decode cX7_lineOf 91 = .ok (.aload_n 0, 1) := by decide +kernel
theorem dX7_lineOf_92 : decode cX7_lineOf 92 = .ok (.getfield 10, 3) := by decide +kernel
theorem dX7_lineOf_95 : decode cX7_lineOf 95 = .ok (.getfield 87, 3) := by decide +kernel
theorem dX7_lineOf_98 : decode cX7_lineOf 98 = .ok (.invokevirtual 121, 3) := by decide +kernel
theorem dX7_lineOf_101 : decode cX7_lineOf 101 = .ok (.ireturn, 1) := by decide +kernel
theorem dX7_lineOf_102 : decode cX7_lineOf 102 = .ok (.aload_n 0, 1) := by decide +kernel
theorem dX7_lineOf_103 : decode cX7_lineOf 103 = .ok (.iload_n 2, 1) := by decide +kernel
theorem dX7_lineOf_104 : decode cX7_lineOf 104 = .ok (.iconst 4, 1) := by decide +kernel
theorem dX7_lineOf_105 : decode cX7_lineOf 105 = .ok (.isub, 1) := by decide +kernel
theorem dX7_lineOf_106 : decode cX7_lineOf 106 = .ok (.invokevirtual 63, 3) := by decide +kernel
theorem dX7_lineOf_109 : decode cX7_lineOf 109 = .ok (.ifCond .eq 17, 3) := by decide +kernel
theorem dX7_lineOf_112 : decode cX7_lineOf 112 = .ok (.aload_n 0, 1) := by decide +kernel
theorem dX7_lineOf_113 : decode cX7_lineOf 113 = .ok (.getfield 10, 3) := by decide +kernel
theorem dX7_lineOf_116 : decode cX7_lineOf 116 = .ok (.iload_n 1, 1) := by decide +kernel
theorem dX7_lineOf_117 : decode cX7_lineOf 117 = .ok (.iload_n 2, 1) := by decide +kernel
theorem dX7_lineOf_118 : decode cX7_lineOf 118 = .ok (.iconst 4, 1) := by decide +kernel
theorem dX7_lineOf_119 : decode cX7_lineOf 119 = .ok (.isub, 1) := by decide +kernel
theorem dX7_lineOf_120 : decode cX7_lineOf 120 = .ok (.invokevirtual 124, 3) := by decide +kernel
theorem dX7_lineOf_123 : decode cX7_lineOf 123 = .ok (.goto 4, 3) := by decide +kernel
theorem dX7_lineOf_126 : decode cX7_lineOf 126 = .ok (.iconst 0, 1) := by decide +kernel
theorem dX7_lineOf_127 : decode cX7_lineOf 127 = .ok (.ireturn, 1) := by decide +kernel
theorem dX7_lineOf_128 : decode cX7_lineOf 128 = .ok (.bipush (-2), 2) := by decide +kernel
theorem dX7_lineOf_130 : decode cX7_lineOf 130 = .ok (.ireturn, 1) := by decide +kernel
theorem dX7_minor_0 : decode cX7_minor 0 = .ok (.iload_n 1, 1) := by decide +kernel
theorem dX7_minor_1 : decode cX7_minor 1 = .ok (.iconst 1, 1) := by decide +kernel
theorem dX7_minor_2 : decode cX7_minor 2 = .ok (.if_icmp .lt 14, 3) := by decide +kernel
theorem dX7_minor_5 : decode cX7_minor 5 = .ok (.iload_n 1, 1) := by decide +kernel
theorem dX7_minor_6 : decode cX7_minor 6 = .ok (.aload_n 0, 1) := by decide +kernel
theorem dX7_minor_7 : decode cX7_minor 7 = .ok (.getfield 10, 3) := by decide +kernel
theorem dX7_minor_10 : decode cX7_minor 10 = .ok (.getfield 59, 3) := by decide +kernel
theorem dX7_minor_13 : decode cX7_minor 13 = .ok (.if_icmp .le 8, 3) := by decide +kernel
theorem dX7_minor_16 : decode cX7_minor 16 = .ok (.bipush (-2), 2) := by decide +kernel
theorem dX7_minor_18 : decode cX7_minor 18 = .ok (.goto 11, 3) := by decide +kernel
theorem dX7_minor_21 : decode cX7_minor 21 = .ok (.aload_n 0, 1) := by decide +kernel
theorem dX7_minor_22 : decode cX7_minor 22 = .ok (.getfield 10, 3) := by decide +kernel
theorem dX7_minor_25 : decode cX7_minor 25 = .ok (.iload_n 1, 1) := by decide +kernel
theorem dX7_minor_26 : decode cX7_minor 26 = .ok (.invokevirtual 127, 3) := by decide +kernel
theorem dX7_minor_29 : decode cX7_minor 29 = .ok (.ireturn, 1) := by decide +kernel
theorem dX7_isProper_0 : decode cX7_isProper 0 = .ok (.aload_n 0, 1) := by decide +kernel
theorem dX7_isProper_1 : decode cX7_isProper 1 = .ok (.getfield 10, 3) := by decide +kernel
theorem dX7_isProper_4 : decode cX7_isProper 4 = .ok (.invokevirtual 131, 3) := by decide +kernel
theorem dX7_isProper_7 : decode cX7_isProper 7 = .ok (.ifCond .eq 7, 3) := by decide +kernel
theorem dX7_isProper_10 : decode cX7_isProper 10 = .ok (.iconst 1, 1) := by decide +kernel
theorem dX7_isProper_11 : decode cX7_isProper 11 = .ok (.goto 4, 3) := by decide +kernel
theorem dX7_isProper_14 : decode cX7_isProper 14 = .ok (.iconst 0, 1) := by decide +kernel
theorem dX7_isProper_15 : decode cX7_isProper 15 = .ok (.ireturn, 1) := by decide +kernel
theorem dX7_working_0 : decode cX7_working 0 = .ok (.aload_n 0, 1) := by decide +kernel
theorem dX7_working_1 : decode cX7_working 1 = .ok (.aload_n 0, 1) := by decide +kernel
theorem dX7_working_2 : decode cX7_working 2 = .ok (.iload_n 1, 1) := by decide +kernel
theorem dX7_working_3 : decode cX7_working 3 = .ok (.invokevirtual 135, 3) := by decide +kernel
theorem dX7_working_6 : decode cX7_working 6 = .ok (.ifCond .ne 7, 3) := by decide +kernel
theorem dX7_working_9 : decode cX7_working 9 = .ok (.iconst 1, 1) := by decide +kernel
theorem dX7_working_10 : decode cX7_working 10 = .ok (.goto 4, 3) := by decide +kernel
theorem dX7_working_13 : decode cX7_working 13 = .ok (.iconst 0, 1) := by decide +kernel
theorem dX7_working_14 : decode cX7_working 14 = .ok (.iload_n 1, 1) := by decide +kernel
theorem dX7_working_15 : decode cX7_working 15 = .ok (.invokevirtual 138, 3) := by decide +kernel
theorem dX7_working_18 : decode cX7_working 18 = .ok (.ireturn, 1) := by decide +kernel
theorem dX7_answer_0 : decode cX7_answer 0 = .ok (.aload_n 0, 1) := by decide +kernel
theorem dX7_answer_1 : decode cX7_answer 1 = .ok (.aload_n 0, 1) := by decide +kernel
theorem dX7_answer_2 : decode cX7_answer 2 = .ok (.iload_n 1, 1) := by decide +kernel
theorem dX7_answer_3 : decode cX7_answer 3 = .ok (.invokevirtual 135, 3) := by decide +kernel
theorem dX7_answer_6 : decode cX7_answer 6 = .ok (.ifCond .eq 18, 3) := by decide +kernel
theorem dX7_answer_9 : decode cX7_answer 9 = .ok (.aload_n 0, 1) := by decide +kernel
theorem dX7_answer_10 : decode cX7_answer 10 = .ok (.iload_n 2, 1) := by decide +kernel
theorem dX7_answer_11 : decode cX7_answer 11 = .ok (.invokevirtual 63, 3) := by decide +kernel
theorem dX7_answer_14 : decode cX7_answer 14 = .ok (.ifCond .eq 10, 3) := by decide +kernel
theorem dX7_answer_17 : decode cX7_answer 17 = .ok (.iload_n 3, 1) := by decide +kernel
theorem dX7_answer_18 : decode cX7_answer 18 = .ok (.invokestatic 142, 3) := by decide +kernel
theorem dX7_answer_21 : decode cX7_answer 21 = .ok (.ifCond .ne 7, 3) := by decide +kernel
theorem dX7_answer_24 : decode cX7_answer 24 = .ok (.iconst 1, 1) := by decide +kernel
theorem dX7_answer_25 : decode cX7_answer 25 = .ok (.goto 4, 3) := by decide +kernel
theorem dX7_answer_28 : decode cX7_answer 28 = .ok (.iconst 0, 1) := by decide +kernel
theorem dX7_answer_29 : decode cX7_answer 29 = .ok (.iload_n 1, 1) := by decide +kernel
theorem dX7_answer_30 : decode cX7_answer 30 = .ok (.invokevirtual 138, 3) := by decide +kernel
theorem dX7_answer_33 : decode cX7_answer 33 = .ok (.istore 4, 2) := by decide +kernel
theorem dX7_answer_35 : decode cX7_answer 35 = .ok (.iload 4, 2) := by decide +kernel
theorem dX7_answer_37 : decode cX7_answer 37 = .ok (.ifCond .ge 11, 3) := by decide +kernel
theorem dX7_answer_40 : decode cX7_answer 40 = .ok (.ldc2_w 145, 3) := by decide +kernel
theorem dX7_answer_43 : decode cX7_answer 43 = .ok (.iload 4, 2) := by decide +kernel
theorem dX7_answer_45 : decode cX7_answer 45 = .ok (.i2l, 1) := by decide +kernel
theorem dX7_answer_46 : decode cX7_answer 46 = .ok (.ladd, 1) := by decide +kernel
theorem dX7_answer_47 : decode cX7_answer 47 = .ok (.lreturn, 1) := by decide +kernel
theorem dX7_answer_48 : decode cX7_answer 48 = .ok (.aload_n 0, 1) := by decide +kernel
theorem dX7_answer_49 : decode cX7_answer 49 = .ok (.getfield 27, 3) := by decide +kernel
theorem dX7_answer_52 : decode cX7_answer 52 = .ok (.getfield 147, 3) := by decide +kernel
theorem dX7_answer_55 : decode cX7_answer 55 = .ok (.getfield 151, 3) := by decide +kernel
theorem dX7_answer_58 : decode cX7_answer 58 = .ok (.iload_n 2, 1) := by decide +kernel
theorem dX7_answer_59 : decode cX7_answer 59 = .ok (.laload, 1) := by decide +kernel
theorem dX7_answer_60 : decode cX7_answer 60 = .ok (.aload_n 0, 1) := by decide +kernel
theorem dX7_answer_61 : decode cX7_answer 61 = .ok (.getfield 27, 3) := by decide +kernel
theorem dX7_answer_64 : decode cX7_answer 64 = .ok (.getfield 147, 3) := by decide +kernel
theorem dX7_answer_67 : decode cX7_answer 67 = .ok (.getfield 157, 3) := by decide +kernel
theorem dX7_answer_70 : decode cX7_answer 70 = .ok (.iload_n 3, 1) := by decide +kernel
theorem dX7_answer_71 : decode cX7_answer 71 = .ok (.invokestatic 161, 3) := by decide +kernel
theorem dX7_answer_74 : decode cX7_answer 74 = .ok (.lreturn, 1) := by decide +kernel
theorem dX7_worth_0 : decode cX7_worth 0 = .ok (.aload_n 0, 1) := by decide +kernel
theorem dX7_worth_1 : decode cX7_worth 1 = .ok (.aload_n 0, 1) := by decide +kernel
theorem dX7_worth_2 : decode cX7_worth 2 = .ok (.iload_n 1, 1) := by decide +kernel
theorem dX7_worth_3 : decode cX7_worth 3 = .ok (.invokevirtual 135, 3) := by decide +kernel
theorem dX7_worth_6 : decode cX7_worth 6 = .ok (.ifCond .eq 10, 3) := by decide +kernel
theorem dX7_worth_9 : decode cX7_worth 9 = .ok (.iload_n 2, 1) := by decide +kernel
theorem dX7_worth_10 : decode cX7_worth 10 = .ok (.invokestatic 142, 3) := by decide +kernel
theorem dX7_worth_13 : decode cX7_worth 13 = .ok (.ifCond .ne 7, 3) := by decide +kernel
theorem dX7_worth_16 : decode cX7_worth 16 = .ok (.iconst 1, 1) := by decide +kernel
theorem dX7_worth_17 : decode cX7_worth 17 = .ok (.goto 4, 3) := by decide +kernel
theorem dX7_worth_20 : decode cX7_worth 20 = .ok (.iconst 0, 1) := by decide +kernel
theorem dX7_worth_21 : decode cX7_worth 21 = .ok (.iload_n 1, 1) := by decide +kernel
theorem dX7_worth_22 : decode cX7_worth 22 = .ok (.invokevirtual 138, 3) := by decide +kernel
theorem dX7_worth_25 : decode cX7_worth 25 = .ok (.istore_n 3, 1) := by decide +kernel
theorem dX7_worth_26 : decode cX7_worth 26 = .ok (.iload_n 3, 1) := by decide +kernel
theorem dX7_worth_27 : decode cX7_worth 27 = .ok (.ifCond .ge 10, 3) := by decide +kernel
theorem dX7_worth_30 : decode cX7_worth 30 = .ok (.ldc2_w 145, 3) := by decide +kernel
theorem dX7_worth_33 : decode cX7_worth 33 = .ok (.iload_n 3, 1) := by decide +kernel
theorem dX7_worth_34 : decode cX7_worth 34 = .ok (.i2l, 1) := by decide +kernel
theorem dX7_worth_35 : decode cX7_worth 35 = .ok (.ladd, 1) := by decide +kernel
theorem dX7_worth_36 : decode cX7_worth 36 = .ok (.lreturn, 1) := by decide +kernel
theorem dX7_worth_37 : decode cX7_worth 37 = .ok (.aload_n 0, 1) := by decide +kernel
theorem dX7_worth_38 : decode cX7_worth 38 = .ok (.getfield 27, 3) := by decide +kernel
theorem dX7_worth_41 : decode cX7_worth 41 = .ok (.invokevirtual 167, 3) := by decide +kernel
theorem dX7_worth_44 : decode cX7_worth 44 = .ok (.ldc2_w 171, 3) := by decide +kernel
theorem dX7_worth_47 : decode cX7_worth 47 = .ok (.aload_n 0, 1) := by decide +kernel
theorem dX7_worth_48 : decode cX7_worth 48 = .ok (.getfield 27, 3) := by decide +kernel
theorem dX7_worth_51 : decode cX7_worth 51 = .ok (.getfield 147, 3) := by decide +kernel
theorem dX7_worth_54 : decode cX7_worth 54 = .ok (.getfield 157, 3) := by decide +kernel
theorem dX7_worth_57 : decode cX7_worth 57 = .ok (.lmul, 1) := by decide +kernel
theorem dX7_worth_58 : decode cX7_worth 58 = .ok (.iload_n 2, 1) := by decide +kernel
theorem dX7_worth_59 : decode cX7_worth 59 = .ok (.invokestatic 161, 3) := by decide +kernel
theorem dX7_worth_62 : decode cX7_worth 62 = .ok (.lreturn, 1) := by decide +kernel
theorem dX7_weight_0 : decode cX7_weight 0 = .ok (.aload_n 0, 1) := by decide +kernel
theorem dX7_weight_1 : decode cX7_weight 1 = .ok (.aload_n 0, 1) := by decide +kernel
theorem dX7_weight_2 : decode cX7_weight 2 = .ok (.iload_n 1, 1) := by decide +kernel
theorem dX7_weight_3 : decode cX7_weight 3 = .ok (.invokevirtual 135, 3) := by decide +kernel
theorem dX7_weight_6 : decode cX7_weight 6 = .ok (.ifCond .eq 26, 3) := by decide +kernel
theorem dX7_weight_9 : decode cX7_weight 9 = .ok (.aload_n 0, 1) := by decide +kernel
theorem dX7_weight_10 : decode cX7_weight 10 = .ok (.iload_n 2, 1) := by decide +kernel
theorem dX7_weight_11 : decode cX7_weight 11 = .ok (.invokevirtual 100, 3) := by decide +kernel
theorem dX7_weight_14 : decode cX7_weight 14 = .ok (.ifCond .eq 18, 3) := by decide +kernel
theorem dX7_weight_17 : decode cX7_weight 17 = .ok (.iload_n 1, 1) := by decide +kernel
theorem dX7_weight_18 : decode cX7_weight 18 = .ok (.iload_n 2, 1) := by decide +kernel
theorem dX7_weight_19 : decode cX7_weight 19 = .ok (.invokestatic 173, 3) := by decide +kernel
theorem dX7_weight_22 : decode cX7_weight 22 = .ok (.ifCond .eq 10, 3) := by decide +kernel
theorem dX7_weight_25 : decode cX7_weight 25 = .ok (.iload_n 3, 1) := by decide +kernel
theorem dX7_weight_26 : decode cX7_weight 26 = .ok (.invokestatic 142, 3) := by decide +kernel
theorem dX7_weight_29 : decode cX7_weight 29 = .ok (.ifCond .ne 7, 3) := by decide +kernel
theorem dX7_weight_32 : decode cX7_weight 32 = .ok (.iconst 1, 1) := by decide +kernel
theorem dX7_weight_33 : decode cX7_weight 33 = .ok (.goto 4, 3) := by decide +kernel
theorem dX7_weight_36 : decode cX7_weight 36 = .ok (.iconst 0, 1) := by decide +kernel
theorem dX7_weight_37 : decode cX7_weight 37 = .ok (.iload_n 1, 1) := by decide +kernel
theorem dX7_weight_38 : decode cX7_weight 38 = .ok (.invokevirtual 138, 3) := by decide +kernel
theorem dX7_weight_41 : decode cX7_weight 41 = .ok (.istore 4, 2) := by decide +kernel
theorem dX7_weight_43 : decode cX7_weight 43 = .ok (.iload 4, 2) := by decide +kernel
theorem dX7_weight_45 : decode cX7_weight 45 = .ok (.ifCond .ge 11, 3) := by decide +kernel
theorem dX7_weight_48 : decode cX7_weight 48 = .ok (.ldc2_w 145, 3) := by decide +kernel
theorem dX7_weight_51 : decode cX7_weight 51 = .ok (.iload 4, 2) := by decide +kernel
theorem dX7_weight_53 : decode cX7_weight 53 = .ok (.i2l, 1) := by decide +kernel
theorem dX7_weight_54 : decode cX7_weight 54 = .ok (.ladd, 1) := by decide +kernel
theorem dX7_weight_55 : decode cX7_weight 55 = .ok (.lreturn, 1) := by decide +kernel
theorem dX7_weight_56 : decode cX7_weight 56 = .ok (.aload_n 0, 1) := by decide +kernel
theorem dX7_weight_57 : decode cX7_weight 57 = .ok (.getfield 27, 3) := by decide +kernel
theorem dX7_weight_60 : decode cX7_weight 60 = .ok (.getfield 147, 3) := by decide +kernel
theorem dX7_weight_63 : decode cX7_weight 63 = .ok (.getfield 176, 3) := by decide +kernel
theorem dX7_weight_66 : decode cX7_weight 66 = .ok (.iload_n 2, 1) := by decide +kernel
theorem dX7_weight_67 : decode cX7_weight 67 = .ok (.laload, 1) := by decide +kernel
theorem dX7_weight_68 : decode cX7_weight 68 = .ok (.aload_n 0, 1) := by decide +kernel
theorem dX7_weight_69 : decode cX7_weight 69 = .ok (.getfield 27, 3) := by decide +kernel
theorem dX7_weight_72 : decode cX7_weight 72 = .ok (.getfield 147, 3) := by decide +kernel
theorem dX7_weight_75 : decode cX7_weight 75 = .ok (.getfield 157, 3) := by decide +kernel
theorem dX7_weight_78 : decode cX7_weight 78 = .ok (.iload_n 3, 1) := by decide +kernel
theorem dX7_weight_79 : decode cX7_weight 79 = .ok (.invokestatic 161, 3) := by decide +kernel
theorem dX7_weight_82 : decode cX7_weight 82 = .ok (.lreturn, 1) := by decide +kernel
theorem dX7_slack_0 : decode cX7_slack 0 = .ok (.aload_n 0, 1) := by decide +kernel
theorem dX7_slack_1 : decode cX7_slack 1 = .ok (.aload_n 0, 1) := by decide +kernel
theorem dX7_slack_2 : decode cX7_slack 2 = .ok (.iload_n 1, 1) := by decide +kernel
theorem dX7_slack_3 : decode cX7_slack 3 = .ok (.invokevirtual 135, 3) := by decide +kernel
theorem dX7_slack_6 : decode cX7_slack 6 = .ok (.ifCond .eq 18, 3) := by decide +kernel
theorem dX7_slack_9 : decode cX7_slack 9 = .ok (.aload_n 0, 1) := by decide +kernel
theorem dX7_slack_10 : decode cX7_slack 10 = .ok (.iload_n 2, 1) := by decide +kernel
theorem dX7_slack_11 : decode cX7_slack 11 = .ok (.invokevirtual 100, 3) := by decide +kernel
theorem dX7_slack_14 : decode cX7_slack 14 = .ok (.ifCond .eq 10, 3) := by decide +kernel
theorem dX7_slack_17 : decode cX7_slack 17 = .ok (.iload_n 3, 1) := by decide +kernel
theorem dX7_slack_18 : decode cX7_slack 18 = .ok (.invokestatic 142, 3) := by decide +kernel
theorem dX7_slack_21 : decode cX7_slack 21 = .ok (.ifCond .ne 7, 3) := by decide +kernel
theorem dX7_slack_24 : decode cX7_slack 24 = .ok (.iconst 1, 1) := by decide +kernel
theorem dX7_slack_25 : decode cX7_slack 25 = .ok (.goto 4, 3) := by decide +kernel
theorem dX7_slack_28 : decode cX7_slack 28 = .ok (.iconst 0, 1) := by decide +kernel
theorem dX7_slack_29 : decode cX7_slack 29 = .ok (.iload_n 1, 1) := by decide +kernel
theorem dX7_slack_30 : decode cX7_slack 30 = .ok (.invokevirtual 138, 3) := by decide +kernel
theorem dX7_slack_33 : decode cX7_slack 33 = .ok (.istore 4, 2) := by decide +kernel
theorem dX7_slack_35 : decode cX7_slack 35 = .ok (.iload 4, 2) := by decide +kernel
theorem dX7_slack_37 : decode cX7_slack 37 = .ok (.ifCond .ge 11, 3) := by decide +kernel
theorem dX7_slack_40 : decode cX7_slack 40 = .ok (.ldc2_w 145, 3) := by decide +kernel
theorem dX7_slack_43 : decode cX7_slack 43 = .ok (.iload 4, 2) := by decide +kernel
theorem dX7_slack_45 : decode cX7_slack 45 = .ok (.i2l, 1) := by decide +kernel
theorem dX7_slack_46 : decode cX7_slack 46 = .ok (.ladd, 1) := by decide +kernel
theorem dX7_slack_47 : decode cX7_slack 47 = .ok (.lreturn, 1) := by decide +kernel
theorem dX7_slack_48 : decode cX7_slack 48 = .ok (.aload_n 0, 1) := by decide +kernel
theorem dX7_slack_49 : decode cX7_slack 49 = .ok (.getfield 27, 3) := by decide +kernel
theorem dX7_slack_52 : decode cX7_slack 52 = .ok (.iload_n 2, 1) := by decide +kernel
theorem dX7_slack_53 : decode cX7_slack 53 = .ok (.invokevirtual 179, 3) := by decide +kernel
theorem dX7_slack_56 : decode cX7_slack 56 = .ok (.aload_n 0, 1) := by decide +kernel
theorem dX7_slack_57 : decode cX7_slack 57 = .ok (.getfield 27, 3) := by decide +kernel
theorem dX7_slack_60 : decode cX7_slack 60 = .ok (.getfield 147, 3) := by decide +kernel
theorem dX7_slack_63 : decode cX7_slack 63 = .ok (.getfield 157, 3) := by decide +kernel
theorem dX7_slack_66 : decode cX7_slack 66 = .ok (.iload_n 3, 1) := by decide +kernel
theorem dX7_slack_67 : decode cX7_slack 67 = .ok (.invokestatic 161, 3) := by decide +kernel
theorem dX7_slack_70 : decode cX7_slack 70 = .ok (.lreturn, 1) := by decide +kernel
theorem dX7_held_0 : decode cX7_held 0 = .ok (.aload_n 0, 1) := by decide +kernel
theorem dX7_held_1 : decode cX7_held 1 = .ok (.aload_n 0, 1) := by decide +kernel
theorem dX7_held_2 : decode cX7_held 2 = .ok (.iload_n 1, 1) := by decide +kernel
theorem dX7_held_3 : decode cX7_held 3 = .ok (.invokevirtual 135, 3) := by decide +kernel
theorem dX7_held_6 : decode cX7_held 6 = .ok (.ifCond .ne 7, 3) := by decide +kernel
theorem dX7_held_9 : decode cX7_held 9 = .ok (.iconst 1, 1) := by decide +kernel
theorem dX7_held_10 : decode cX7_held 10 = .ok (.goto 4, 3) := by decide +kernel
theorem dX7_held_13 : decode cX7_held 13 = .ok (.iconst 0, 1) := by decide +kernel
theorem dX7_held_14 : decode cX7_held 14 = .ok (.iload_n 1, 1) := by decide +kernel
theorem dX7_held_15 : decode cX7_held 15 = .ok (.invokevirtual 138, 3) := by decide +kernel
theorem dX7_held_18 : decode cX7_held 18 = .ok (.istore_n 2, 1) := by decide +kernel
theorem dX7_held_19 : decode cX7_held 19 = .ok (.iload_n 2, 1) := by decide +kernel
theorem dX7_held_20 : decode cX7_held 20 = .ok (.ifCond .ge 7, 3) := by decide +kernel
theorem dX7_held_23 : decode cX7_held 23 = .ok (.iload_n 2, 1) := by decide +kernel
theorem dX7_held_24 : decode cX7_held 24 = .ok (.goto 10, 3) := by decide +kernel
theorem dX7_held_27 : decode cX7_held 27 = .ok (.aload_n 0, 1) := by decide +kernel
theorem dX7_held_28 : decode cX7_held 28 = .ok (.getfield 27, 3) := by decide +kernel
theorem dX7_held_31 : decode cX7_held 31 = .ok (.invokevirtual 183, 3) := by decide +kernel
theorem dX7_held_34 : decode cX7_held 34 = .ok (.ireturn, 1) := by decide +kernel
theorem dX7_tight_0 : decode cX7_tight 0 = .ok (.aload_n 0, 1) := by decide +kernel
theorem dX7_tight_1 : decode cX7_tight 1 = .ok (.aload_n 0, 1) := by decide +kernel
theorem dX7_tight_2 : decode cX7_tight 2 = .ok (.iload_n 1, 1) := by decide +kernel
theorem dX7_tight_3 : decode cX7_tight 3 = .ok (.invokevirtual 135, 3) := by decide +kernel
theorem dX7_tight_6 : decode cX7_tight 6 = .ok (.ifCond .ne 7, 3) := by decide +kernel
theorem dX7_tight_9 : decode cX7_tight 9 = .ok (.iconst 1, 1) := by decide +kernel
theorem dX7_tight_10 : decode cX7_tight 10 = .ok (.goto 4, 3) := by decide +kernel
theorem dX7_tight_13 : decode cX7_tight 13 = .ok (.iconst 0, 1) := by decide +kernel
theorem dX7_tight_14 : decode cX7_tight 14 = .ok (.iload_n 1, 1) := by decide +kernel
theorem dX7_tight_15 : decode cX7_tight 15 = .ok (.invokevirtual 138, 3) := by decide +kernel
theorem dX7_tight_18 : decode cX7_tight 18 = .ok (.istore_n 2, 1) := by decide +kernel
theorem dX7_tight_19 : decode cX7_tight 19 = .ok (.iload_n 2, 1) := by decide +kernel
theorem dX7_tight_20 : decode cX7_tight 20 = .ok (.ifCond .ge 7, 3) := by decide +kernel
theorem dX7_tight_23 : decode cX7_tight 23 = .ok (.iload_n 2, 1) := by decide +kernel
theorem dX7_tight_24 : decode cX7_tight 24 = .ok (.goto 10, 3) := by decide +kernel
theorem dX7_tight_27 : decode cX7_tight 27 = .ok (.aload_n 0, 1) := by decide +kernel
theorem dX7_tight_28 : decode cX7_tight 28 = .ok (.getfield 27, 3) := by decide +kernel
theorem dX7_tight_31 : decode cX7_tight 31 = .ok (.invokevirtual 187, 3) := by decide +kernel
theorem dX7_tight_34 : decode cX7_tight 34 = .ok (.ireturn, 1) := by decide +kernel
theorem dX7_steps_0 : decode cX7_steps 0 = .ok (.aload_n 0, 1) := by decide +kernel
theorem dX7_steps_1 : decode cX7_steps 1 = .ok (.getfield 10, 3) := by decide +kernel
theorem dX7_steps_4 : decode cX7_steps 4 = .ok (.invokevirtual 131, 3) := by decide +kernel
theorem dX7_steps_7 : decode cX7_steps 7 = .ok (.ifCond .ne 6, 3) := by decide +kernel
theorem dX7_steps_10 : decode cX7_steps 10 = .ok (.bipush (-3), 2) := by decide +kernel
theorem dX7_steps_12 : decode cX7_steps 12 = .ok (.ireturn, 1) := by decide +kernel
theorem dX7_steps_13 : decode cX7_steps 13 = .ok (.aload_n 0, 1) := by decide +kernel
theorem dX7_steps_14 : decode cX7_steps 14 = .ok (.getfield 27, 3) := by decide +kernel
theorem dX7_steps_17 : decode cX7_steps 17 = .ok (.invokevirtual 190, 3) := by decide +kernel
theorem dX7_steps_20 : decode cX7_steps 20 = .ok (.ifCond .eq 15, 3) := by decide +kernel
theorem dX7_steps_23 : decode cX7_steps 23 = .ok (.aload_n 0, 1) := by decide +kernel
theorem dX7_steps_24 : decode cX7_steps 24 = .ok (.getfield 27, 3) := by decide +kernel
theorem dX7_steps_27 : decode cX7_steps 27 = .ok (.getfield 193, 3) := by decide +kernel
theorem dX7_steps_30 : decode cX7_steps 30 = .ok (.iconst 1, 1) := by decide +kernel
theorem dX7_steps_31 : decode cX7_steps 31 = .ok (.isub, 1) := by decide +kernel
theorem dX7_steps_32 : decode cX7_steps 32 = .ok (.goto 4, 3) := by decide +kernel
theorem dX7_steps_35 : decode cX7_steps 35 = .ok (.iconst (-1), 1) := by decide +kernel
theorem dX7_steps_36 : decode cX7_steps 36 = .ok (.ireturn, 1) := by decide +kernel
theorem dX7_walk_0 : decode cX7_walk 0 = .ok (.aload_n 0, 1) := by decide +kernel
theorem dX7_walk_1 : decode cX7_walk 1 = .ok (.getfield 10, 3) := by decide +kernel
theorem dX7_walk_4 : decode cX7_walk 4 = .ok (.invokevirtual 131, 3) := by decide +kernel
theorem dX7_walk_7 : decode cX7_walk 7 = .ok (.ifCond .ne 6, 3) := by decide +kernel
theorem dX7_walk_10 : decode cX7_walk 10 = .ok (.bipush (-3), 2) := by decide +kernel
theorem dX7_walk_12 : decode cX7_walk 12 = .ok (.ireturn, 1) := by decide +kernel
theorem dX7_walk_13 : decode cX7_walk 13 = .ok (.aload_n 0, 1) := by decide +kernel
theorem dX7_walk_14 : decode cX7_walk 14 = .ok (.getfield 27, 3) := by decide +kernel
theorem dX7_walk_17 : decode cX7_walk 17 = .ok (.invokevirtual 190, 3) := by decide +kernel
theorem dX7_walk_20 : decode cX7_walk 20 = .ok (.pop, 1) := by decide +kernel
theorem dX7_walk_21 : decode cX7_walk 21 = .ok (.iload_n 1, 1) := by decide +kernel
theorem dX7_walk_22 : decode cX7_walk 22 = .ok (.ifCond .lt 14, 3) := by decide +kernel
theorem dX7_walk_25 : decode cX7_walk 25 = .ok (.iload_n 1, 1) := by decide +kernel
theorem dX7_walk_26 : decode cX7_walk 26 = .ok (.aload_n 0, 1) := by decide +kernel
theorem dX7_walk_27 : decode cX7_walk 27 = .ok (.getfield 27, 3) := by decide +kernel
theorem dX7_walk_30 : decode cX7_walk 30 = .ok (.getfield 193, 3) := by decide +kernel
theorem dX7_walk_33 : decode cX7_walk 33 = .ok (.if_icmp .lt 8, 3) := by decide +kernel
theorem dX7_walk_36 : decode cX7_walk 36 = .ok (.bipush (-12), 2) := by decide +kernel
theorem dX7_walk_38 : decode cX7_walk 38 = .ok (.goto 12, 3) := by decide +kernel
theorem dX7_walk_41 : decode cX7_walk 41 = .ok (.aload_n 0, 1) := by decide +kernel
theorem dX7_walk_42 : decode cX7_walk 42 = .ok (.getfield 27, 3) := by decide +kernel
theorem dX7_walk_45 : decode cX7_walk 45 = .ok (.getfield 196, 3) := by decide +kernel
theorem dX7_walk_48 : decode cX7_walk 48 = .ok (.iload_n 1, 1) := by decide +kernel
theorem dX7_walk_49 : decode cX7_walk 49 = .ok (.iaload, 1) := by decide +kernel
theorem dX7_walk_50 : decode cX7_walk 50 = .ok (.ireturn, 1) := by decide +kernel
theorem dX7_pieces_0 : decode cX7_pieces 0 = .ok (.iload_n 1, 1) := by decide +kernel
theorem dX7_pieces_1 : decode cX7_pieces 1 = .ok (.iconst 1, 1) := by decide +kernel
theorem dX7_pieces_2 : decode cX7_pieces 2 = .ok (.if_icmp .lt 9, 3) := by decide +kernel
theorem dX7_pieces_5 : decode cX7_pieces 5 = .ok (.iload_n 1, 1) := by decide +kernel
theorem dX7_pieces_6 : decode cX7_pieces 6 = .ok (.bipush 40, 2) := by decide +kernel
theorem dX7_pieces_8 : decode cX7_pieces 8 = .ok (.if_icmp .le 6, 3) := by decide +kernel
theorem dX7_pieces_11 : decode cX7_pieces 11 = .ok (.bipush (-2), 2) := by decide +kernel
theorem dX7_pieces_13 : decode cX7_pieces 13 = .ok (.ireturn, 1) := by decide +kernel
theorem dX7_pieces_14 : decode cX7_pieces 14 = .ok (.aload_n 0, 1) := by decide +kernel
theorem dX7_pieces_15 : decode cX7_pieces 15 = .ok (.getfield 10, 3) := by decide +kernel
theorem dX7_pieces_18 : decode cX7_pieces 18 = .ok (.invokevirtual 131, 3) := by decide +kernel
theorem dX7_pieces_21 : decode cX7_pieces 21 = .ok (.ifCond .eq 14, 3) := by decide +kernel
theorem dX7_pieces_24 : decode cX7_pieces 24 = .ok (.aload_n 0, 1) := by decide +kernel
theorem dX7_pieces_25 : decode cX7_pieces 25 = .ok (.getfield 27, 3) := by decide +kernel
theorem dX7_pieces_28 : decode cX7_pieces 28 = .ok (.iload_n 1, 1) := by decide +kernel
theorem dX7_pieces_29 : decode cX7_pieces 29 = .ok (.invokevirtual 199, 3) := by decide +kernel
theorem dX7_pieces_32 : decode cX7_pieces 32 = .ok (.goto 5, 3) := by decide +kernel
theorem dX7_pieces_35 : decode cX7_pieces 35 = .ok (.bipush (-3), 2) := by decide +kernel
theorem dX7_pieces_37 : decode cX7_pieces 37 = .ok (.ireturn, 1) := by decide +kernel
theorem dX7_reach_0 : decode cX7_reach 0 = .ok (.aload_n 0, 1) := by decide +kernel
theorem dX7_reach_1 : decode cX7_reach 1 = .ok (.iload_n 1, 1) := by decide +kernel
theorem dX7_reach_2 : decode cX7_reach 2 = .ok (.invokestatic 142, 3) := by decide +kernel
theorem dX7_reach_5 : decode cX7_reach 5 = .ok (.ifCond .ne 7, 3) := by decide +kernel
theorem dX7_reach_8 : decode cX7_reach 8 = .ok (.iconst 1, 1) := by decide +kernel
theorem dX7_reach_9 : decode cX7_reach 9 = .ok (.goto 4, 3) := by decide +kernel
theorem dX7_reach_12 : decode cX7_reach 12 = .ok (.iconst 0, 1) := by decide +kernel
theorem dX7_reach_13 : decode cX7_reach 13 = .ok (.aload_n 0, 1) := by decide +kernel
theorem dX7_reach_14 : decode cX7_reach 14 = .ok (.getfield 10, 3) := by decide +kernel
theorem dX7_reach_17 : decode cX7_reach 17 = .ok (.invokevirtual 202, 3) := by decide +kernel
theorem dX7_reach_20 : decode cX7_reach 20 = .ok (.invokevirtual 138, 3) := by decide +kernel
theorem dX7_reach_23 : decode cX7_reach 23 = .ok (.istore_n 2, 1) := by decide +kernel
theorem dX7_reach_24 : decode cX7_reach 24 = .ok (.iload_n 2, 1) := by decide +kernel
theorem dX7_reach_25 : decode cX7_reach 25 = .ok (.ifCond .ge 10, 3) := by decide +kernel
theorem dX7_reach_28 : decode cX7_reach 28 = .ok (.ldc2_w 145, 3) := by decide +kernel
theorem dX7_reach_31 : decode cX7_reach 31 = .ok (.iload_n 2, 1) := by decide +kernel
theorem dX7_reach_32 : decode cX7_reach 32 = .ok (.i2l, 1) := by decide +kernel
theorem dX7_reach_33 : decode cX7_reach 33 = .ok (.ladd, 1) := by decide +kernel
theorem dX7_reach_34 : decode cX7_reach 34 = .ok (.lreturn, 1) := by decide +kernel
theorem dX7_reach_35 : decode cX7_reach 35 = .ok (.aload_n 0, 1) := by decide +kernel
theorem dX7_reach_36 : decode cX7_reach 36 = .ok (.getfield 27, 3) := by decide +kernel
theorem dX7_reach_39 : decode cX7_reach 39 = .ok (.invokevirtual 205, 3) := by decide +kernel
theorem dX7_reach_42 : decode cX7_reach 42 = .ok (.ifCond .ne 7, 3) := by decide +kernel
theorem dX7_reach_45 : decode cX7_reach 45 = .ok (.ldc2_w 208, 3) := by decide +kernel
theorem dX7_reach_48 : decode cX7_reach 48 = .ok (.lreturn, 1) := by decide +kernel
theorem dX7_reach_49 : decode cX7_reach 49 = .ok (.aload_n 0, 1) := by decide +kernel
theorem dX7_reach_50 : decode cX7_reach 50 = .ok (.getfield 27, 3) := by decide +kernel
theorem dX7_reach_53 : decode cX7_reach 53 = .ok (.getfield 210, 3) := by decide +kernel
theorem dX7_reach_56 : decode cX7_reach 56 = .ok (.aload_n 0, 1) := by decide +kernel
theorem dX7_reach_57 : decode cX7_reach 57 = .ok (.getfield 27, 3) := by decide +kernel
theorem dX7_reach_60 : decode cX7_reach 60 = .ok (.getfield 213, 3) := by decide +kernel
theorem dX7_reach_63 : decode cX7_reach 63 = .ok (.iload_n 1, 1) := by decide +kernel
theorem dX7_reach_64 : decode cX7_reach 64 = .ok (.invokestatic 161, 3) := by decide +kernel
theorem dX7_reach_67 : decode cX7_reach 67 = .ok (.lreturn, 1) := by decide +kernel
theorem dX7_nearest_0 : decode cX7_nearest 0 = .ok (.aload_n 0, 1) := by decide +kernel
theorem dX7_nearest_1 : decode cX7_nearest 1 = .ok (.aload_n 0, 1) := by decide +kernel
theorem dX7_nearest_2 : decode cX7_nearest 2 = .ok (.iload 4, 2) := by decide +kernel
theorem dX7_nearest_4 : decode cX7_nearest 4 = .ok (.invokevirtual 63, 3) := by decide +kernel
theorem dX7_nearest_7 : decode cX7_nearest 7 = .ok (.ifCond .eq 11, 3) := by decide +kernel
theorem dX7_nearest_10 : decode cX7_nearest 10 = .ok (.iload 5, 2) := by decide +kernel
theorem dX7_nearest_12 : decode cX7_nearest 12 = .ok (.invokestatic 142, 3) := by decide +kernel
theorem dX7_nearest_15 : decode cX7_nearest 15 = .ok (.ifCond .ne 7, 3) := by decide +kernel
theorem dX7_nearest_18 : decode cX7_nearest 18 = .ok (.iconst 1, 1) := by decide +kernel
theorem dX7_nearest_19 : decode cX7_nearest 19 = .ok (.goto 4, 3) := by decide +kernel
theorem dX7_nearest_22 : decode cX7_nearest 22 = .ok (.iconst 0, 1) := by decide +kernel
theorem dX7_nearest_23 : decode cX7_nearest 23 = .ok (.iload_n 1, 1) := by decide +kernel
theorem dX7_nearest_24 : decode cX7_nearest 24 = .ok (.iload_n 2, 1) := by decide +kernel
theorem dX7_nearest_25 : decode cX7_nearest 25 = .ok (.iload_n 3, 1) := by decide +kernel
theorem dX7_nearest_26 : decode cX7_nearest 26 = .ok (.invokevirtual 216, 3) := by decide +kernel
theorem dX7_nearest_29 : decode cX7_nearest 29 = .ok (.istore 6, 2) := by decide +kernel
theorem dX7_nearest_31 : decode cX7_nearest 31 = .ok (.iload 6, 2) := by decide +kernel
theorem dX7_nearest_33 : decode cX7_nearest 33 = .ok (.ifCond .ge 11, 3) := by decide +kernel
theorem dX7_nearest_36 : decode cX7_nearest 36 = .ok (.ldc2_w 145, 3) := by decide +kernel
theorem dX7_nearest_39 : decode cX7_nearest 39 = .ok (.iload 6, 2) := by decide +kernel
theorem dX7_nearest_41 : decode cX7_nearest 41 = .ok (.i2l, 1) := by decide +kernel
theorem dX7_nearest_42 : decode cX7_nearest 42 = .ok (.ladd, 1) := by decide +kernel
theorem dX7_nearest_43 : decode cX7_nearest 43 = .ok (.lreturn, 1) := by decide +kernel
theorem dX7_nearest_44 : decode cX7_nearest 44 = .ok (.aload_n 0, 1) := by decide +kernel
theorem dX7_nearest_45 : decode cX7_nearest 45 = .ok (.getfield 31, 3) := by decide +kernel
theorem dX7_nearest_48 : decode cX7_nearest 48 = .ok (.getfield 147, 3) := by decide +kernel
theorem dX7_nearest_51 : decode cX7_nearest 51 = .ok (.getfield 151, 3) := by decide +kernel
theorem dX7_nearest_54 : decode cX7_nearest 54 = .ok (.iload 4, 2) := by decide +kernel
theorem dX7_nearest_56 : decode cX7_nearest 56 = .ok (.laload, 1) := by decide +kernel
theorem dX7_nearest_57 : decode cX7_nearest 57 = .ok (.aload_n 0, 1) := by decide +kernel
theorem dX7_nearest_58 : decode cX7_nearest 58 = .ok (.getfield 31, 3) := by decide +kernel
theorem dX7_nearest_61 : decode cX7_nearest 61 = .ok (.getfield 147, 3) := by decide +kernel
theorem dX7_nearest_64 : decode cX7_nearest 64 = .ok (.getfield 157, 3) := by decide +kernel
theorem dX7_nearest_67 : decode cX7_nearest 67 = .ok (.iload 5, 2) := by decide +kernel
theorem dX7_nearest_69 : decode cX7_nearest 69 = .ok (.invokestatic 161, 3) := by decide +kernel
theorem dX7_nearest_72 : decode cX7_nearest 72 = .ok (.lreturn, 1) := by decide +kernel
theorem dX7_distance_0 : decode cX7_distance 0 = .ok (.aload_n 0, 1) := by decide +kernel
theorem dX7_distance_1 : decode cX7_distance 1 = .ok (.iload 4, 2) := by decide +kernel
theorem dX7_distance_3 : decode cX7_distance 3 = .ok (.invokestatic 142, 3) := by decide +kernel
theorem dX7_distance_6 : decode cX7_distance 6 = .ok (.ifCond .ne 7, 3) := by decide +kernel
theorem dX7_distance_9 : decode cX7_distance 9 = .ok (.iconst 1, 1) := by decide +kernel
theorem dX7_distance_10 : decode cX7_distance 10 = .ok (.goto 4, 3) := by decide +kernel
theorem dX7_distance_13 : decode cX7_distance 13 = .ok (.iconst 0, 1) := by decide +kernel
theorem dX7_distance_14 : decode cX7_distance 14 = .ok (.iload_n 1, 1) := by decide +kernel
theorem dX7_distance_15 : decode cX7_distance 15 = .ok (.iload_n 2, 1) := by decide +kernel
theorem dX7_distance_16 : decode cX7_distance 16 = .ok (.iload_n 3, 1) := by decide +kernel
theorem dX7_distance_17 : decode cX7_distance 17 = .ok (.invokevirtual 216, 3) := by decide +kernel
theorem dX7_distance_20 : decode cX7_distance 20 = .ok (.istore 5, 2) := by decide +kernel
theorem dX7_distance_22 : decode cX7_distance 22 = .ok (.iload 5, 2) := by decide +kernel
theorem dX7_distance_24 : decode cX7_distance 24 = .ok (.ifCond .ge 11, 3) := by decide +kernel
theorem dX7_distance_27 : decode cX7_distance 27 = .ok (.ldc2_w 145, 3) := by decide +kernel
theorem dX7_distance_30 : decode cX7_distance 30 = .ok (.iload 5, 2) := by decide +kernel
theorem dX7_distance_32 : decode cX7_distance 32 = .ok (.i2l, 1) := by decide +kernel
theorem dX7_distance_33 : decode cX7_distance 33 = .ok (.ladd, 1) := by decide +kernel
theorem dX7_distance_34 : decode cX7_distance 34 = .ok (.lreturn, 1) := by decide +kernel
theorem dX7_distance_35 : decode cX7_distance 35 = .ok (.aload_n 0, 1) := by decide +kernel
theorem dX7_distance_36 : decode cX7_distance 36 = .ok (.getfield 31, 3) := by decide +kernel
theorem dX7_distance_39 : decode cX7_distance 39 = .ok (.getfield 147, 3) := by decide +kernel
theorem dX7_distance_42 : decode cX7_distance 42 = .ok (.getfield 157, 3) := by decide +kernel
theorem dX7_distance_45 : decode cX7_distance 45 = .ok (.lstore 6, 2) := by decide +kernel
theorem dX7_distance_47 : decode cX7_distance 47 = .ok (.aload_n 0, 1) := by decide +kernel
theorem dX7_distance_48 : decode cX7_distance 48 = .ok (.getfield 31, 3) := by decide +kernel
theorem dX7_distance_51 : decode cX7_distance 51 = .ok (.invokevirtual 167, 3) := by decide +kernel
theorem dX7_distance_54 : decode cX7_distance 54 = .ok (.aload_n 0, 1) := by decide +kernel
theorem dX7_distance_55 : decode cX7_distance 55 = .ok (.getfield 19, 3) := by decide +kernel
theorem dX7_distance_58 : decode cX7_distance 58 = .ok (.invokevirtual 220, 3) := by decide +kernel
theorem dX7_distance_61 : decode cX7_distance 61 = .ok (.lload 6, 2) := by decide +kernel
theorem dX7_distance_63 : decode cX7_distance 63 = .ok (.lmul, 1) := by decide +kernel
theorem dX7_distance_64 : decode cX7_distance 64 = .ok (.ladd, 1) := by decide +kernel
theorem dX7_distance_65 : decode cX7_distance 65 = .ok (.lload 6, 2) := by decide +kernel
theorem dX7_distance_67 : decode cX7_distance 67 = .ok (.iload 4, 2) := by decide +kernel
theorem dX7_distance_69 : decode cX7_distance 69 = .ok (.invokestatic 161, 3) := by decide +kernel
theorem dX7_distance_72 : decode cX7_distance 72 = .ok (.lreturn, 1) := by decide +kernel
theorem dX7_certify_0 : decode cX7_certify 0 = .ok (.aload_n 0, 1) := by decide +kernel
theorem dX7_certify_1 : decode cX7_certify 1 = .ok (.iload_n 1, 1) := by decide +kernel
theorem dX7_certify_2 : decode cX7_certify 2 = .ok (.invokestatic 223, 3) := by decide +kernel
theorem dX7_certify_5 : decode cX7_certify 5 = .ok (.ifCond .ne 7, 3) := by decide +kernel
theorem dX7_certify_8 : decode cX7_certify 8 = .ok (.iconst 1, 1) := by decide +kernel
theorem dX7_certify_9 : decode cX7_certify 9 = .ok (.goto 4, 3) := by decide +kernel
theorem dX7_certify_12 : decode cX7_certify 12 = .ok (.iconst 0, 1) := by decide +kernel
theorem dX7_certify_13 : decode cX7_certify 13 = .ok (.aload_n 0, 1) := by decide +kernel
theorem dX7_certify_14 : decode cX7_certify 14 = .ok (.getfield 10, 3) := by decide +kernel
theorem dX7_certify_17 : decode cX7_certify 17 = .ok (.invokevirtual 202, 3) := by decide +kernel
theorem dX7_certify_20 : decode cX7_certify 20 = .ok (.invokevirtual 138, 3) := by decide +kernel
theorem dX7_certify_23 : decode cX7_certify 23 = .ok (.istore_n 2, 1) := by decide +kernel
theorem dX7_certify_24 : decode cX7_certify 24 = .ok (.iload_n 2, 1) := by decide +kernel
theorem dX7_certify_25 : decode cX7_certify 25 = .ok (.ifCond .ge 5, 3) := by decide +kernel
theorem dX7_certify_28 : decode cX7_certify 28 = .ok (.iload_n 2, 1) := by decide +kernel
theorem dX7_certify_29 : decode cX7_certify 29 = .ok (.ireturn, 1) := by decide +kernel
theorem dX7_certify_30 : decode cX7_certify 30 = .ok (.aload_n 0, 1) := by decide +kernel
theorem dX7_certify_31 : decode cX7_certify 31 = .ok (.getfield 44, 3) := by decide +kernel
theorem dX7_certify_34 : decode cX7_certify 34 = .ok (.aload_n 0, 1) := by decide +kernel
theorem dX7_certify_35 : decode cX7_certify 35 = .ok (.getfield 27, 3) := by decide +kernel
theorem dX7_certify_38 : decode cX7_certify 38 = .ok (.getfield 147, 3) := by decide +kernel
theorem dX7_certify_41 : decode cX7_certify 41 = .ok (.aload_n 0, 1) := by decide +kernel
theorem dX7_certify_42 : decode cX7_certify 42 = .ok (.getfield 37, 3) := by decide +kernel
theorem dX7_certify_45 : decode cX7_certify 45 = .ok (.iload_n 1, 1) := by decide +kernel
theorem dX7_certify_46 : decode cX7_certify 46 = .ok (.invokevirtual 226, 3) := by decide +kernel
theorem dX7_certify_49 : decode cX7_certify 49 = .ok (.aload_n 0, 1) := by decide +kernel
theorem dX7_certify_50 : decode cX7_certify 50 = .ok (.getfield 44, 3) := by decide +kernel
theorem dX7_certify_53 : decode cX7_certify 53 = .ok (.invokevirtual 230, 3) := by decide +kernel
theorem dX7_certify_56 : decode cX7_certify 56 = .ok (.ireturn, 1) := by decide +kernel
theorem dX7_check_0 : decode cX7_check 0 = .ok (.iload_n 1, 1) := by decide +kernel
theorem dX7_check_1 : decode cX7_check 1 = .ok (.invokestatic 223, 3) := by decide +kernel
theorem dX7_check_4 : decode cX7_check 4 = .ok (.ifCond .ne 6, 3) := by decide +kernel
theorem dX7_check_7 : decode cX7_check 7 = .ok (.bipush (-2), 2) := by decide +kernel
theorem dX7_check_9 : decode cX7_check 9 = .ok (.ireturn, 1) := by decide +kernel
theorem dX7_check_10 : decode cX7_check 10 = .ok (.aload_n 0, 1) := by decide +kernel
theorem dX7_check_11 : decode cX7_check 11 = .ok (.getfield 37, 3) := by decide +kernel
theorem dX7_check_14 : decode cX7_check 14 = .ok (.getfield 233, 3) := by decide +kernel
theorem dX7_check_17 : decode cX7_check 17 = .ok (.iload_n 1, 1) := by decide +kernel
theorem dX7_check_18 : decode cX7_check 18 = .ok (.iaload, 1) := by decide +kernel
theorem dX7_check_19 : decode cX7_check 19 = .ok (.iconst (-1), 1) := by decide +kernel
theorem dX7_check_20 : decode cX7_check 20 = .ok (.if_icmp .ne 6, 3) := by decide +kernel
theorem dX7_check_23 : decode cX7_check 23 = .ok (.bipush (-11), 2) := by decide +kernel
theorem dX7_check_25 : decode cX7_check 25 = .ok (.ireturn, 1) := by decide +kernel
theorem dX7_check_26 : decode cX7_check 26 = .ok (.aload_n 0, 1) := by decide +kernel
theorem dX7_check_27 : decode cX7_check 27 = .ok (.getfield 37, 3) := by decide +kernel
theorem dX7_check_30 : decode cX7_check 30 = .ok (.getfield 236, 3) := by decide +kernel
theorem dX7_check_33 : decode cX7_check 33 = .ok (.iload_n 1, 1) := by decide +kernel
theorem dX7_check_34 : decode cX7_check 34 = .ok (.iaload, 1) := by decide +kernel
theorem dX7_check_35 : decode cX7_check 35 = .ok (.aload_n 0, 1) := by decide +kernel
theorem dX7_check_36 : decode cX7_check 36 = .ok (.getfield 44, 3) := by decide +kernel
theorem dX7_check_39 : decode cX7_check 39 = .ok (.invokevirtual 230, 3) := by decide +kernel
theorem dX7_check_42 : decode cX7_check 42 = .ok (.if_icmp .eq 6, 3) := by decide +kernel
theorem dX7_check_45 : decode cX7_check 45 = .ok (.bipush (-14), 2) := by decide +kernel
theorem dX7_check_47 : decode cX7_check 47 = .ok (.ireturn, 1) := by decide +kernel
theorem dX7_check_48 : decode cX7_check 48 = .ok (.aload_n 0, 1) := by decide +kernel
theorem dX7_check_49 : decode cX7_check 49 = .ok (.getfield 37, 3) := by decide +kernel
theorem dX7_check_52 : decode cX7_check 52 = .ok (.iload_n 1, 1) := by decide +kernel
theorem dX7_check_53 : decode cX7_check 53 = .ok (.ldc2_w 239, 3) := by decide +kernel
theorem dX7_check_56 : decode cX7_check 56 = .ok (.invokevirtual 241, 3) := by decide +kernel
theorem dX7_check_59 : decode cX7_check 59 = .ok (.ifCond .ne 6, 3) := by decide +kernel
theorem dX7_check_62 : decode cX7_check 62 = .ok (.bipush (-5), 2) := by decide +kernel
theorem dX7_check_64 : decode cX7_check 64 = .ok (.ireturn, 1) := by decide +kernel
theorem dX7_check_65 : decode cX7_check 65 = .ok (.aload_n 0, 1) := by decide +kernel
theorem dX7_check_66 : decode cX7_check 66 = .ok (.getfield 44, 3) := by decide +kernel
theorem dX7_check_69 : decode cX7_check 69 = .ok (.aload_n 0, 1) := by decide +kernel
theorem dX7_check_70 : decode cX7_check 70 = .ok (.getfield 37, 3) := by decide +kernel
theorem dX7_check_73 : decode cX7_check 73 = .ok (.iload_n 1, 1) := by decide +kernel
theorem dX7_check_74 : decode cX7_check 74 = .ok (.invokevirtual 245, 3) := by decide +kernel
theorem dX7_check_77 : decode cX7_check 77 = .ok (.aload_n 0, 1) := by decide +kernel
theorem dX7_check_78 : decode cX7_check 78 = .ok (.getfield 44, 3) := by decide +kernel
theorem dX7_check_81 : decode cX7_check 81 = .ok (.invokevirtual 249, 3) := by decide +kernel
theorem dX7_check_84 : decode cX7_check 84 = .ok (.ireturn, 1) := by decide +kernel
theorem dX7_solve_0 : decode cX7_solve 0 = .ok (.aload_n 0, 1) := by decide +kernel
theorem dX7_solve_1 : decode cX7_solve 1 = .ok (.iconst 0, 1) := by decide +kernel
theorem dX7_solve_2 : decode cX7_solve 2 = .ok (.aload_n 0, 1) := by decide +kernel
theorem dX7_solve_3 : decode cX7_solve 3 = .ok (.getfield 10, 3) := by decide +kernel
theorem dX7_solve_6 : decode cX7_solve 6 = .ok (.invokevirtual 202, 3) := by decide +kernel
theorem dX7_solve_9 : decode cX7_solve 9 = .ok (.invokevirtual 138, 3) := by decide +kernel
theorem dX7_solve_12 : decode cX7_solve 12 = .ok (.istore_n 1, 1) := by decide +kernel
theorem dX7_solve_13 : decode cX7_solve 13 = .ok (.iload_n 1, 1) := by decide +kernel
theorem dX7_solve_14 : decode cX7_solve 14 = .ok (.bipush (-3), 2) := by decide +kernel
theorem dX7_solve_16 : decode cX7_solve 16 = .ok (.if_icmp .ne 6, 3) := by decide +kernel
theorem dX7_solve_19 : decode cX7_solve 19 = .ok (.bipush (-3), 2) := by decide +kernel
theorem dX7_solve_21 : decode cX7_solve 21 = .ok (.ireturn, 1) := by decide +kernel
theorem dX7_solve_22 : decode cX7_solve 22 = .ok (.aload_n 0, 1) := by decide +kernel
theorem dX7_solve_23 : decode cX7_solve 23 = .ok (.getfield 51, 3) := by decide +kernel
theorem dX7_solve_26 : decode cX7_solve 26 = .ok (.iload_n 1, 1) := by decide +kernel
theorem dX7_solve_27 : decode cX7_solve 27 = .ok (.invokevirtual 252, 3) := by decide +kernel
theorem dX7_solve_30 : decode cX7_solve 30 = .ok (.iload_n 1, 1) := by decide +kernel
theorem dX7_solve_31 : decode cX7_solve 31 = .ok (.ifCond .lt 31, 3) := by decide +kernel
theorem dX7_solve_34 : decode cX7_solve 34 = .ok (.aload_n 0, 1) := by decide +kernel
theorem dX7_solve_35 : decode cX7_solve 35 = .ok (.getfield 51, 3) := by decide +kernel
theorem dX7_solve_38 : decode cX7_solve 38 = .ok (.aload_n 0, 1) := by decide +kernel
theorem dX7_solve_39 : decode cX7_solve 39 = .ok (.getfield 27, 3) := by decide +kernel
theorem dX7_solve_42 : decode cX7_solve 42 = .ok (.invokevirtual 167, 3) := by decide +kernel
theorem dX7_solve_45 : decode cX7_solve 45 = .ok (.ldc2_w 171, 3) := by decide +kernel
theorem dX7_solve_48 : decode cX7_solve 48 = .ok (.aload_n 0, 1) := by decide +kernel
theorem dX7_solve_49 : decode cX7_solve 49 = .ok (.getfield 27, 3) := by decide +kernel
theorem dX7_solve_52 : decode cX7_solve 52 = .ok (.getfield 147, 3) := by decide +kernel
theorem dX7_solve_55 : decode cX7_solve 55 = .ok (.getfield 157, 3) := by decide +kernel
theorem dX7_solve_58 : decode cX7_solve 58 = .ok (.lmul, 1) := by decide +kernel
theorem dX7_solve_59 : decode cX7_solve 59 = .ok (.invokevirtual 255, 3) := by decide +kernel
theorem dX7_solve_62 : decode cX7_solve 62 = .ok (.iload_n 1, 1) := by decide +kernel
theorem dX7_solve_63 : decode cX7_solve 63 = .ok (.ireturn, 1) := by decide +kernel
theorem dX7_notes_0 : decode cX7_notes 0 = .ok (.aload_n 0, 1) := by decide +kernel
theorem dX7_notes_1 : decode cX7_notes 1 = .ok (.getfield 51, 3) := by decide +kernel
theorem dX7_notes_4 : decode cX7_notes 4 = .ok (.getfield 259, 3) := by decide +kernel
theorem dX7_notes_7 : decode cX7_notes 7 = .ok (.ireturn, 1) := by decide +kernel
theorem dX7_mark_0 : decode cX7_mark 0 = .ok (.aload_n 0, 1) := by decide +kernel
theorem dX7_mark_1 : decode cX7_mark 1 = .ok (.getfield 51, 3) := by decide +kernel
theorem dX7_mark_4 : decode cX7_mark 4 = .ok (.getfield 262, 3) := by decide +kernel
theorem dX7_mark_7 : decode cX7_mark 7 = .ok (.lreturn, 1) := by decide +kernel
theorem dX7_trail_0 : decode cX7_trail 0 = .ok (.iload_n 1, 1) := by decide +kernel
theorem dX7_trail_1 : decode cX7_trail 1 = .ok (.ifCond .lt 20, 3) := by decide +kernel
theorem dX7_trail_4 : decode cX7_trail 4 = .ok (.iload_n 1, 1) := by decide +kernel
theorem dX7_trail_5 : decode cX7_trail 5 = .ok (.bipush 8, 2) := by decide +kernel
theorem dX7_trail_7 : decode cX7_trail 7 = .ok (.if_icmp .ge 14, 3) := by decide +kernel
theorem dX7_trail_10 : decode cX7_trail 10 = .ok (.iload_n 1, 1) := by decide +kernel
theorem dX7_trail_11 : decode cX7_trail 11 = .ok (.aload_n 0, 1) := by decide +kernel
theorem dX7_trail_12 : decode cX7_trail 12 = .ok (.getfield 51, 3) := by decide +kernel
theorem dX7_trail_15 : decode cX7_trail 15 = .ok (.getfield 259, 3) := by decide +kernel
theorem dX7_trail_18 : decode cX7_trail 18 = .ok (.if_icmp .lt 8, 3) := by decide +kernel
theorem dX7_trail_21 : decode cX7_trail 21 = .ok (.bipush (-12), 2) := by decide +kernel
theorem dX7_trail_23 : decode cX7_trail 23 = .ok (.goto 11, 3) := by decide +kernel
theorem dX7_trail_26 : decode cX7_trail 26 = .ok (.aload_n 0, 1) := by decide +kernel
theorem dX7_trail_27 : decode cX7_trail 27 = .ok (.getfield 51, 3) := by decide +kernel
theorem dX7_trail_30 : decode cX7_trail 30 = .ok (.iload_n 1, 1) := by decide +kernel
theorem dX7_trail_31 : decode cX7_trail 31 = .ok (.invokevirtual 265, 3) := by decide +kernel
theorem dX7_trail_34 : decode cX7_trail 34 = .ok (.ireturn, 1) := by decide +kernel
theorem dX7_least_0 : decode cX7_least 0 = .ok (.iload_n 1, 1) := by decide +kernel
theorem dX7_least_1 : decode cX7_least 1 = .ok (.invokestatic 142, 3) := by decide +kernel
theorem dX7_least_4 : decode cX7_least 4 = .ok (.ifCond .ne 7, 3) := by decide +kernel
theorem dX7_least_7 : decode cX7_least 7 = .ok (.ldc2_w 268, 3) := by decide +kernel
theorem dX7_least_10 : decode cX7_least 10 = .ok (.lreturn, 1) := by decide +kernel
theorem dX7_least_11 : decode cX7_least 11 = .ok (.aload_n 0, 1) := by decide +kernel
theorem dX7_least_12 : decode cX7_least 12 = .ok (.getfield 51, 3) := by decide +kernel
theorem dX7_least_15 : decode cX7_least 15 = .ok (.getfield 270, 3) := by decide +kernel
theorem dX7_least_18 : decode cX7_least 18 = .ok (.lconst 0, 1) := by decide +kernel
theorem dX7_least_19 : decode cX7_least 19 = .ok (.lcmp, 1) := by decide +kernel
theorem dX7_least_20 : decode cX7_least 20 = .ok (.ifCond .ne 7, 3) := by decide +kernel
theorem dX7_least_23 : decode cX7_least 23 = .ok (.ldc2_w 208, 3) := by decide +kernel
theorem dX7_least_26 : decode cX7_least 26 = .ok (.lreturn, 1) := by decide +kernel
theorem dX7_least_27 : decode cX7_least 27 = .ok (.aload_n 0, 1) := by decide +kernel
theorem dX7_least_28 : decode cX7_least 28 = .ok (.getfield 51, 3) := by decide +kernel
theorem dX7_least_31 : decode cX7_least 31 = .ok (.getfield 273, 3) := by decide +kernel
theorem dX7_least_34 : decode cX7_least 34 = .ok (.aload_n 0, 1) := by decide +kernel
theorem dX7_least_35 : decode cX7_least 35 = .ok (.getfield 51, 3) := by decide +kernel
theorem dX7_least_38 : decode cX7_least 38 = .ok (.getfield 270, 3) := by decide +kernel
theorem dX7_least_41 : decode cX7_least 41 = .ok (.iload_n 1, 1) := by decide +kernel
theorem dX7_least_42 : decode cX7_least 42 = .ok (.invokestatic 161, 3) := by decide +kernel
theorem dX7_least_45 : decode cX7_least 45 = .ok (.lreturn, 1) := by decide +kernel
theorem dX7_sheet_0 : decode cX7_sheet 0 = .ok (.iload_n 1, 1) := by decide +kernel
theorem dX7_sheet_1 : decode cX7_sheet 1 = .ok (.invokestatic 223, 3) := by decide +kernel
theorem dX7_sheet_4 : decode cX7_sheet 4 = .ok (.ifCond .eq 13, 3) := by decide +kernel
theorem dX7_sheet_7 : decode cX7_sheet 7 = .ok (.iload_n 2, 1) := by decide +kernel
theorem dX7_sheet_8 : decode cX7_sheet 8 = .ok (.iconst (-1), 1) := by decide +kernel
theorem dX7_sheet_9 : decode cX7_sheet 9 = .ok (.if_icmp .lt 8, 3) := by decide +kernel
theorem dX7_sheet_12 : decode cX7_sheet 12 = .ok (.iload_n 2, 1) := by decide +kernel
theorem dX7_sheet_13 : decode cX7_sheet 13 = .ok (.iconst 1, 1) := by decide +kernel
theorem dX7_sheet_14 : decode cX7_sheet 14 = .ok (.if_icmp .le 6, 3) := by decide +kernel
theorem dX7_sheet_17 : decode cX7_sheet 17 = .ok (.bipush (-2), 2) := by decide +kernel
theorem dX7_sheet_19 : decode cX7_sheet 19 = .ok (.ireturn, 1) := by decide +kernel
theorem dX7_sheet_20 : decode cX7_sheet 20 = .ok (.iload_n 2, 1) := by decide +kernel
theorem dX7_sheet_21 : decode cX7_sheet 21 = .ok (.iconst (-1), 1) := by decide +kernel
theorem dX7_sheet_22 : decode cX7_sheet 22 = .ok (.if_icmp .ne 7, 3) := by decide +kernel
theorem dX7_sheet_25 : decode cX7_sheet 25 = .ok (.iconst 0, 1) := by decide +kernel
theorem dX7_sheet_26 : decode cX7_sheet 26 = .ok (.goto 4, 3) := by decide +kernel
theorem dX7_sheet_29 : decode cX7_sheet 29 = .ok (.iload_n 3, 1) := by decide +kernel
theorem dX7_sheet_30 : decode cX7_sheet 30 = .ok (.istore 4, 2) := by decide +kernel
theorem dX7_sheet_32 : decode cX7_sheet 32 = .ok (.iload 4, 2) := by decide +kernel
theorem dX7_sheet_34 : decode cX7_sheet 34 = .ok (.bipush 12, 2) := by decide +kernel
theorem dX7_sheet_36 : decode cX7_sheet 36 = .ok (.if_icmp .le 6, 3) := by decide +kernel
theorem dX7_sheet_39 : decode cX7_sheet 39 = .ok (.bipush (-2), 2) := by decide +kernel
theorem dX7_sheet_41 : decode cX7_sheet 41 = .ok (.ireturn, 1) := by decide +kernel
theorem dX7_sheet_42 : decode cX7_sheet 42 = .ok (.iload 4, 2) := by decide +kernel
theorem dX7_sheet_44 : decode cX7_sheet 44 = .ok (.ifCond .ge 6, 3) := by decide +kernel
theorem dX7_sheet_47 : decode cX7_sheet 47 = .ok (.bipush (-14), 2) := by decide +kernel
theorem dX7_sheet_49 : decode cX7_sheet 49 = .ok (.ireturn, 1) := by decide +kernel
theorem dX7_sheet_50 : decode cX7_sheet 50 = .ok (.aload_n 0, 1) := by decide +kernel
theorem dX7_sheet_51 : decode cX7_sheet 51 = .ok (.getfield 37, 3) := by decide +kernel
theorem dX7_sheet_54 : decode cX7_sheet 54 = .ok (.iload_n 1, 1) := by decide +kernel
theorem dX7_sheet_55 : decode cX7_sheet 55 = .ok (.iload_n 2, 1) := by decide +kernel
theorem dX7_sheet_56 : decode cX7_sheet 56 = .ok (.iload 4, 2) := by decide +kernel
theorem dX7_sheet_58 : decode cX7_sheet 58 = .ok (.invokevirtual 276, 3) := by decide +kernel
theorem dX7_sheet_61 : decode cX7_sheet 61 = .ok (.iconst 1, 1) := by decide +kernel
theorem dX7_sheet_62 : decode cX7_sheet 62 = .ok (.ireturn, 1) := by decide +kernel
theorem dX7_cell_0 : decode cX7_cell 0 = .ok (.aload_n 0, 1) := by decide +kernel
theorem dX7_cell_1 : decode cX7_cell 1 = .ok (.iload_n 1, 1) := by decide +kernel
theorem dX7_cell_2 : decode cX7_cell 2 = .ok (.iload_n 2, 1) := by decide +kernel
theorem dX7_cell_3 : decode cX7_cell 3 = .ok (.invokevirtual 278, 3) := by decide +kernel
theorem dX7_cell_6 : decode cX7_cell 6 = .ok (.istore 5, 2) := by decide +kernel
theorem dX7_cell_8 : decode cX7_cell 8 = .ok (.iload 5, 2) := by decide +kernel
theorem dX7_cell_10 : decode cX7_cell 10 = .ok (.ifCond .ge 6, 3) := by decide +kernel
theorem dX7_cell_13 : decode cX7_cell 13 = .ok (.iload 5, 2) := by decide +kernel
theorem dX7_cell_15 : decode cX7_cell 15 = .ok (.ireturn, 1) := by decide +kernel
theorem dX7_cell_16 : decode cX7_cell 16 = .ok (.aload_n 0, 1) := by decide +kernel
theorem dX7_cell_17 : decode cX7_cell 17 = .ok (.getfield 37, 3) := by decide +kernel
theorem dX7_cell_20 : decode cX7_cell 20 = .ok (.getfield 233, 3) := by decide +kernel
theorem dX7_cell_23 : decode cX7_cell 23 = .ok (.iload_n 1, 1) := by decide +kernel
theorem dX7_cell_24 : decode cX7_cell 24 = .ok (.iaload, 1) := by decide +kernel
theorem dX7_cell_25 : decode cX7_cell 25 = .ok (.ifCond .ne 14, 3) := by decide +kernel
theorem dX7_cell_28 : decode cX7_cell 28 = .ok (.lload_n 3, 1) := by decide +kernel
theorem dX7_cell_29 : decode cX7_cell 29 = .ok (.lload_n 3, 1) := by decide +kernel
theorem dX7_cell_30 : decode cX7_cell 30 = .ok (.l2i, 1) := by decide +kernel
theorem dX7_cell_31 : decode cX7_cell 31 = .ok (.i2l, 1) := by decide +kernel
theorem dX7_cell_32 : decode cX7_cell 32 = .ok (.lcmp, 1) := by decide +kernel
theorem dX7_cell_33 : decode cX7_cell 33 = .ok (.ifCond .eq 6, 3) := by decide +kernel
theorem dX7_cell_36 : decode cX7_cell 36 = .ok (.bipush (-5), 2) := by decide +kernel
theorem dX7_cell_38 : decode cX7_cell 38 = .ok (.ireturn, 1) := by decide +kernel
theorem dX7_cell_39 : decode cX7_cell 39 = .ok (.aload_n 0, 1) := by decide +kernel
theorem dX7_cell_40 : decode cX7_cell 40 = .ok (.getfield 37, 3) := by decide +kernel
theorem dX7_cell_43 : decode cX7_cell 43 = .ok (.iload_n 1, 1) := by decide +kernel
theorem dX7_cell_44 : decode cX7_cell 44 = .ok (.iload_n 2, 1) := by decide +kernel
theorem dX7_cell_45 : decode cX7_cell 45 = .ok (.lload_n 3, 1) := by decide +kernel
theorem dX7_cell_46 : decode cX7_cell 46 = .ok (.invokevirtual 281, 3) := by decide +kernel
theorem dX7_cell_49 : decode cX7_cell 49 = .ok (.iconst 1, 1) := by decide +kernel
theorem dX7_cell_50 : decode cX7_cell 50 = .ok (.ireturn, 1) := by decide +kernel
theorem dX7_read_0 : decode cX7_read 0 = .ok (.aload_n 0, 1) := by decide +kernel
theorem dX7_read_1 : decode cX7_read 1 = .ok (.iload_n 1, 1) := by decide +kernel
theorem dX7_read_2 : decode cX7_read 2 = .ok (.iload_n 2, 1) := by decide +kernel
theorem dX7_read_3 : decode cX7_read 3 = .ok (.invokevirtual 278, 3) := by decide +kernel
theorem dX7_read_6 : decode cX7_read 6 = .ok (.istore_n 3, 1) := by decide +kernel
theorem dX7_read_7 : decode cX7_read 7 = .ok (.iload_n 3, 1) := by decide +kernel
theorem dX7_read_8 : decode cX7_read 8 = .ok (.ifCond .ge 12, 3) := by decide +kernel
theorem dX7_read_11 : decode cX7_read 11 = .ok (.ldc2_w 145, 3) := by decide +kernel
theorem dX7_read_14 : decode cX7_read 14 = .ok (.iload_n 3, 1) := by decide +kernel
theorem dX7_read_15 : decode cX7_read 15 = .ok (.i2l, 1) := by decide +kernel
theorem dX7_read_16 : decode cX7_read 16 = .ok (.ladd, 1) := by decide +kernel
theorem dX7_read_17 : decode cX7_read 17 = .ok (.goto 12, 3) := by decide +kernel
theorem dX7_read_20 : decode cX7_read 20 = .ok (.aload_n 0, 1) := by decide +kernel
theorem dX7_read_21 : decode cX7_read 21 = .ok (.getfield 37, 3) := by decide +kernel
theorem dX7_read_24 : decode cX7_read 24 = .ok (.iload_n 1, 1) := by decide +kernel
theorem dX7_read_25 : decode cX7_read 25 = .ok (.iload_n 2, 1) := by decide +kernel
theorem dX7_read_26 : decode cX7_read 26 = .ok (.invokevirtual 285, 3) := by decide +kernel
theorem dX7_read_29 : decode cX7_read 29 = .ok (.lreturn, 1) := by decide +kernel
theorem dX7_copy_0 : decode cX7_copy 0 = .ok (.iload_n 1, 1) := by decide +kernel
theorem dX7_copy_1 : decode cX7_copy 1 = .ok (.invokestatic 223, 3) := by decide +kernel
theorem dX7_copy_4 : decode cX7_copy 4 = .ok (.ifCond .eq 10, 3) := by decide +kernel
theorem dX7_copy_7 : decode cX7_copy 7 = .ok (.iload_n 3, 1) := by decide +kernel
theorem dX7_copy_8 : decode cX7_copy 8 = .ok (.invokestatic 223, 3) := by decide +kernel
theorem dX7_copy_11 : decode cX7_copy 11 = .ok (.ifCond .ne 6, 3) := by decide +kernel
theorem dX7_copy_14 : decode cX7_copy 14 = .ok (.bipush (-2), 2) := by decide +kernel
theorem dX7_copy_16 : decode cX7_copy 16 = .ok (.ireturn, 1) := by decide +kernel
theorem dX7_copy_17 : decode cX7_copy 17 = .ok (.aload_n 0, 1) := by decide +kernel
theorem dX7_copy_18 : decode cX7_copy 18 = .ok (.getfield 37, 3) := by decide +kernel
theorem dX7_copy_21 : decode cX7_copy 21 = .ok (.getfield 233, 3) := by decide +kernel
theorem dX7_copy_24 : decode cX7_copy 24 = .ok (.iload_n 1, 1) := by decide +kernel
theorem dX7_copy_25 : decode cX7_copy 25 = .ok (.iaload, 1) := by decide +kernel
theorem dX7_copy_26 : decode cX7_copy 26 = .ok (.iconst (-1), 1) := by decide +kernel
theorem dX7_copy_27 : decode cX7_copy 27 = .ok (.if_icmp .eq 16, 3) := by decide +kernel
theorem dX7_copy_30 : decode cX7_copy 30 = .ok (.aload_n 0, 1) := by decide +kernel
theorem dX7_copy_31 : decode cX7_copy 31 = .ok (.getfield 37, 3) := by decide +kernel
theorem dX7_copy_34 : decode cX7_copy 34 = .ok (.getfield 233, 3) := by decide +kernel
theorem dX7_copy_37 : decode cX7_copy 37 = .ok (.iload_n 3, 1) := by decide +kernel
theorem dX7_copy_38 : decode cX7_copy 38 = .ok (.iaload, 1) := by decide +kernel
theorem dX7_copy_39 : decode cX7_copy 39 = .ok (.iconst (-1), 1) := by decide +kernel
theorem dX7_copy_40 : decode cX7_copy 40 = .ok (.if_icmp .ne 6, 3) := by decide +kernel
theorem dX7_copy_43 : decode cX7_copy 43 = .ok (.bipush (-11), 2) := by decide +kernel
theorem dX7_copy_45 : decode cX7_copy 45 = .ok (.ireturn, 1) := by decide +kernel
theorem dX7_copy_46 : decode cX7_copy 46 = .ok (.aload_n 0, 1) := by decide +kernel
theorem dX7_copy_47 : decode cX7_copy 47 = .ok (.getfield 37, 3) := by decide +kernel
theorem dX7_copy_50 : decode cX7_copy 50 = .ok (.getfield 233, 3) := by decide +kernel
theorem dX7_copy_53 : decode cX7_copy 53 = .ok (.iload_n 1, 1) := by decide +kernel
theorem dX7_copy_54 : decode cX7_copy 54 = .ok (.iaload, 1) := by decide +kernel
theorem dX7_copy_55 : decode cX7_copy 55 = .ok (.aload_n 0, 1) := by decide +kernel
theorem dX7_copy_56 : decode cX7_copy 56 = .ok (.getfield 37, 3) := by decide +kernel
theorem dX7_copy_59 : decode cX7_copy 59 = .ok (.getfield 233, 3) := by decide +kernel
theorem dX7_copy_62 : decode cX7_copy 62 = .ok (.iload_n 3, 1) := by decide +kernel
theorem dX7_copy_63 : decode cX7_copy 63 = .ok (.iaload, 1) := by decide +kernel
theorem dX7_copy_64 : decode cX7_copy 64 = .ok (.if_icmp .eq 6, 3) := by decide +kernel
theorem dX7_copy_67 : decode cX7_copy 67 = .ok (.bipush (-13), 2) := by decide +kernel
theorem dX7_copy_69 : decode cX7_copy 69 = .ok (.ireturn, 1) := by decide +kernel
theorem dX7_copy_70 : decode cX7_copy 70 = .ok (.aload_n 0, 1) := by decide +kernel
theorem dX7_copy_71 : decode cX7_copy 71 = .ok (.getfield 37, 3) := by decide +kernel
theorem dX7_copy_74 : decode cX7_copy 74 = .ok (.iload_n 1, 1) := by decide +kernel
theorem dX7_copy_75 : decode cX7_copy 75 = .ok (.iload_n 2, 1) := by decide +kernel
theorem dX7_copy_76 : decode cX7_copy 76 = .ok (.iload 5, 2) := by decide +kernel
theorem dX7_copy_78 : decode cX7_copy 78 = .ok (.invokevirtual 289, 3) := by decide +kernel
theorem dX7_copy_81 : decode cX7_copy 81 = .ok (.ifCond .eq 18, 3) := by decide +kernel
theorem dX7_copy_84 : decode cX7_copy 84 = .ok (.aload_n 0, 1) := by decide +kernel
theorem dX7_copy_85 : decode cX7_copy 85 = .ok (.getfield 37, 3) := by decide +kernel
theorem dX7_copy_88 : decode cX7_copy 88 = .ok (.iload_n 3, 1) := by decide +kernel
theorem dX7_copy_89 : decode cX7_copy 89 = .ok (.iload 4, 2) := by decide +kernel
theorem dX7_copy_91 : decode cX7_copy 91 = .ok (.iload 5, 2) := by decide +kernel
theorem dX7_copy_93 : decode cX7_copy 93 = .ok (.invokevirtual 289, 3) := by decide +kernel
theorem dX7_copy_96 : decode cX7_copy 96 = .ok (.ifCond .ne 6, 3) := by decide +kernel
theorem dX7_copy_99 : decode cX7_copy 99 = .ok (.bipush (-12), 2) := by decide +kernel
theorem dX7_copy_101 : decode cX7_copy 101 = .ok (.ireturn, 1) := by decide +kernel
theorem dX7_copy_102 : decode cX7_copy 102 = .ok (.aload_n 0, 1) := by decide +kernel
theorem dX7_copy_103 : decode cX7_copy 103 = .ok (.getfield 37, 3) := by decide +kernel
theorem dX7_copy_106 : decode cX7_copy 106 = .ok (.iload_n 1, 1) := by decide +kernel
theorem dX7_copy_107 : decode cX7_copy 107 = .ok (.iload_n 2, 1) := by decide +kernel
theorem dX7_copy_108 : decode cX7_copy 108 = .ok (.iload_n 3, 1) := by decide +kernel
theorem dX7_copy_109 : decode cX7_copy 109 = .ok (.iload 4, 2) := by decide +kernel
theorem dX7_copy_111 : decode cX7_copy 111 = .ok (.iload 5, 2) := by decide +kernel
theorem dX7_copy_113 : decode cX7_copy 113 = .ok (.invokevirtual 293, 3) := by decide +kernel
theorem dX7_copy_116 : decode cX7_copy 116 = .ok (.iload 5, 2) := by decide +kernel
theorem dX7_copy_118 : decode cX7_copy 118 = .ok (.ireturn, 1) := by decide +kernel
theorem dX7_image_0 : decode cX7_image 0 = .ok (.aload_n 0, 1) := by decide +kernel
theorem dX7_image_1 : decode cX7_image 1 = .ok (.getfield 16, 3) := by decide +kernel
theorem dX7_image_4 : decode cX7_image 4 = .ok (.aload_n 0, 1) := by decide +kernel
theorem dX7_image_5 : decode cX7_image 5 = .ok (.getfield 10, 3) := by decide +kernel
theorem dX7_image_8 : decode cX7_image 8 = .ok (.invokevirtual 297, 3) := by decide +kernel
theorem dX7_image_11 : decode cX7_image 11 = .ok (.aload_n 0, 1) := by decide +kernel
theorem dX7_image_12 : decode cX7_image 12 = .ok (.iconst 1, 1) := by decide +kernel
theorem dX7_image_13 : decode cX7_image 13 = .ok (.putfield 300, 3) := by decide +kernel
theorem dX7_image_16 : decode cX7_image 16 = .ok (.aload_n 0, 1) := by decide +kernel
theorem dX7_image_17 : decode cX7_image 17 = .ok (.getfield 16, 3) := by decide +kernel
theorem dX7_image_20 : decode cX7_image 20 = .ok (.getfield 93, 3) := by decide +kernel
theorem dX7_image_23 : decode cX7_image 23 = .ok (.ireturn, 1) := by decide +kernel
theorem dX7_back_0 : decode cX7_back 0 = .ok (.aload_n 0, 1) := by decide +kernel
theorem dX7_back_1 : decode cX7_back 1 = .ok (.getfield 300, 3) := by decide +kernel
theorem dX7_back_4 : decode cX7_back 4 = .ok (.ifCond .ne 6, 3) := by decide +kernel
theorem dX7_back_7 : decode cX7_back 7 = .ok (.bipush (-3), 2) := by decide +kernel
theorem dX7_back_9 : decode cX7_back 9 = .ok (.ireturn, 1) := by decide +kernel
theorem dX7_back_10 : decode cX7_back 10 = .ok (.aload_n 0, 1) := by decide +kernel
theorem dX7_back_11 : decode cX7_back 11 = .ok (.getfield 10, 3) := by decide +kernel
theorem dX7_back_14 : decode cX7_back 14 = .ok (.aload_n 0, 1) := by decide +kernel
theorem dX7_back_15 : decode cX7_back 15 = .ok (.getfield 16, 3) := by decide +kernel
theorem dX7_back_18 : decode cX7_back 18 = .ok (.invokevirtual 297, 3) := by decide +kernel
theorem dX7_back_21 : decode cX7_back 21 = .ok (.aload_n 0, 1) := by decide +kernel
theorem dX7_back_22 : decode cX7_back 22 = .ok (.getfield 10, 3) := by decide +kernel
theorem dX7_back_25 : decode cX7_back 25 = .ok (.getfield 93, 3) := by decide +kernel
theorem dX7_back_28 : decode cX7_back 28 = .ok (.ireturn, 1) := by decide +kernel
theorem dX7_count_0 : decode cX7_count 0 = .ok (.iload_n 1, 1) := by decide +kernel
theorem dX7_count_1 : decode cX7_count 1 = .ok (.tableswitch 63 0 3 #[31, 39, 47, 55], 31) := by decide +kernel
theorem dX7_count_32 : decode cX7_count 32 = .ok (.aload_n 0, 1) := by decide +kernel
theorem dX7_count_33 : decode cX7_count 33 = .ok (.getfield 10, 3) := by decide +kernel
theorem dX7_count_36 : decode cX7_count 36 = .ok (.getfield 59, 3) := by decide +kernel
theorem dX7_count_39 : decode cX7_count 39 = .ok (.ireturn, 1) := by decide +kernel
theorem dX7_count_40 : decode cX7_count 40 = .ok (.aload_n 0, 1) := by decide +kernel
theorem dX7_count_41 : decode cX7_count 41 = .ok (.getfield 10, 3) := by decide +kernel
theorem dX7_count_44 : decode cX7_count 44 = .ok (.getfield 93, 3) := by decide +kernel
theorem dX7_count_47 : decode cX7_count 47 = .ok (.ireturn, 1) := by decide +kernel
theorem dX7_count_48 : decode cX7_count 48 = .ok (.aload_n 0, 1) := by decide +kernel
theorem dX7_count_49 : decode cX7_count 49 = .ok (.getfield 10, 3) := by decide +kernel
theorem dX7_count_52 : decode cX7_count 52 = .ok (.getfield 87, 3) := by decide +kernel
theorem dX7_count_55 : decode cX7_count 55 = .ok (.ireturn, 1) := by decide +kernel
theorem dX7_count_56 : decode cX7_count 56 = .ok (.aload_n 0, 1) := by decide +kernel
theorem dX7_count_57 : decode cX7_count 57 = .ok (.getfield 10, 3) := by decide +kernel
theorem dX7_count_60 : decode cX7_count 60 = .ok (.invokevirtual 304, 3) := by decide +kernel
theorem dX7_count_63 : decode cX7_count 63 = .ok (.ireturn, 1) := by decide +kernel
theorem dX7_count_64 : decode cX7_count 64 = .ok (.bipush (-2), 2) := by decide +kernel
theorem dX7_count_66 : decode cX7_count 66 = .ok (.ireturn, 1) := by decide +kernel
theorem dX7_isVariable_0 : decode cX7_isVariable 0 = .ok (.iload_n 1, 1) := by decide +kernel
theorem dX7_isVariable_1 : decode cX7_isVariable 1 = .ok (.ifCond .lt 18, 3) := by decide +kernel
theorem dX7_isVariable_4 : decode cX7_isVariable 4 = .ok (.iload_n 1, 1) := by decide +kernel
theorem dX7_isVariable_5 : decode cX7_isVariable 5 = .ok (.aload_n 0, 1) := by decide +kernel
theorem dX7_isVariable_6 : decode cX7_isVariable 6 = .ok (.getfield 10, 3) := by decide +kernel
theorem dX7_isVariable_9 : decode cX7_isVariable 9 = .ok (.getfield 59, 3) := by decide +kernel
theorem dX7_isVariable_12 : decode cX7_isVariable 12 = .ok (.if_icmp .ge 7, 3) := by decide +kernel
theorem dX7_isVariable_15 : decode cX7_isVariable 15 = .ok (.iconst 1, 1) := by decide +kernel
theorem dX7_isVariable_16 : decode cX7_isVariable 16 = .ok (.goto 4, 3) := by decide +kernel
theorem dX7_isVariable_19 : decode cX7_isVariable 19 = .ok (.iconst 0, 1) := by decide +kernel
theorem dX7_isVariable_20 : decode cX7_isVariable 20 = .ok (.ireturn, 1) := by decide +kernel
theorem dX7_isLine_0 : decode cX7_isLine 0 = .ok (.iload_n 1, 1) := by decide +kernel
theorem dX7_isLine_1 : decode cX7_isLine 1 = .ok (.ifCond .lt 18, 3) := by decide +kernel
theorem dX7_isLine_4 : decode cX7_isLine 4 = .ok (.iload_n 1, 1) := by decide +kernel
theorem dX7_isLine_5 : decode cX7_isLine 5 = .ok (.aload_n 0, 1) := by decide +kernel
theorem dX7_isLine_6 : decode cX7_isLine 6 = .ok (.getfield 10, 3) := by decide +kernel
theorem dX7_isLine_9 : decode cX7_isLine 9 = .ok (.getfield 93, 3) := by decide +kernel
theorem dX7_isLine_12 : decode cX7_isLine 12 = .ok (.if_icmp .ge 7, 3) := by decide +kernel
theorem dX7_isLine_15 : decode cX7_isLine 15 = .ok (.iconst 1, 1) := by decide +kernel
theorem dX7_isLine_16 : decode cX7_isLine 16 = .ok (.goto 4, 3) := by decide +kernel
theorem dX7_isLine_19 : decode cX7_isLine 19 = .ok (.iconst 0, 1) := by decide +kernel
theorem dX7_isLine_20 : decode cX7_isLine 20 = .ok (.ireturn, 1) := by decide +kernel
theorem dX7_isSet_0 : decode cX7_isSet 0 = .ok (.iload_n 1, 1) := by decide +kernel
theorem dX7_isSet_1 : decode cX7_isSet 1 = .ok (.aload_n 0, 1) := by decide +kernel
theorem dX7_isSet_2 : decode cX7_isSet 2 = .ok (.getfield 10, 3) := by decide +kernel
theorem dX7_isSet_5 : decode cX7_isSet 5 = .ok (.invokevirtual 202, 3) := by decide +kernel
theorem dX7_isSet_8 : decode cX7_isSet 8 = .ok (.iconst (-1), 1) := by decide +kernel
theorem dX7_isSet_9 : decode cX7_isSet 9 = .ok (.ixor, 1) := by decide +kernel
theorem dX7_isSet_10 : decode cX7_isSet 10 = .ok (.iand, 1) := by decide +kernel
theorem dX7_isSet_11 : decode cX7_isSet 11 = .ok (.ifCond .ne 7, 3) := by decide +kernel
theorem dX7_isSet_14 : decode cX7_isSet 14 = .ok (.iconst 1, 1) := by decide +kernel
theorem dX7_isSet_15 : decode cX7_isSet 15 = .ok (.goto 4, 3) := by decide +kernel
theorem dX7_isSet_18 : decode cX7_isSet 18 = .ok (.iconst 0, 1) := by decide +kernel
theorem dX7_isSet_19 : decode cX7_isSet 19 = .ok (.ireturn, 1) := by decide +kernel
theorem dX7_isOf_0 : decode cX7_isOf 0 = .ok (.iload_n 0, 1) := by decide +kernel
theorem dX7_isOf_1 : decode cX7_isOf 1 = .ok (.iload_n 1, 1) := by decide +kernel
theorem dX7_isOf_2 : decode cX7_isOf 2 = .ok (.ishr, 1) := by decide +kernel
theorem dX7_isOf_3 : decode cX7_isOf 3 = .ok (.iconst 1, 1) := by decide +kernel
theorem dX7_isOf_4 : decode cX7_isOf 4 = .ok (.iand, 1) := by decide +kernel
theorem dX7_isOf_5 : decode cX7_isOf 5 = .ok (.ifCond .eq 7, 3) := by decide +kernel
theorem dX7_isOf_8 : decode cX7_isOf 8 = .ok (.iconst 1, 1) := by decide +kernel
theorem dX7_isOf_9 : decode cX7_isOf 9 = .ok (.goto 4, 3) := by decide +kernel
theorem dX7_isOf_12 : decode cX7_isOf 12 = .ok (.iconst 0, 1) := by decide +kernel
theorem dX7_isOf_13 : decode cX7_isOf 13 = .ok (.ireturn, 1) := by decide +kernel
theorem dX7_isPart_0 : decode cX7_isPart 0 = .ok (.iload_n 0, 1) := by decide +kernel
theorem dX7_isPart_1 : decode cX7_isPart 1 = .ok (.ifCond .eq 8, 3) := by decide +kernel
theorem dX7_isPart_4 : decode cX7_isPart 4 = .ok (.iload_n 0, 1) := by decide +kernel
theorem dX7_isPart_5 : decode cX7_isPart 5 = .ok (.iconst 1, 1) := by decide +kernel
theorem dX7_isPart_6 : decode cX7_isPart 6 = .ok (.if_icmp .ne 7, 3) := by decide +kernel
theorem dX7_isPart_9 : decode cX7_isPart 9 = .ok (.iconst 1, 1) := by decide +kernel
theorem dX7_isPart_10 : decode cX7_isPart 10 = .ok (.goto 4, 3) := by decide +kernel
theorem dX7_isPart_13 : decode cX7_isPart 13 = .ok (.iconst 0, 1) := by decide +kernel
theorem dX7_isPart_14 : decode cX7_isPart 14 = .ok (.ireturn, 1) := by decide +kernel
theorem dX7_isSheet_0 : decode cX7_isSheet 0 = .ok (.iload_n 0, 1) := by decide +kernel
theorem dX7_isSheet_1 : decode cX7_isSheet 1 = .ok (.ifCond .lt 12, 3) := by decide +kernel
theorem dX7_isSheet_4 : decode cX7_isSheet 4 = .ok (.iload_n 0, 1) := by decide +kernel
theorem dX7_isSheet_5 : decode cX7_isSheet 5 = .ok (.iconst 4, 1) := by decide +kernel
theorem dX7_isSheet_6 : decode cX7_isSheet 6 = .ok (.if_icmp .ge 7, 3) := by decide +kernel
theorem dX7_isSheet_9 : decode cX7_isSheet 9 = .ok (.iconst 1, 1) := by decide +kernel
theorem dX7_isSheet_10 : decode cX7_isSheet 10 = .ok (.goto 4, 3) := by decide +kernel
theorem dX7_isSheet_13 : decode cX7_isSheet 13 = .ok (.iconst 0, 1) := by decide +kernel
theorem dX7_isSheet_14 : decode cX7_isSheet 14 = .ok (.ireturn, 1) := by decide +kernel
theorem dX7_isKind_0 : decode cX7_isKind 0 = .ok (.iload_n 0, 1) := by decide +kernel
theorem dX7_isKind_1 : decode cX7_isKind 1 = .ok (.ifCond .lt 12, 3) := by decide +kernel
theorem dX7_isKind_4 : decode cX7_isKind 4 = .ok (.iload_n 0, 1) := by decide +kernel
theorem dX7_isKind_5 : decode cX7_isKind 5 = .ok (.iconst 4, 1) := by decide +kernel
theorem dX7_isKind_6 : decode cX7_isKind 6 = .ok (.if_icmp .gt 7, 3) := by decide +kernel
theorem dX7_isKind_9 : decode cX7_isKind 9 = .ok (.iconst 1, 1) := by decide +kernel
theorem dX7_isKind_10 : decode cX7_isKind 10 = .ok (.goto 4, 3) := by decide +kernel
theorem dX7_isKind_13 : decode cX7_isKind 13 = .ok (.iconst 0, 1) := by decide +kernel
theorem dX7_isKind_14 : decode cX7_isKind 14 = .ok (.ireturn, 1) := by decide +kernel
theorem dX7_isWithin_0 : decode cX7_isWithin 0 = .ok (.iload_n 0, 1) := by decide +kernel
theorem dX7_isWithin_1 : decode cX7_isWithin 1 = .ok (.iload_n 1, 1) := by decide +kernel
theorem dX7_isWithin_2 : decode cX7_isWithin 2 = .ok (.ineg, 1) := by decide +kernel
theorem dX7_isWithin_3 : decode cX7_isWithin 3 = .ok (.if_icmp .lt 12, 3) := by decide +kernel
theorem dX7_isWithin_6 : decode cX7_isWithin 6 = .ok (.iload_n 0, 1) := by decide +kernel
theorem dX7_isWithin_7 : decode cX7_isWithin 7 = .ok (.iload_n 1, 1) := by decide +kernel
theorem dX7_isWithin_8 : decode cX7_isWithin 8 = .ok (.if_icmp .gt 7, 3) := by decide +kernel
theorem dX7_isWithin_11 : decode cX7_isWithin 11 = .ok (.iconst 1, 1) := by decide +kernel
theorem dX7_isWithin_12 : decode cX7_isWithin 12 = .ok (.goto 4, 3) := by decide +kernel
theorem dX7_isWithin_15 : decode cX7_isWithin 15 = .ok (.iconst 0, 1) := by decide +kernel
theorem dX7_isWithin_16 : decode cX7_isWithin 16 = .ok (.ireturn, 1) := by decide +kernel
theorem dX7_isBend_0 : decode cX7_isBend 0 = .ok (.iload_n 0, 1) := by decide +kernel
theorem dX7_isBend_1 : decode cX7_isBend 1 = .ok (.ifCond .eq 22, 3) := by decide +kernel
theorem dX7_isBend_4 : decode cX7_isBend 4 = .ok (.iload_n 1, 1) := by decide +kernel
theorem dX7_isBend_5 : decode cX7_isBend 5 = .ok (.iconst 1, 1) := by decide +kernel
theorem dX7_isBend_6 : decode cX7_isBend 6 = .ok (.if_icmp .lt 13, 3) := by decide +kernel
theorem dX7_isBend_9 : decode cX7_isBend 9 = .ok (.iload_n 1, 1) := by decide +kernel
theorem dX7_isBend_10 : decode cX7_isBend 10 = .ok (.bipush 20, 2) := by decide +kernel
theorem dX7_isBend_12 : decode cX7_isBend 12 = .ok (.if_icmp .gt 7, 3) := by decide +kernel
theorem dX7_isBend_15 : decode cX7_isBend 15 = .ok (.iconst 1, 1) := by decide +kernel
theorem dX7_isBend_16 : decode cX7_isBend 16 = .ok (.goto 13, 3) := by decide +kernel
theorem dX7_isBend_19 : decode cX7_isBend 19 = .ok (.iconst 0, 1) := by decide +kernel
theorem dX7_isBend_20 : decode cX7_isBend 20 = .ok (.goto 9, 3) := by decide +kernel
theorem dX7_isBend_23 : decode cX7_isBend 23 = .ok (.iload_n 1, 1) := by decide +kernel
theorem dX7_isBend_24 : decode cX7_isBend 24 = .ok (.bipush 9, 2) := by decide +kernel
theorem dX7_isBend_26 : decode cX7_isBend 26 = .ok (.invokestatic 79, 3) := by decide +kernel
theorem dX7_isBend_29 : decode cX7_isBend 29 = .ok (.ireturn, 1) := by decide +kernel
theorem dX7_isChange_0 : decode cX7_isChange 0 = .ok (.iload_n 0, 1) := by decide +kernel
theorem dX7_isChange_1 : decode cX7_isChange 1 = .ok (.tableswitch 46 0 2 #[27, 32, 39], 27) := by decide +kernel
theorem dX7_isChange_28 : decode cX7_isChange 28 = .ok (.iload_n 1, 1) := by decide +kernel
theorem dX7_isChange_29 : decode cX7_isChange 29 = .ok (.invokestatic 90, 3) := by decide +kernel
theorem dX7_isChange_32 : decode cX7_isChange 32 = .ok (.ireturn, 1) := by decide +kernel
theorem dX7_isChange_33 : decode cX7_isChange 33 = .ok (.iload_n 1, 1) := by decide +kernel
theorem dX7_isChange_34 : decode cX7_isChange 34 = .ok (.bipush 99, 2) := by decide +kernel
theorem dX7_isChange_36 : decode cX7_isChange 36 = .ok (.invokestatic 79, 3) := by decide +kernel
theorem dX7_isChange_39 : decode cX7_isChange 39 = .ok (.ireturn, 1) := by decide +kernel
theorem dX7_isChange_40 : decode cX7_isChange 40 = .ok (.iload_n 1, 1) := by decide +kernel
theorem dX7_isChange_41 : decode cX7_isChange 41 = .ok (.bipush 9, 2) := by decide +kernel
theorem dX7_isChange_43 : decode cX7_isChange 43 = .ok (.invokestatic 79, 3) := by decide +kernel
theorem dX7_isChange_46 : decode cX7_isChange 46 = .ok (.ireturn, 1) := by decide +kernel
theorem dX7_isChange_47 : decode cX7_isChange 47 = .ok (.iconst 0, 1) := by decide +kernel
theorem dX7_isChange_48 : decode cX7_isChange 48 = .ok (.ireturn, 1) := by decide +kernel
theorem dX7_refusedCell_0 : decode cX7_refusedCell 0 = .ok (.iload_n 1, 1) := by decide +kernel
theorem dX7_refusedCell_1 : decode cX7_refusedCell 1 = .ok (.invokestatic 223, 3) := by decide +kernel
theorem dX7_refusedCell_4 : decode cX7_refusedCell 4 = .ok (.ifCond .ne 6, 3) := by decide +kernel
theorem dX7_refusedCell_7 : decode cX7_refusedCell 7 = .ok (.bipush (-2), 2) := by decide +kernel
theorem dX7_refusedCell_9 : decode cX7_refusedCell 9 = .ok (.ireturn, 1) := by decide +kernel
theorem dX7_refusedCell_10 : decode cX7_refusedCell 10 = .ok (.aload_n 0, 1) := by decide +kernel
theorem dX7_refusedCell_11 : decode cX7_refusedCell 11 = .ok (.getfield 37, 3) := by decide +kernel
theorem dX7_refusedCell_14 : decode cX7_refusedCell 14 = .ok (.getfield 233, 3) := by decide +kernel
theorem dX7_refusedCell_17 : decode cX7_refusedCell 17 = .ok (.iload_n 1, 1) := by decide +kernel
theorem dX7_refusedCell_18 : decode cX7_refusedCell 18 = .ok (.iaload, 1) := by decide +kernel
theorem dX7_refusedCell_19 : decode cX7_refusedCell 19 = .ok (.iconst (-1), 1) := by decide +kernel
theorem dX7_refusedCell_20 : decode cX7_refusedCell 20 = .ok (.if_icmp .ne 6, 3) := by decide +kernel
theorem dX7_refusedCell_23 : decode cX7_refusedCell 23 = .ok (.bipush (-11), 2) := by decide +kernel
theorem dX7_refusedCell_25 : decode cX7_refusedCell 25 = .ok (.ireturn, 1) := by decide +kernel
theorem dX7_refusedCell_26 : decode cX7_refusedCell 26 = .ok (.iload_n 2, 1) := by decide +kernel
theorem dX7_refusedCell_27 : decode cX7_refusedCell 27 = .ok (.ifCond .lt 16, 3) := by decide +kernel
theorem dX7_refusedCell_30 : decode cX7_refusedCell 30 = .ok (.iload_n 2, 1) := by decide +kernel
theorem dX7_refusedCell_31 : decode cX7_refusedCell 31 = .ok (.aload_n 0, 1) := by decide +kernel
theorem dX7_refusedCell_32 : decode cX7_refusedCell 32 = .ok (.getfield 37, 3) := by decide +kernel
theorem dX7_refusedCell_35 : decode cX7_refusedCell 35 = .ok (.getfield 236, 3) := by decide +kernel
theorem dX7_refusedCell_38 : decode cX7_refusedCell 38 = .ok (.iload_n 1, 1) := by decide +kernel
theorem dX7_refusedCell_39 : decode cX7_refusedCell 39 = .ok (.iaload, 1) := by decide +kernel
theorem dX7_refusedCell_40 : decode cX7_refusedCell 40 = .ok (.if_icmp .lt 8, 3) := by decide +kernel
theorem dX7_refusedCell_43 : decode cX7_refusedCell 43 = .ok (.bipush (-12), 2) := by decide +kernel
theorem dX7_refusedCell_45 : decode cX7_refusedCell 45 = .ok (.goto 4, 3) := by decide +kernel
theorem dX7_refusedCell_48 : decode cX7_refusedCell 48 = .ok (.iconst 0, 1) := by decide +kernel
theorem dX7_refusedCell_49 : decode cX7_refusedCell 49 = .ok (.ireturn, 1) := by decide +kernel
theorem dX7_find_0 : decode cX7_find 0 = .ok (.iload_n 1, 1) := by decide +kernel
theorem dX7_find_1 : decode cX7_find 1 = .ok (.ifCond .eq 6, 3) := by decide +kernel
theorem dX7_find_4 : decode cX7_find 4 = .ok (.bipush (-2), 2) := by decide +kernel
theorem dX7_find_6 : decode cX7_find 6 = .ok (.ireturn, 1) := by decide +kernel
theorem dX7_find_7 : decode cX7_find 7 = .ok (.aload_n 0, 1) := by decide +kernel
theorem dX7_find_8 : decode cX7_find 8 = .ok (.getfield 10, 3) := by decide +kernel
theorem dX7_find_11 : decode cX7_find 11 = .ok (.invokevirtual 131, 3) := by decide +kernel
theorem dX7_find_14 : decode cX7_find 14 = .ok (.ifCond .eq 21, 3) := by decide +kernel
theorem dX7_find_17 : decode cX7_find 17 = .ok (.aload_n 0, 1) := by decide +kernel
theorem dX7_find_18 : decode cX7_find 18 = .ok (.getfield 27, 3) := by decide +kernel
theorem dX7_find_21 : decode cX7_find 21 = .ok (.iload_n 2, 1) := by decide +kernel
theorem dX7_find_22 : decode cX7_find 22 = .ok (.aload_n 0, 1) := by decide +kernel
theorem dX7_find_23 : decode cX7_find 23 = .ok (.getfield 10, 3) := by decide +kernel
theorem dX7_find_26 : decode cX7_find 26 = .ok (.getfield 87, 3) := by decide +kernel
theorem dX7_find_29 : decode cX7_find 29 = .ok (.invokevirtual 307, 3) := by decide +kernel
theorem dX7_find_32 : decode cX7_find 32 = .ok (.goto 5, 3) := by decide +kernel
theorem dX7_find_35 : decode cX7_find 35 = .ok (.bipush (-3), 2) := by decide +kernel
theorem dX7_find_37 : decode cX7_find 37 = .ok (.ireturn, 1) := by decide +kernel
theorem dX7_findNear_0 : decode cX7_findNear 0 = .ok (.iload_n 1, 1) := by decide +kernel
theorem dX7_findNear_1 : decode cX7_findNear 1 = .ok (.ifCond .ne 31, 3) := by decide +kernel
theorem dX7_findNear_4 : decode cX7_findNear 4 = .ok (.iload_n 2, 1) := by decide +kernel
theorem dX7_findNear_5 : decode cX7_findNear 5 = .ok (.bipush 99, 2) := by decide +kernel
theorem dX7_findNear_7 : decode cX7_findNear 7 = .ok (.invokestatic 79, 3) := by decide +kernel
theorem dX7_findNear_10 : decode cX7_findNear 10 = .ok (.ifCond .eq 22, 3) := by decide +kernel
theorem dX7_findNear_13 : decode cX7_findNear 13 = .ok (.iload_n 3, 1) := by decide +kernel
theorem dX7_findNear_14 : decode cX7_findNear 14 = .ok (.bipush 99, 2) := by decide +kernel
theorem dX7_findNear_16 : decode cX7_findNear 16 = .ok (.invokestatic 79, 3) := by decide +kernel
theorem dX7_findNear_19 : decode cX7_findNear 19 = .ok (.ifCond .eq 13, 3) := by decide +kernel
theorem dX7_findNear_22 : decode cX7_findNear 22 = .ok (.iload 4, 2) := by decide +kernel
theorem dX7_findNear_24 : decode cX7_findNear 24 = .ok (.bipush 99, 2) := by decide +kernel
theorem dX7_findNear_26 : decode cX7_findNear 26 = .ok (.invokestatic 79, 3) := by decide +kernel
theorem dX7_findNear_29 : decode cX7_findNear 29 = .ok (.ifCond .ne 6, 3) := by decide +kernel
theorem dX7_findNear_32 : decode cX7_findNear 32 = .ok (.bipush (-2), 2) := by decide +kernel
theorem dX7_findNear_34 : decode cX7_findNear 34 = .ok (.ireturn, 1) := by decide +kernel
theorem dX7_findNear_35 : decode cX7_findNear 35 = .ok (.aload_n 0, 1) := by decide +kernel
theorem dX7_findNear_36 : decode cX7_findNear 36 = .ok (.getfield 19, 3) := by decide +kernel
theorem dX7_findNear_39 : decode cX7_findNear 39 = .ok (.aload_n 0, 1) := by decide +kernel
theorem dX7_findNear_40 : decode cX7_findNear 40 = .ok (.getfield 10, 3) := by decide +kernel
theorem dX7_findNear_43 : decode cX7_findNear 43 = .ok (.invokevirtual 297, 3) := by decide +kernel
theorem dX7_findNear_46 : decode cX7_findNear 46 = .ok (.aload_n 0, 1) := by decide +kernel
theorem dX7_findNear_47 : decode cX7_findNear 47 = .ok (.getfield 19, 3) := by decide +kernel
theorem dX7_findNear_50 : decode cX7_findNear 50 = .ok (.invokevirtual 309, 3) := by decide +kernel
theorem dX7_findNear_53 : decode cX7_findNear 53 = .ok (.aload_n 0, 1) := by decide +kernel
theorem dX7_findNear_54 : decode cX7_findNear 54 = .ok (.getfield 19, 3) := by decide +kernel
theorem dX7_findNear_57 : decode cX7_findNear 57 = .ok (.getfield 83, 3) := by decide +kernel
theorem dX7_findNear_60 : decode cX7_findNear 60 = .ok (.iconst 0, 1) := by decide +kernel
theorem dX7_findNear_61 : decode cX7_findNear 61 = .ok (.iload_n 2, 1) := by decide +kernel
theorem dX7_findNear_62 : decode cX7_findNear 62 = .ok (.ineg, 1) := by decide +kernel
theorem dX7_findNear_63 : decode cX7_findNear 63 = .ok (.iastore, 1) := by decide +kernel
theorem dX7_findNear_64 : decode cX7_findNear 64 = .ok (.aload_n 0, 1) := by decide +kernel
theorem dX7_findNear_65 : decode cX7_findNear 65 = .ok (.getfield 19, 3) := by decide +kernel
theorem dX7_findNear_68 : decode cX7_findNear 68 = .ok (.getfield 83, 3) := by decide +kernel
theorem dX7_findNear_71 : decode cX7_findNear 71 = .ok (.iconst 1, 1) := by decide +kernel
theorem dX7_findNear_72 : decode cX7_findNear 72 = .ok (.iload_n 3, 1) := by decide +kernel
theorem dX7_findNear_73 : decode cX7_findNear 73 = .ok (.ineg, 1) := by decide +kernel
theorem dX7_findNear_74 : decode cX7_findNear 74 = .ok (.iastore, 1) := by decide +kernel
theorem dX7_findNear_75 : decode cX7_findNear 75 = .ok (.aload_n 0, 1) := by decide +kernel
theorem dX7_findNear_76 : decode cX7_findNear 76 = .ok (.getfield 19, 3) := by decide +kernel
theorem dX7_findNear_79 : decode cX7_findNear 79 = .ok (.getfield 83, 3) := by decide +kernel
theorem dX7_findNear_82 : decode cX7_findNear 82 = .ok (.iconst 2, 1) := by decide +kernel
theorem dX7_findNear_83 : decode cX7_findNear 83 = .ok (.iload 4, 2) := by decide +kernel
theorem dX7_findNear_85 : decode cX7_findNear 85 = .ok (.ineg, 1) := by decide +kernel
theorem dX7_findNear_86 : decode cX7_findNear 86 = .ok (.iastore, 1) := by decide +kernel
theorem dX7_findNear_87 : decode cX7_findNear 87 = .ok (.aload_n 0, 1) := by decide +kernel
theorem dX7_findNear_88 : decode cX7_findNear 88 = .ok (.getfield 31, 3) := by decide +kernel
theorem dX7_findNear_91 : decode cX7_findNear 91 = .ok (.aload_n 0, 1) := by decide +kernel
theorem dX7_findNear_92 : decode cX7_findNear 92 = .ok (.getfield 19, 3) := by decide +kernel
theorem dX7_findNear_95 : decode cX7_findNear 95 = .ok (.invokevirtual 202, 3) := by decide +kernel
theorem dX7_findNear_98 : decode cX7_findNear 98 = .ok (.aload_n 0, 1) := by decide +kernel
theorem dX7_findNear_99 : decode cX7_findNear 99 = .ok (.getfield 19, 3) := by decide +kernel
theorem dX7_findNear_102 : decode cX7_findNear 102 = .ok (.getfield 87, 3) := by decide +kernel
theorem dX7_findNear_105 : decode cX7_findNear 105 = .ok (.invokevirtual 307, 3) := by decide +kernel
theorem dX7_findNear_108 : decode cX7_findNear 108 = .ok (.ireturn, 1) := by decide +kernel
