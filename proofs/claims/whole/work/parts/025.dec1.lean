theorem dX0_init_0 : decode cX0_init 0 = .ok (.aload_n 0, 1) := by decide +kernel
theorem dX0_init_1 : decode cX0_init 1 = .ok (.invokespecial 1, 3) := by decide +kernel
theorem dX0_init_4 : decode cX0_init 4 = .ok (.return_, 1) := by decide +kernel
theorem dX0_write_0 : decode cX0_write 0 = .ok (.aload_n 0, 1) := by decide +kernel
theorem dX0_write_1 : decode cX0_write 1 = .ok (.dup, 1) := by decide +kernel
theorem dX0_write_2 : decode cX0_write 2 = .ok (.getfield 7, 3) := by decide +kernel
theorem dX0_write_5 : decode cX0_write 5 = .ok (.iconst 1, 1) := by decide +kernel
theorem dX0_write_6 : decode cX0_write 6 = .ok (.iadd, 1) := by decide +kernel
theorem dX0_write_7 : decode cX0_write 7 = .ok (.putfield 7, 3) := by decide +kernel
theorem dX0_write_10 : decode cX0_write 10 = .ok (.aload_n 0, 1) := by decide +kernel
theorem dX0_write_11 : decode cX0_write 11 = .ok (.aload_n 0, 1) := by decide +kernel
theorem dX0_write_12 : decode cX0_write 12 = .ok (.getfield 13, 3) := by decide +kernel
theorem dX0_write_15 : decode cX0_write 15 = .ok (.ldc2_w 17, 3) := by decide +kernel
theorem dX0_write_18 : decode cX0_write 18 = .ok (.lmul, 1) := by decide +kernel
theorem dX0_write_19 : decode cX0_write 19 = .ok (.iload_n 1, 1) := by decide +kernel
theorem dX0_write_20 : decode cX0_write 20 = .ok (.i2l, 1) := by decide +kernel
theorem dX0_write_21 : decode cX0_write 21 = .ok (.ladd, 1) := by decide +kernel
theorem dX0_write_22 : decode cX0_write 22 = .ok (.putfield 13, 3) := by decide +kernel
theorem dX0_write_25 : decode cX0_write 25 = .ok (.aload_n 0, 1) := by decide +kernel
theorem dX0_write_26 : decode cX0_write 26 = .ok (.aload_n 0, 1) := by decide +kernel
theorem dX0_write_27 : decode cX0_write 27 = .ok (.getfield 19, 3) := by decide +kernel
theorem dX0_write_30 : decode cX0_write 30 = .ok (.bipush 8, 2) := by decide +kernel
theorem dX0_write_32 : decode cX0_write 32 = .ok (.lshl, 1) := by decide +kernel
theorem dX0_write_33 : decode cX0_write 33 = .ok (.iload_n 1, 1) := by decide +kernel
theorem dX0_write_34 : decode cX0_write 34 = .ok (.sipush 255, 3) := by decide +kernel
theorem dX0_write_37 : decode cX0_write 37 = .ok (.iand, 1) := by decide +kernel
theorem dX0_write_38 : decode cX0_write 38 = .ok (.i2l, 1) := by decide +kernel
theorem dX0_write_39 : decode cX0_write 39 = .ok (.lor, 1) := by decide +kernel
theorem dX0_write_40 : decode cX0_write 40 = .ok (.putfield 19, 3) := by decide +kernel
theorem dX0_write_43 : decode cX0_write 43 = .ok (.return_, 1) := by decide +kernel
theorem dX0_offer_0 : decode cX0_offer 0 = .ok (.aload_n 0, 1) := by decide +kernel
theorem dX0_offer_1 : decode cX0_offer 1 = .ok (.getfield 22, 3) := by decide +kernel
theorem dX0_offer_4 : decode cX0_offer 4 = .ok (.lconst 0, 1) := by decide +kernel
theorem dX0_offer_5 : decode cX0_offer 5 = .ok (.lcmp, 1) := by decide +kernel
theorem dX0_offer_6 : decode cX0_offer 6 = .ok (.ifCond .eq 19, 3) := by decide +kernel
theorem dX0_offer_9 : decode cX0_offer 9 = .ok (.lload_n 1, 1) := by decide +kernel
theorem dX0_offer_10 : decode cX0_offer 10 = .ok (.lload_n 3, 1) := by decide +kernel
theorem dX0_offer_11 : decode cX0_offer 11 = .ok (.aload_n 0, 1) := by decide +kernel
theorem dX0_offer_12 : decode cX0_offer 12 = .ok (.getfield 25, 3) := by decide +kernel
theorem dX0_offer_15 : decode cX0_offer 15 = .ok (.aload_n 0, 1) := by decide +kernel
theorem dX0_offer_16 : decode cX0_offer 16 = .ok (.getfield 22, 3) := by decide +kernel
theorem dX0_offer_19 : decode cX0_offer 19 = .ok (.invokestatic 28, 3) := by decide +kernel
theorem dX0_offer_22 : decode cX0_offer 22 = .ok (.ifCond .eq 13, 3) := by decide +kernel
theorem dX0_offer_25 : decode cX0_offer 25 = .ok (.aload_n 0, 1) := by decide +kernel
theorem dX0_offer_26 : decode cX0_offer 26 = .ok (.lload_n 1, 1) := by decide +kernel
theorem dX0_offer_27 : decode cX0_offer 27 = .ok (.putfield 25, 3) := by decide +kernel
theorem dX0_offer_30 : decode cX0_offer 30 = .ok (.aload_n 0, 1) := by decide +kernel
theorem dX0_offer_31 : decode cX0_offer 31 = .ok (.lload_n 3, 1) := by decide +kernel
theorem dX0_offer_32 : decode cX0_offer 32 = .ok (.putfield 22, 3) := by decide +kernel
theorem dX0_offer_35 : decode cX0_offer 35 = .ok (.return_, 1) := by decide +kernel
theorem dX0_lastBut_0 : decode cX0_lastBut 0 = .ok (.aload_n 0, 1) := by decide +kernel
theorem dX0_lastBut_1 : decode cX0_lastBut 1 = .ok (.getfield 19, 3) := by decide +kernel
theorem dX0_lastBut_4 : decode cX0_lastBut 4 = .ok (.bipush 8, 2) := by decide +kernel
theorem dX0_lastBut_6 : decode cX0_lastBut 6 = .ok (.iload_n 1, 1) := by decide +kernel
theorem dX0_lastBut_7 : decode cX0_lastBut 7 = .ok (.imul, 1) := by decide +kernel
theorem dX0_lastBut_8 : decode cX0_lastBut 8 = .ok (.lshr, 1) := by decide +kernel
theorem dX0_lastBut_9 : decode cX0_lastBut 9 = .ok (.l2i, 1) := by decide +kernel
theorem dX0_lastBut_10 : decode cX0_lastBut 10 = .ok (.i2b, 1) := by decide +kernel
theorem dX0_lastBut_11 : decode cX0_lastBut 11 = .ok (.ireturn, 1) := by decide +kernel
theorem dX1_init_0 : decode cX1_init 0 = .ok (.aload_n 0, 1) := by decide +kernel
theorem dX1_init_1 : decode cX1_init 1 = .ok (.invokespecial 3, 3) := by decide +kernel
theorem dX1_init_4 : decode cX1_init 4 = .ok (.aload_n 0, 1) := by decide +kernel
theorem dX1_init_5 : decode cX1_init 5 = .ok (.iconst 1, 1) := by decide +kernel
theorem dX1_init_6 : decode cX1_init 6 = .ok (.putfield 9, 3) := by decide +kernel
theorem dX1_init_9 : decode cX1_init 9 = .ok (.aload_n 0, 1) := by decide +kernel
theorem dX1_init_10 : decode cX1_init 10 = .ok (.bipush 9, 2) := by decide +kernel
theorem dX1_init_12 : decode cX1_init 12 = .ok (.newarray .int, 2) := by decide +kernel
theorem dX1_init_14 : decode cX1_init 14 = .ok (.putfield 15, 3) := by decide +kernel
theorem dX1_init_17 : decode cX1_init 17 = .ok (.aload_n 0, 1) := by decide +kernel
theorem dX1_init_18 : decode cX1_init 18 = .ok (.iconst 3, 1) := by decide +kernel
theorem dX1_init_19 : decode cX1_init 19 = .ok (.newarray .int, 2) := by decide +kernel
theorem dX1_init_21 : decode cX1_init 21 = .ok (.putfield 19, 3) := by decide +kernel
theorem dX1_init_24 : decode cX1_init 24 = .ok (.aload_n 0, 1) := by decide +kernel
theorem dX1_init_25 : decode cX1_init 25 = .ok (.bipush 6, 2) := by decide +kernel
theorem dX1_init_27 : decode cX1_init 27 = .ok (.newarray .int, 2) := by decide +kernel
theorem dX1_init_29 : decode cX1_init 29 = .ok (.putfield 22, 3) := by decide +kernel
theorem dX1_init_32 : decode cX1_init 32 = .ok (.aload_n 0, 1) := by decide +kernel
theorem dX1_init_33 : decode cX1_init 33 = .ok (.bipush 6, 2) := by decide +kernel
theorem dX1_init_35 : decode cX1_init 35 = .ok (.newarray .int, 2) := by decide +kernel
theorem dX1_init_37 : decode cX1_init 37 = .ok (.putfield 25, 3) := by decide +kernel
theorem dX1_init_40 : decode cX1_init 40 = .ok (.aload_n 0, 1) := by decide +kernel
theorem dX1_init_41 : decode cX1_init 41 = .ok (.bipush 6, 2) := by decide +kernel
theorem dX1_init_43 : decode cX1_init 43 = .ok (.newarray .int, 2) := by decide +kernel
theorem dX1_init_45 : decode cX1_init 45 = .ok (.putfield 28, 3) := by decide +kernel
theorem dX1_init_48 : decode cX1_init 48 = .ok (.aload_n 0, 1) := by decide +kernel
theorem dX1_init_49 : decode cX1_init 49 = .ok (.bipush 18, 2) := by decide +kernel
theorem dX1_init_51 : decode cX1_init 51 = .ok (.newarray .int, 2) := by decide +kernel
theorem dX1_init_53 : decode cX1_init 53 = .ok (.putfield 31, 3) := by decide +kernel
theorem dX1_init_56 : decode cX1_init 56 = .ok (.return_, 1) := by decide +kernel
theorem dX1_begin_0 : decode cX1_begin 0 = .ok (.aload_n 0, 1) := by decide +kernel
theorem dX1_begin_1 : decode cX1_begin 1 = .ok (.iload_n 1, 1) := by decide +kernel
theorem dX1_begin_2 : decode cX1_begin 2 = .ok (.putfield 9, 3) := by decide +kernel
theorem dX1_begin_5 : decode cX1_begin 5 = .ok (.aload_n 0, 1) := by decide +kernel
theorem dX1_begin_6 : decode cX1_begin 6 = .ok (.iconst 0, 1) := by decide +kernel
theorem dX1_begin_7 : decode cX1_begin 7 = .ok (.putfield 34, 3) := by decide +kernel
theorem dX1_begin_10 : decode cX1_begin 10 = .ok (.aload_n 0, 1) := by decide +kernel
theorem dX1_begin_11 : decode cX1_begin 11 = .ok (.iconst 0, 1) := by decide +kernel
theorem dX1_begin_12 : decode cX1_begin 12 = .ok (.putfield 37, 3) := by decide +kernel
theorem dX1_begin_15 : decode cX1_begin 15 = .ok (.aload_n 0, 1) := by decide +kernel
theorem dX1_begin_16 : decode cX1_begin 16 = .ok (.invokevirtual 40, 3) := by decide +kernel
theorem dX1_begin_19 : decode cX1_begin 19 = .ok (.aload_n 0, 1) := by decide +kernel
theorem dX1_begin_20 : decode cX1_begin 20 = .ok (.getfield 19, 3) := by decide +kernel
theorem dX1_begin_23 : decode cX1_begin 23 = .ok (.iconst 0, 1) := by decide +kernel
theorem dX1_begin_24 : decode cX1_begin 24 = .ok (.invokestatic 43, 3) := by decide +kernel
theorem dX1_begin_27 : decode cX1_begin 27 = .ok (.return_, 1) := by decide +kernel
theorem dX1_makeRound_0 : decode cX1_makeRound 0 = .ok (.aload_n 0, 1) := by decide +kernel
theorem dX1_makeRound_1 : decode cX1_makeRound 1 = .ok (.getfield 15, 3) := by decide +kernel
theorem dX1_makeRound_4 : decode cX1_makeRound 4 = .ok (.iconst 0, 1) := by decide +kernel
theorem dX1_makeRound_5 : decode cX1_makeRound 5 = .ok (.invokestatic 43, 3) := by decide +kernel
theorem dX1_makeRound_8 : decode cX1_makeRound 8 = .ok (.iconst 0, 1) := by decide +kernel
theorem dX1_makeRound_9 : decode cX1_makeRound 9 = .ok (.istore_n 1, 1) := by decide +kernel
theorem dX1_makeRound_10 : decode cX1_makeRound 10 = .ok (.iload_n 1, 1) := by decide +kernel
theorem dX1_makeRound_11 : decode cX1_makeRound 11 = .ok (.iconst 3, 1) := by decide +kernel
theorem dX1_makeRound_12 : decode cX1_makeRound 12 = .ok (.if_icmp .ge 16, 3) := by decide +kernel
theorem dX1_makeRound_15 : decode cX1_makeRound 15 = .ok (.aload_n 0, 1) := by decide +kernel
theorem dX1_makeRound_16 : decode cX1_makeRound 16 = .ok (.iload_n 1, 1) := by decide +kernel
theorem dX1_makeRound_17 : decode cX1_makeRound 17 = .ok (.iload_n 1, 1) := by decide +kernel
theorem dX1_makeRound_18 : decode cX1_makeRound 18 = .ok (.iconst 1, 1) := by decide +kernel
theorem dX1_makeRound_19 : decode cX1_makeRound 19 = .ok (.invokevirtual 49, 3) := by decide +kernel
theorem dX1_makeRound_22 : decode cX1_makeRound 22 = .ok (.iinc 1 1, 3) := by decide +kernel
theorem dX1_makeRound_25 : decode cX1_makeRound 25 = .ok (.goto (-15), 3) := by decide +kernel
theorem dX1_makeRound_28 : decode cX1_makeRound 28 = .ok (.return_, 1) := by decide +kernel
theorem dX1_become_0 : decode cX1_become 0 = .ok (.aload_n 0, 1) := by decide +kernel
theorem dX1_become_1 : decode cX1_become 1 = .ok (.aload_n 1, 1) := by decide +kernel
theorem dX1_become_2 : decode cX1_become 2 = .ok (.getfield 9, 3) := by decide +kernel
theorem dX1_become_5 : decode cX1_become 5 = .ok (.putfield 9, 3) := by decide +kernel
theorem dX1_become_8 : decode cX1_become 8 = .ok (.aload_n 0, 1) := by decide +kernel
theorem dX1_become_9 : decode cX1_become 9 = .ok (.aload_n 1, 1) := by decide +kernel
theorem dX1_become_10 : decode cX1_become 10 = .ok (.getfield 34, 3) := by decide +kernel
theorem dX1_become_13 : decode cX1_become 13 = .ok (.putfield 34, 3) := by decide +kernel
theorem dX1_become_16 : decode cX1_become 16 = .ok (.aload_n 0, 1) := by decide +kernel
theorem dX1_become_17 : decode cX1_become 17 = .ok (.aload_n 1, 1) := by decide +kernel
theorem dX1_become_18 : decode cX1_become 18 = .ok (.getfield 37, 3) := by decide +kernel
theorem dX1_become_21 : decode cX1_become 21 = .ok (.putfield 37, 3) := by decide +kernel
theorem dX1_become_24 : decode cX1_become 24 = .ok (.aload_n 1, 1) := by decide +kernel
theorem dX1_become_25 : decode cX1_become 25 = .ok (.getfield 15, 3) := by decide +kernel
theorem dX1_become_28 : decode cX1_become 28 = .ok (.iconst 0, 1) := by decide +kernel
theorem dX1_become_29 : decode cX1_become 29 = .ok (.aload_n 0, 1) := by decide +kernel
theorem dX1_become_30 : decode cX1_become 30 = .ok (.getfield 15, 3) := by decide +kernel
theorem dX1_become_33 : decode cX1_become 33 = .ok (.iconst 0, 1) := by decide +kernel
theorem dX1_become_34 : decode cX1_become 34 = .ok (.aload_n 0, 1) := by decide +kernel
theorem dX1_become_35 : decode cX1_become 35 = .ok (.getfield 15, 3) := by decide +kernel
theorem dX1_become_38 : decode cX1_become 38 = .ok (.arraylength, 1) := by decide +kernel
theorem dX1_become_39 : decode cX1_become 39 = .ok (.invokestatic 53, 3) := by decide +kernel
theorem dX1_become_42 : decode cX1_become 42 = .ok (.aload_n 1, 1) := by decide +kernel
theorem dX1_become_43 : decode cX1_become 43 = .ok (.getfield 19, 3) := by decide +kernel
theorem dX1_become_46 : decode cX1_become 46 = .ok (.iconst 0, 1) := by decide +kernel
theorem dX1_become_47 : decode cX1_become 47 = .ok (.aload_n 0, 1) := by decide +kernel
theorem dX1_become_48 : decode cX1_become 48 = .ok (.getfield 19, 3) := by decide +kernel
theorem dX1_become_51 : decode cX1_become 51 = .ok (.iconst 0, 1) := by decide +kernel
theorem dX1_become_52 : decode cX1_become 52 = .ok (.aload_n 0, 1) := by decide +kernel
theorem dX1_become_53 : decode cX1_become 53 = .ok (.getfield 19, 3) := by decide +kernel
theorem dX1_become_56 : decode cX1_become 56 = .ok (.arraylength, 1) := by decide +kernel
theorem dX1_become_57 : decode cX1_become 57 = .ok (.invokestatic 53, 3) := by decide +kernel
theorem dX1_become_60 : decode cX1_become 60 = .ok (.aload_n 1, 1) := by decide +kernel
theorem dX1_become_61 : decode cX1_become 61 = .ok (.getfield 22, 3) := by decide +kernel
theorem dX1_become_64 : decode cX1_become 64 = .ok (.iconst 0, 1) := by decide +kernel
theorem dX1_become_65 : decode cX1_become 65 = .ok (.aload_n 0, 1) := by decide +kernel
theorem dX1_become_66 : decode cX1_become 66 = .ok (.getfield 22, 3) := by decide +kernel
theorem dX1_become_69 : decode cX1_become 69 = .ok (.iconst 0, 1) := by decide +kernel
theorem dX1_become_70 : decode cX1_become 70 = .ok (.aload_n 0, 1) := by decide +kernel
theorem dX1_become_71 : decode cX1_become 71 = .ok (.getfield 22, 3) := by decide +kernel
theorem dX1_become_74 : decode cX1_become 74 = .ok (.arraylength, 1) := by decide +kernel
theorem dX1_become_75 : decode cX1_become 75 = .ok (.invokestatic 53, 3) := by decide +kernel
theorem dX1_become_78 : decode cX1_become 78 = .ok (.aload_n 1, 1) := by decide +kernel
theorem dX1_become_79 : decode cX1_become 79 = .ok (.getfield 25, 3) := by decide +kernel
theorem dX1_become_82 : decode cX1_become 82 = .ok (.iconst 0, 1) := by decide +kernel
theorem dX1_become_83 : decode cX1_become 83 = .ok (.aload_n 0, 1) := by decide +kernel
theorem dX1_become_84 : decode cX1_become 84 = .ok (.getfield 25, 3) := by decide +kernel
theorem dX1_become_87 : decode cX1_become 87 = .ok (.iconst 0, 1) := by decide +kernel
theorem dX1_become_88 : decode cX1_become 88 = .ok (.aload_n 0, 1) := by decide +kernel
theorem dX1_become_89 : decode cX1_become 89 = .ok (.getfield 25, 3) := by decide +kernel
theorem dX1_become_92 : decode cX1_become 92 = .ok (.arraylength, 1) := by decide +kernel
theorem dX1_become_93 : decode cX1_become 93 = .ok (.invokestatic 53, 3) := by decide +kernel
theorem dX1_become_96 : decode cX1_become 96 = .ok (.aload_n 1, 1) := by decide +kernel
theorem dX1_become_97 : decode cX1_become 97 = .ok (.getfield 28, 3) := by decide +kernel
theorem dX1_become_100 : decode cX1_become 100 = .ok (.iconst 0, 1) := by decide +kernel
theorem dX1_become_101 : decode cX1_become 101 = .ok (.aload_n 0, 1) := by decide +kernel
theorem dX1_become_102 : decode cX1_become 102 = .ok (.getfield 28, 3) := by decide +kernel
theorem dX1_become_105 : decode cX1_become 105 = .ok (.iconst 0, 1) := by decide +kernel
theorem dX1_become_106 : decode cX1_become 106 = .ok (.aload_n 0, 1) := by decide +kernel
theorem dX1_become_107 : decode cX1_become 107 = .ok (.getfield 28, 3) := by decide +kernel
theorem dX1_become_110 : decode cX1_become 110 = .ok (.arraylength, 1) := by decide +kernel
theorem dX1_become_111 : decode cX1_become 111 = .ok (.invokestatic 53, 3) := by decide +kernel
theorem dX1_become_114 : decode cX1_become 114 = .ok (.aload_n 1, 1) := by decide +kernel
theorem dX1_become_115 : decode cX1_become 115 = .ok (.getfield 31, 3) := by decide +kernel
theorem dX1_become_118 : decode cX1_become 118 = .ok (.iconst 0, 1) := by decide +kernel
theorem dX1_become_119 : decode cX1_become 119 = .ok (.aload_n 0, 1) := by decide +kernel
theorem dX1_become_120 : decode cX1_become 120 = .ok (.getfield 31, 3) := by decide +kernel
theorem dX1_become_123 : decode cX1_become 123 = .ok (.iconst 0, 1) := by decide +kernel
theorem dX1_become_124 : decode cX1_become 124 = .ok (.aload_n 0, 1) := by decide +kernel
theorem dX1_become_125 : decode cX1_become 125 = .ok (.getfield 31, 3) := by decide +kernel
theorem dX1_become_128 : decode cX1_become 128 = .ok (.arraylength, 1) := by decide +kernel
theorem dX1_become_129 : decode cX1_become 129 = .ok (.invokestatic 53, 3) := by decide +kernel
theorem dX1_become_132 : decode cX1_become 132 = .ok (.return_, 1) := by decide +kernel
theorem dX1_bendOf_0 : decode cX1_bendOf 0 = .ok (.aload_n 0, 1) := by decide +kernel
theorem dX1_bendOf_1 : decode cX1_bendOf 1 = .ok (.getfield 15, 3) := by decide +kernel
theorem dX1_bendOf_4 : decode cX1_bendOf 4 = .ok (.iload_n 1, 1) := by decide +kernel
theorem dX1_bendOf_5 : decode cX1_bendOf 5 = .ok (.iconst 3, 1) := by decide +kernel
theorem dX1_bendOf_6 : decode cX1_bendOf 6 = .ok (.imul, 1) := by decide +kernel
theorem dX1_bendOf_7 : decode cX1_bendOf 7 = .ok (.iload_n 2, 1) := by decide +kernel
theorem dX1_bendOf_8 : decode cX1_bendOf 8 = .ok (.iadd, 1) := by decide +kernel
theorem dX1_bendOf_9 : decode cX1_bendOf 9 = .ok (.iaload, 1) := by decide +kernel
theorem dX1_bendOf_10 : decode cX1_bendOf 10 = .ok (.ireturn, 1) := by decide +kernel
theorem dX1_putBend_0 : decode cX1_putBend 0 = .ok (.aload_n 0, 1) := by decide +kernel
theorem dX1_putBend_1 : decode cX1_putBend 1 = .ok (.getfield 15, 3) := by decide +kernel
theorem dX1_putBend_4 : decode cX1_putBend 4 = .ok (.iload_n 1, 1) := by decide +kernel
theorem dX1_putBend_5 : decode cX1_putBend 5 = .ok (.iconst 3, 1) := by decide +kernel
theorem dX1_putBend_6 : decode cX1_putBend 6 = .ok (.imul, 1) := by decide +kernel
theorem dX1_putBend_7 : decode cX1_putBend 7 = .ok (.iload_n 2, 1) := by decide +kernel
theorem dX1_putBend_8 : decode cX1_putBend 8 = .ok (.iadd, 1) := by decide +kernel
theorem dX1_putBend_9 : decode cX1_putBend 9 = .ok (.iload_n 3, 1) := by decide +kernel
theorem dX1_putBend_10 : decode cX1_putBend 10 = .ok (.iastore, 1) := by decide +kernel
theorem dX1_putBend_11 : decode cX1_putBend 11 = .ok (.aload_n 0, 1) := by decide +kernel
theorem dX1_putBend_12 : decode cX1_putBend 12 = .ok (.getfield 15, 3) := by decide +kernel
theorem dX1_putBend_15 : decode cX1_putBend 15 = .ok (.iload_n 2, 1) := by decide +kernel
theorem dX1_putBend_16 : decode cX1_putBend 16 = .ok (.iconst 3, 1) := by decide +kernel
theorem dX1_putBend_17 : decode cX1_putBend 17 = .ok (.imul, 1) := by decide +kernel
theorem dX1_putBend_18 : decode cX1_putBend 18 = .ok (.iload_n 1, 1) := by decide +kernel
theorem dX1_putBend_19 : decode cX1_putBend 19 = .ok (.iadd, 1) := by decide +kernel
theorem dX1_putBend_20 : decode cX1_putBend 20 = .ok (.iload_n 3, 1) := by decide +kernel
theorem dX1_putBend_21 : decode cX1_putBend 21 = .ok (.iastore, 1) := by decide +kernel
theorem dX1_putBend_22 : decode cX1_putBend 22 = .ok (.return_, 1) := by decide +kernel
theorem dX1_addLine_0 : decode cX1_addLine 0 = .ok (.aload_n 0, 1) := by decide +kernel
theorem dX1_addLine_1 : decode cX1_addLine 1 = .ok (.getfield 37, 3) := by decide +kernel
theorem dX1_addLine_4 : decode cX1_addLine 4 = .ok (.istore 4, 2) := by decide +kernel
theorem dX1_addLine_6 : decode cX1_addLine 6 = .ok (.aload_n 0, 1) := by decide +kernel
theorem dX1_addLine_7 : decode cX1_addLine 7 = .ok (.getfield 22, 3) := by decide +kernel
theorem dX1_addLine_10 : decode cX1_addLine 10 = .ok (.iload 4, 2) := by decide +kernel
theorem dX1_addLine_12 : decode cX1_addLine 12 = .ok (.iload_n 1, 1) := by decide +kernel
theorem dX1_addLine_13 : decode cX1_addLine 13 = .ok (.iastore, 1) := by decide +kernel
theorem dX1_addLine_14 : decode cX1_addLine 14 = .ok (.aload_n 0, 1) := by decide +kernel
theorem dX1_addLine_15 : decode cX1_addLine 15 = .ok (.getfield 25, 3) := by decide +kernel
theorem dX1_addLine_18 : decode cX1_addLine 18 = .ok (.iload 4, 2) := by decide +kernel
theorem dX1_addLine_20 : decode cX1_addLine 20 = .ok (.iload_n 2, 1) := by decide +kernel
theorem dX1_addLine_21 : decode cX1_addLine 21 = .ok (.iastore, 1) := by decide +kernel
theorem dX1_addLine_22 : decode cX1_addLine 22 = .ok (.aload_n 0, 1) := by decide +kernel
theorem dX1_addLine_23 : decode cX1_addLine 23 = .ok (.getfield 28, 3) := by decide +kernel
theorem dX1_addLine_26 : decode cX1_addLine 26 = .ok (.iload 4, 2) := by decide +kernel
theorem dX1_addLine_28 : decode cX1_addLine 28 = .ok (.iload_n 3, 1) := by decide +kernel
theorem dX1_addLine_29 : decode cX1_addLine 29 = .ok (.iastore, 1) := by decide +kernel
theorem dX1_addLine_30 : decode cX1_addLine 30 = .ok (.iconst 0, 1) := by decide +kernel
theorem dX1_addLine_31 : decode cX1_addLine 31 = .ok (.istore 5, 2) := by decide +kernel
theorem dX1_addLine_33 : decode cX1_addLine 33 = .ok (.iload 5, 2) := by decide +kernel
theorem dX1_addLine_35 : decode cX1_addLine 35 = .ok (.iconst 3, 1) := by decide +kernel
theorem dX1_addLine_36 : decode cX1_addLine 36 = .ok (.if_icmp .ge 22, 3) := by decide +kernel
theorem dX1_addLine_39 : decode cX1_addLine 39 = .ok (.aload_n 0, 1) := by decide +kernel
theorem dX1_addLine_40 : decode cX1_addLine 40 = .ok (.getfield 31, 3) := by decide +kernel
theorem dX1_addLine_43 : decode cX1_addLine 43 = .ok (.iload 4, 2) := by decide +kernel
theorem dX1_addLine_45 : decode cX1_addLine 45 = .ok (.iconst 3, 1) := by decide +kernel
theorem dX1_addLine_46 : decode cX1_addLine 46 = .ok (.imul, 1) := by decide +kernel
theorem dX1_addLine_47 : decode cX1_addLine 47 = .ok (.iload 5, 2) := by decide +kernel
theorem dX1_addLine_49 : decode cX1_addLine 49 = .ok (.iadd, 1) := by decide +kernel
theorem dX1_addLine_50 : decode cX1_addLine 50 = .ok (.iconst 0, 1) := by decide +kernel
theorem dX1_addLine_51 : decode cX1_addLine 51 = .ok (.iastore, 1) := by decide +kernel
theorem dX1_addLine_52 : decode cX1_addLine 52 = .ok (.iinc 5 1, 3) := by decide +kernel
theorem dX1_addLine_55 : decode cX1_addLine 55 = .ok (.goto (-22), 3) := by decide +kernel
theorem dX1_addLine_58 : decode cX1_addLine 58 = .ok (.aload_n 0, 1) := by decide +kernel
theorem dX1_addLine_59 : decode cX1_addLine 59 = .ok (.iload 4, 2) := by decide +kernel
theorem dX1_addLine_61 : decode cX1_addLine 61 = .ok (.iconst 1, 1) := by decide +kernel
theorem dX1_addLine_62 : decode cX1_addLine 62 = .ok (.iadd, 1) := by decide +kernel
theorem dX1_addLine_63 : decode cX1_addLine 63 = .ok (.putfield 37, 3) := by decide +kernel
theorem dX1_addLine_66 : decode cX1_addLine 66 = .ok (.iload 4, 2) := by decide +kernel
theorem dX1_addLine_68 : decode cX1_addLine 68 = .ok (.ireturn, 1) := by decide +kernel
theorem dX1_removeLine_0 : decode cX1_removeLine 0 = .ok (.aload_n 0, 1) := by decide +kernel
theorem dX1_removeLine_1 : decode cX1_removeLine 1 = .ok (.getfield 37, 3) := by decide +kernel
theorem dX1_removeLine_4 : decode cX1_removeLine 4 = .ok (.iload_n 1, 1) := by decide +kernel
theorem dX1_removeLine_5 : decode cX1_removeLine 5 = .ok (.isub, 1) := by decide +kernel
theorem dX1_removeLine_6 : decode cX1_removeLine 6 = .ok (.iconst 1, 1) := by decide +kernel
theorem dX1_removeLine_7 : decode cX1_removeLine 7 = .ok (.isub, 1) := by decide +kernel
theorem dX1_removeLine_8 : decode cX1_removeLine 8 = .ok (.istore_n 2, 1) := by decide +kernel
theorem dX1_removeLine_9 : decode cX1_removeLine 9 = .ok (.aload_n 0, 1) := by decide +kernel
theorem dX1_removeLine_10 : decode cX1_removeLine 10 = .ok (.getfield 22, 3) := by decide +kernel
theorem dX1_removeLine_13 : decode cX1_removeLine 13 = .ok (.iload_n 1, 1) := by decide +kernel
theorem dX1_removeLine_14 : decode cX1_removeLine 14 = .ok (.iconst 1, 1) := by decide +kernel
theorem dX1_removeLine_15 : decode cX1_removeLine 15 = .ok (.iadd, 1) := by decide +kernel
theorem dX1_removeLine_16 : decode cX1_removeLine 16 = .ok (.aload_n 0, 1) := by decide +kernel
theorem dX1_removeLine_17 : decode cX1_removeLine 17 = .ok (.getfield 22, 3) := by decide +kernel
theorem dX1_removeLine_20 : decode cX1_removeLine 20 = .ok (.iload_n 1, 1) := by decide +kernel
theorem dX1_removeLine_21 : decode cX1_removeLine 21 = .ok (.iload_n 2, 1) := by decide +kernel
theorem dX1_removeLine_22 : decode cX1_removeLine 22 = .ok (.invokestatic 53, 3) := by decide +kernel
theorem dX1_removeLine_25 : decode cX1_removeLine 25 = .ok (.aload_n 0, 1) := by decide +kernel
theorem dX1_removeLine_26 : decode cX1_removeLine 26 = .ok (.getfield 25, 3) := by decide +kernel
theorem dX1_removeLine_29 : decode cX1_removeLine 29 = .ok (.iload_n 1, 1) := by decide +kernel
theorem dX1_removeLine_30 : decode cX1_removeLine 30 = .ok (.iconst 1, 1) := by decide +kernel
theorem dX1_removeLine_31 : decode cX1_removeLine 31 = .ok (.iadd, 1) := by decide +kernel
theorem dX1_removeLine_32 : decode cX1_removeLine 32 = .ok (.aload_n 0, 1) := by decide +kernel
theorem dX1_removeLine_33 : decode cX1_removeLine 33 = .ok (.getfield 25, 3) := by decide +kernel
theorem dX1_removeLine_36 : decode cX1_removeLine 36 = .ok (.iload_n 1, 1) := by decide +kernel
theorem dX1_removeLine_37 : decode cX1_removeLine 37 = .ok (.iload_n 2, 1) := by decide +kernel
theorem dX1_removeLine_38 : decode cX1_removeLine 38 = .ok (.invokestatic 53, 3) := by decide +kernel
theorem dX1_removeLine_41 : decode cX1_removeLine 41 = .ok (.aload_n 0, 1) := by decide +kernel
theorem dX1_removeLine_42 : decode cX1_removeLine 42 = .ok (.getfield 28, 3) := by decide +kernel
theorem dX1_removeLine_45 : decode cX1_removeLine 45 = .ok (.iload_n 1, 1) := by decide +kernel
theorem dX1_removeLine_46 : decode cX1_removeLine 46 = .ok (.iconst 1, 1) := by decide +kernel
theorem dX1_removeLine_47 : decode cX1_removeLine 47 = .ok (.iadd, 1) := by decide +kernel
theorem dX1_removeLine_48 : decode cX1_removeLine 48 = .ok (.aload_n 0, 1) := by decide +kernel
theorem dX1_removeLine_49 : decode cX1_removeLine 49 = .ok (.getfield 28, 3) := by decide +kernel
theorem dX1_removeLine_52 : decode cX1_removeLine 52 = .ok (.iload_n 1, 1) := by decide +kernel
theorem dX1_removeLine_53 : decode cX1_removeLine 53 = .ok (.iload_n 2, 1) := by decide +kernel
theorem dX1_removeLine_54 : decode cX1_removeLine 54 = .ok (.invokestatic 53, 3) := by decide +kernel
theorem dX1_removeLine_57 : decode cX1_removeLine 57 = .ok (.aload_n 0, 1) := by decide +kernel
theorem dX1_removeLine_58 : decode cX1_removeLine 58 = .ok (.getfield 31, 3) := by decide +kernel
theorem dX1_removeLine_61 : decode cX1_removeLine 61 = .ok (.iload_n 1, 1) := by decide +kernel
theorem dX1_removeLine_62 : decode cX1_removeLine 62 = .ok (.iconst 1, 1) := by decide +kernel
theorem dX1_removeLine_63 : decode cX1_removeLine 63 = .ok (.iadd, 1) := by decide +kernel
theorem dX1_removeLine_64 : decode cX1_removeLine 64 = .ok (.iconst 3, 1) := by decide +kernel
theorem dX1_removeLine_65 : decode cX1_removeLine 65 = .ok (.imul, 1) := by decide +kernel
theorem dX1_removeLine_66 : decode cX1_removeLine 66 = .ok (.aload_n 0, 1) := by decide +kernel
theorem dX1_removeLine_67 : decode cX1_removeLine 67 = .ok (.getfield 31, 3) := by decide +kernel
theorem dX1_removeLine_70 : decode cX1_removeLine 70 = .ok (.iload_n 1, 1) := by decide +kernel
theorem dX1_removeLine_71 : decode cX1_removeLine 71 = .ok (.iconst 3, 1) := by decide +kernel
theorem dX1_removeLine_72 : decode cX1_removeLine 72 = .ok (.imul, 1) := by decide +kernel
theorem dX1_removeLine_73 : decode cX1_removeLine 73 = .ok (.iload_n 2, 1) := by decide +kernel
theorem dX1_removeLine_74 : decode cX1_removeLine 74 = .ok (.iconst 3, 1) := by decide +kernel
theorem dX1_removeLine_75 : decode cX1_removeLine 75 = .ok (.imul, 1) := by decide +kernel
theorem dX1_removeLine_76 : decode cX1_removeLine 76 = .ok (.invokestatic 53, 3) := by decide +kernel
theorem dX1_removeLine_79 : decode cX1_removeLine 79 = .ok (.aload_n 0, 1) := by decide +kernel
theorem dX1_removeLine_80 : decode cX1_removeLine 80 = .ok (.dup, 1) := by decide +kernel
theorem dX1_removeLine_81 : decode cX1_removeLine 81 = .ok (.getfield 37, 3) := by decide +kernel
theorem dX1_removeLine_84 : decode cX1_removeLine 84 = .ok (.iconst 1, 1) := by decide +kernel
theorem dX1_removeLine_85 : decode cX1_removeLine 85 = .ok (.isub, 1) := by decide +kernel
theorem dX1_removeLine_86 : decode cX1_removeLine 86 = .ok (.putfield 37, 3) := by decide +kernel
theorem dX1_removeLine_89 : decode cX1_removeLine 89 = .ok (.return_, 1) := by decide +kernel
theorem dX1_isOn_0 : decode cX1_isOn 0 = .ok (.aload_n 0, 1) := by decide +kernel
theorem dX1_isOn_1 : decode cX1_isOn 1 = .ok (.getfield 22, 3) := by decide +kernel
theorem dX1_isOn_4 : decode cX1_isOn 4 = .ok (.iload_n 1, 1) := by decide +kernel
theorem dX1_isOn_5 : decode cX1_isOn 5 = .ok (.iaload, 1) := by decide +kernel
theorem dX1_isOn_6 : decode cX1_isOn 6 = .ok (.iconst 2, 1) := by decide +kernel
theorem dX1_isOn_7 : decode cX1_isOn 7 = .ok (.if_icmp .ne 7, 3) := by decide +kernel
theorem dX1_isOn_10 : decode cX1_isOn 10 = .ok (.iconst 1, 1) := by decide +kernel
theorem dX1_isOn_11 : decode cX1_isOn 11 = .ok (.goto 4, 3) := by decide +kernel
theorem dX1_isOn_14 : decode cX1_isOn 14 = .ok (.iconst 0, 1) := by decide +kernel
theorem dX1_isOn_15 : decode cX1_isOn 15 = .ok (.ireturn, 1) := by decide +kernel
theorem dX1_rowOf_0 : decode cX1_rowOf 0 = .ok (.aload_n 0, 1) := by decide +kernel
theorem dX1_rowOf_1 : decode cX1_rowOf 1 = .ok (.getfield 31, 3) := by decide +kernel
theorem dX1_rowOf_4 : decode cX1_rowOf 4 = .ok (.iload_n 1, 1) := by decide +kernel
theorem dX1_rowOf_5 : decode cX1_rowOf 5 = .ok (.iconst 3, 1) := by decide +kernel
theorem dX1_rowOf_6 : decode cX1_rowOf 6 = .ok (.imul, 1) := by decide +kernel
theorem dX1_rowOf_7 : decode cX1_rowOf 7 = .ok (.iload_n 2, 1) := by decide +kernel
theorem dX1_rowOf_8 : decode cX1_rowOf 8 = .ok (.iadd, 1) := by decide +kernel
theorem dX1_rowOf_9 : decode cX1_rowOf 9 = .ok (.iaload, 1) := by decide +kernel
theorem dX1_rowOf_10 : decode cX1_rowOf 10 = .ok (.istore_n 3, 1) := by decide +kernel
theorem dX1_rowOf_11 : decode cX1_rowOf 11 = .ok (.aload_n 0, 1) := by decide +kernel
theorem dX1_rowOf_12 : decode cX1_rowOf 12 = .ok (.getfield 22, 3) := by decide +kernel
theorem dX1_rowOf_15 : decode cX1_rowOf 15 = .ok (.iload_n 1, 1) := by decide +kernel
theorem dX1_rowOf_16 : decode cX1_rowOf 16 = .ok (.iaload, 1) := by decide +kernel
theorem dX1_rowOf_17 : decode cX1_rowOf 17 = .ok (.tableswitch 38 1 4 #[31, 38, 34, 31], 31) := by decide +kernel
theorem dX1_rowOf_48 : decode cX1_rowOf 48 = .ok (.iload_n 3, 1) := by decide +kernel
theorem dX1_rowOf_49 : decode cX1_rowOf 49 = .ok (.ineg, 1) := by decide +kernel
theorem dX1_rowOf_50 : decode cX1_rowOf 50 = .ok (.ireturn, 1) := by decide +kernel
theorem dX1_rowOf_51 : decode cX1_rowOf 51 = .ok (.iconst 2, 1) := by decide +kernel
theorem dX1_rowOf_52 : decode cX1_rowOf 52 = .ok (.iload_n 3, 1) := by decide +kernel
theorem dX1_rowOf_53 : decode cX1_rowOf 53 = .ok (.imul, 1) := by decide +kernel
theorem dX1_rowOf_54 : decode cX1_rowOf 54 = .ok (.ireturn, 1) := by decide +kernel
theorem dX1_rowOf_55 : decode cX1_rowOf 55 = .ok (.iload_n 3, 1) := by decide +kernel
theorem dX1_rowOf_56 : decode cX1_rowOf 56 = .ok (.ireturn, 1) := by decide +kernel
theorem dX1_boundOf_0 : decode cX1_boundOf 0 = .ok (.aload_n 0, 1) := by decide +kernel
theorem dX1_boundOf_1 : decode cX1_boundOf 1 = .ok (.getfield 25, 3) := by decide +kernel
theorem dX1_boundOf_4 : decode cX1_boundOf 4 = .ok (.iload_n 1, 1) := by decide +kernel
theorem dX1_boundOf_5 : decode cX1_boundOf 5 = .ok (.iaload, 1) := by decide +kernel
theorem dX1_boundOf_6 : decode cX1_boundOf 6 = .ok (.iload_n 2, 1) := by decide +kernel
theorem dX1_boundOf_7 : decode cX1_boundOf 7 = .ok (.aload_n 0, 1) := by decide +kernel
theorem dX1_boundOf_8 : decode cX1_boundOf 8 = .ok (.getfield 28, 3) := by decide +kernel
theorem dX1_boundOf_11 : decode cX1_boundOf 11 = .ok (.iload_n 1, 1) := by decide +kernel
theorem dX1_boundOf_12 : decode cX1_boundOf 12 = .ok (.iaload, 1) := by decide +kernel
theorem dX1_boundOf_13 : decode cX1_boundOf 13 = .ok (.imul, 1) := by decide +kernel
theorem dX1_boundOf_14 : decode cX1_boundOf 14 = .ok (.iadd, 1) := by decide +kernel
theorem dX1_boundOf_15 : decode cX1_boundOf 15 = .ok (.istore_n 3, 1) := by decide +kernel
theorem dX1_boundOf_16 : decode cX1_boundOf 16 = .ok (.aload_n 0, 1) := by decide +kernel
theorem dX1_boundOf_17 : decode cX1_boundOf 17 = .ok (.getfield 22, 3) := by decide +kernel
theorem dX1_boundOf_20 : decode cX1_boundOf 20 = .ok (.iload_n 1, 1) := by decide +kernel
theorem dX1_boundOf_21 : decode cX1_boundOf 21 = .ok (.iaload, 1) := by decide +kernel
theorem dX1_boundOf_22 : decode cX1_boundOf 22 = .ok (.lookupswitch 34 #[(1, 26), (4, 29)], 26) := by decide +kernel
theorem dX1_boundOf_48 : decode cX1_boundOf 48 = .ok (.iload_n 3, 1) := by decide +kernel
theorem dX1_boundOf_49 : decode cX1_boundOf 49 = .ok (.ineg, 1) := by decide +kernel
theorem dX1_boundOf_50 : decode cX1_boundOf 50 = .ok (.ireturn, 1) := by decide +kernel
theorem dX1_boundOf_51 : decode cX1_boundOf 51 = .ok (.iload_n 3, 1) := by decide +kernel
theorem dX1_boundOf_52 : decode cX1_boundOf 52 = .ok (.ineg, 1) := by decide +kernel
theorem dX1_boundOf_53 : decode cX1_boundOf 53 = .ok (.iconst 1, 1) := by decide +kernel
theorem dX1_boundOf_54 : decode cX1_boundOf 54 = .ok (.isub, 1) := by decide +kernel
theorem dX1_boundOf_55 : decode cX1_boundOf 55 = .ok (.ireturn, 1) := by decide +kernel
theorem dX1_boundOf_56 : decode cX1_boundOf 56 = .ok (.iload_n 3, 1) := by decide +kernel
theorem dX1_boundOf_57 : decode cX1_boundOf 57 = .ok (.ireturn, 1) := by decide +kernel
theorem dX1_driftOf_0 : decode cX1_driftOf 0 = .ok (.aload_n 0, 1) := by decide +kernel
theorem dX1_driftOf_1 : decode cX1_driftOf 1 = .ok (.iload_n 1, 1) := by decide +kernel
theorem dX1_driftOf_2 : decode cX1_driftOf 2 = .ok (.iconst 1, 1) := by decide +kernel
theorem dX1_driftOf_3 : decode cX1_driftOf 3 = .ok (.invokevirtual 59, 3) := by decide +kernel
theorem dX1_driftOf_6 : decode cX1_driftOf 6 = .ok (.aload_n 0, 1) := by decide +kernel
theorem dX1_driftOf_7 : decode cX1_driftOf 7 = .ok (.iload_n 1, 1) := by decide +kernel
theorem dX1_driftOf_8 : decode cX1_driftOf 8 = .ok (.iconst 0, 1) := by decide +kernel
theorem dX1_driftOf_9 : decode cX1_driftOf 9 = .ok (.invokevirtual 59, 3) := by decide +kernel
theorem dX1_driftOf_12 : decode cX1_driftOf 12 = .ok (.isub, 1) := by decide +kernel
theorem dX1_driftOf_13 : decode cX1_driftOf 13 = .ok (.ireturn, 1) := by decide +kernel
theorem dX1_linesOn_0 : decode cX1_linesOn 0 = .ok (.iconst 0, 1) := by decide +kernel
theorem dX1_linesOn_1 : decode cX1_linesOn 1 = .ok (.istore_n 1, 1) := by decide +kernel
theorem dX1_linesOn_2 : decode cX1_linesOn 2 = .ok (.iconst 0, 1) := by decide +kernel
theorem dX1_linesOn_3 : decode cX1_linesOn 3 = .ok (.istore_n 2, 1) := by decide +kernel
theorem dX1_linesOn_4 : decode cX1_linesOn 4 = .ok (.iload_n 2, 1) := by decide +kernel
theorem dX1_linesOn_5 : decode cX1_linesOn 5 = .ok (.aload_n 0, 1) := by decide +kernel
theorem dX1_linesOn_6 : decode cX1_linesOn 6 = .ok (.getfield 37, 3) := by decide +kernel
theorem dX1_linesOn_9 : decode cX1_linesOn 9 = .ok (.if_icmp .ge 25, 3) := by decide +kernel
theorem dX1_linesOn_12 : decode cX1_linesOn 12 = .ok (.iload_n 1, 1) := by decide +kernel
theorem dX1_linesOn_13 : decode cX1_linesOn 13 = .ok (.aload_n 0, 1) := by decide +kernel
theorem dX1_linesOn_14 : decode cX1_linesOn 14 = .ok (.iload_n 2, 1) := by decide +kernel
theorem dX1_linesOn_15 : decode cX1_linesOn 15 = .ok (.invokevirtual 63, 3) := by decide +kernel
theorem dX1_linesOn_18 : decode cX1_linesOn 18 = .ok (.ifCond .eq 7, 3) := by decide +kernel
theorem dX1_linesOn_21 : decode cX1_linesOn 21 = .ok (.iconst 1, 1) := by decide +kernel
theorem dX1_linesOn_22 : decode cX1_linesOn 22 = .ok (.goto 4, 3) := by decide +kernel
theorem dX1_linesOn_25 : decode cX1_linesOn 25 = .ok (.iconst 0, 1) := by decide +kernel
theorem dX1_linesOn_26 : decode cX1_linesOn 26 = .ok (.iadd, 1) := by decide +kernel
theorem dX1_linesOn_27 : decode cX1_linesOn 27 = .ok (.istore_n 1, 1) := by decide +kernel
theorem dX1_linesOn_28 : decode cX1_linesOn 28 = .ok (.iinc 2 1, 3) := by decide +kernel
theorem dX1_linesOn_31 : decode cX1_linesOn 31 = .ok (.goto (-27), 3) := by decide +kernel
theorem dX1_linesOn_34 : decode cX1_linesOn 34 = .ok (.iload_n 1, 1) := by decide +kernel
theorem dX1_linesOn_35 : decode cX1_linesOn 35 = .ok (.ireturn, 1) := by decide +kernel
theorem dX1_allLines_0 : decode cX1_allLines 0 = .ok (.iconst 1, 1) := by decide +kernel
theorem dX1_allLines_1 : decode cX1_allLines 1 = .ok (.aload_n 0, 1) := by decide +kernel
theorem dX1_allLines_2 : decode cX1_allLines 2 = .ok (.getfield 37, 3) := by decide +kernel
theorem dX1_allLines_5 : decode cX1_allLines 5 = .ok (.ishl, 1) := by decide +kernel
theorem dX1_allLines_6 : decode cX1_allLines 6 = .ok (.iconst 1, 1) := by decide +kernel
theorem dX1_allLines_7 : decode cX1_allLines 7 = .ok (.isub, 1) := by decide +kernel
theorem dX1_allLines_8 : decode cX1_allLines 8 = .ok (.ireturn, 1) := by decide +kernel
theorem dX1_determinant_0 : decode cX1_determinant 0 = .ok (.aload_n 0, 1) := by decide +kernel
theorem dX1_determinant_1 : decode cX1_determinant 1 = .ok (.iconst 0, 1) := by decide +kernel
theorem dX1_determinant_2 : decode cX1_determinant 2 = .ok (.iconst 0, 1) := by decide +kernel
theorem dX1_determinant_3 : decode cX1_determinant 3 = .ok (.invokevirtual 67, 3) := by decide +kernel
theorem dX1_determinant_6 : decode cX1_determinant 6 = .ok (.istore_n 2, 1) := by decide +kernel
theorem dX1_determinant_7 : decode cX1_determinant 7 = .ok (.iload_n 2, 1) := by decide +kernel
theorem dX1_determinant_8 : decode cX1_determinant 8 = .ok (.aload_n 0, 1) := by decide +kernel
theorem dX1_determinant_9 : decode cX1_determinant 9 = .ok (.iconst 1, 1) := by decide +kernel
theorem dX1_determinant_10 : decode cX1_determinant 10 = .ok (.iconst 1, 1) := by decide +kernel
theorem dX1_determinant_11 : decode cX1_determinant 11 = .ok (.invokevirtual 67, 3) := by decide +kernel
theorem dX1_determinant_14 : decode cX1_determinant 14 = .ok (.imul, 1) := by decide +kernel
theorem dX1_determinant_15 : decode cX1_determinant 15 = .ok (.aload_n 0, 1) := by decide +kernel
theorem dX1_determinant_16 : decode cX1_determinant 16 = .ok (.iconst 0, 1) := by decide +kernel
theorem dX1_determinant_17 : decode cX1_determinant 17 = .ok (.iconst 1, 1) := by decide +kernel
theorem dX1_determinant_18 : decode cX1_determinant 18 = .ok (.invokevirtual 67, 3) := by decide +kernel
theorem dX1_determinant_21 : decode cX1_determinant 21 = .ok (.aload_n 0, 1) := by decide +kernel
theorem dX1_determinant_22 : decode cX1_determinant 22 = .ok (.iconst 0, 1) := by decide +kernel
theorem dX1_determinant_23 : decode cX1_determinant 23 = .ok (.iconst 1, 1) := by decide +kernel
theorem dX1_determinant_24 : decode cX1_determinant 24 = .ok (.invokevirtual 67, 3) := by decide +kernel
theorem dX1_determinant_27 : decode cX1_determinant 27 = .ok (.imul, 1) := by decide +kernel
theorem dX1_determinant_28 : decode cX1_determinant 28 = .ok (.isub, 1) := by decide +kernel
theorem dX1_determinant_29 : decode cX1_determinant 29 = .ok (.istore_n 3, 1) := by decide +kernel
theorem dX1_determinant_30 : decode cX1_determinant 30 = .ok (.iload_n 1, 1) := by decide +kernel
theorem dX1_determinant_31 : decode cX1_determinant 31 = .ok (.iconst 3, 1) := by decide +kernel
theorem dX1_determinant_32 : decode cX1_determinant 32 = .ok (.if_icmp .ge 14, 3) := by decide +kernel
theorem dX1_determinant_35 : decode cX1_determinant 35 = .ok (.iload_n 1, 1) := by decide +kernel
theorem dX1_determinant_36 : decode cX1_determinant 36 = .ok (.iconst 1, 1) := by decide +kernel
theorem dX1_determinant_37 : decode cX1_determinant 37 = .ok (.if_icmp .ne 7, 3) := by decide +kernel
theorem dX1_determinant_40 : decode cX1_determinant 40 = .ok (.iload_n 2, 1) := by decide +kernel
theorem dX1_determinant_41 : decode cX1_determinant 41 = .ok (.goto 4, 3) := by decide +kernel
theorem dX1_determinant_44 : decode cX1_determinant 44 = .ok (.iload_n 3, 1) := by decide +kernel
theorem dX1_determinant_45 : decode cX1_determinant 45 = .ok (.ireturn, 1) := by decide +kernel
theorem dX1_determinant_46 : decode cX1_determinant 46 = .ok (.aload_n 0, 1) := by decide +kernel
theorem dX1_determinant_47 : decode cX1_determinant 47 = .ok (.iconst 2, 1) := by decide +kernel
theorem dX1_determinant_48 : decode cX1_determinant 48 = .ok (.iconst 2, 1) := by decide +kernel
theorem dX1_determinant_49 : decode cX1_determinant 49 = .ok (.invokevirtual 67, 3) := by decide +kernel
theorem dX1_determinant_52 : decode cX1_determinant 52 = .ok (.iload_n 3, 1) := by decide +kernel
theorem dX1_determinant_53 : decode cX1_determinant 53 = .ok (.imul, 1) := by decide +kernel
theorem dX1_determinant_54 : decode cX1_determinant 54 = .ok (.aload_n 0, 1) := by decide +kernel
theorem dX1_determinant_55 : decode cX1_determinant 55 = .ok (.iconst 1, 1) := by decide +kernel
theorem dX1_determinant_56 : decode cX1_determinant 56 = .ok (.iconst 2, 1) := by decide +kernel
theorem dX1_determinant_57 : decode cX1_determinant 57 = .ok (.invokevirtual 67, 3) := by decide +kernel
theorem dX1_determinant_60 : decode cX1_determinant 60 = .ok (.iload_n 2, 1) := by decide +kernel
theorem dX1_determinant_61 : decode cX1_determinant 61 = .ok (.aload_n 0, 1) := by decide +kernel
theorem dX1_determinant_62 : decode cX1_determinant 62 = .ok (.iconst 1, 1) := by decide +kernel
theorem dX1_determinant_63 : decode cX1_determinant 63 = .ok (.iconst 2, 1) := by decide +kernel
theorem dX1_determinant_64 : decode cX1_determinant 64 = .ok (.invokevirtual 67, 3) := by decide +kernel
theorem dX1_determinant_67 : decode cX1_determinant 67 = .ok (.imul, 1) := by decide +kernel
theorem dX1_determinant_68 : decode cX1_determinant 68 = .ok (.aload_n 0, 1) := by decide +kernel
theorem dX1_determinant_69 : decode cX1_determinant 69 = .ok (.iconst 0, 1) := by decide +kernel
theorem dX1_determinant_70 : decode cX1_determinant 70 = .ok (.iconst 1, 1) := by decide +kernel
theorem dX1_determinant_71 : decode cX1_determinant 71 = .ok (.invokevirtual 67, 3) := by decide +kernel
theorem dX1_determinant_74 : decode cX1_determinant 74 = .ok (.aload_n 0, 1) := by decide +kernel
theorem dX1_determinant_75 : decode cX1_determinant 75 = .ok (.iconst 0, 1) := by decide +kernel
theorem dX1_determinant_76 : decode cX1_determinant 76 = .ok (.iconst 2, 1) := by decide +kernel
theorem dX1_determinant_77 : decode cX1_determinant 77 = .ok (.invokevirtual 67, 3) := by decide +kernel
theorem dX1_determinant_80 : decode cX1_determinant 80 = .ok (.imul, 1) := by decide +kernel
theorem dX1_determinant_81 : decode cX1_determinant 81 = .ok (.isub, 1) := by decide +kernel
theorem dX1_determinant_82 : decode cX1_determinant 82 = .ok (.imul, 1) := by decide +kernel
theorem dX1_determinant_83 : decode cX1_determinant 83 = .ok (.isub, 1) := by decide +kernel
theorem dX1_determinant_84 : decode cX1_determinant 84 = .ok (.aload_n 0, 1) := by decide +kernel
theorem dX1_determinant_85 : decode cX1_determinant 85 = .ok (.iconst 0, 1) := by decide +kernel
theorem dX1_determinant_86 : decode cX1_determinant 86 = .ok (.iconst 2, 1) := by decide +kernel
theorem dX1_determinant_87 : decode cX1_determinant 87 = .ok (.invokevirtual 67, 3) := by decide +kernel
theorem dX1_determinant_90 : decode cX1_determinant 90 = .ok (.aload_n 0, 1) := by decide +kernel
theorem dX1_determinant_91 : decode cX1_determinant 91 = .ok (.iconst 0, 1) := by decide +kernel
theorem dX1_determinant_92 : decode cX1_determinant 92 = .ok (.iconst 1, 1) := by decide +kernel
theorem dX1_determinant_93 : decode cX1_determinant 93 = .ok (.invokevirtual 67, 3) := by decide +kernel
theorem dX1_determinant_96 : decode cX1_determinant 96 = .ok (.aload_n 0, 1) := by decide +kernel
theorem dX1_determinant_97 : decode cX1_determinant 97 = .ok (.iconst 1, 1) := by decide +kernel
theorem dX1_determinant_98 : decode cX1_determinant 98 = .ok (.iconst 2, 1) := by decide +kernel
theorem dX1_determinant_99 : decode cX1_determinant 99 = .ok (.invokevirtual 67, 3) := by decide +kernel
theorem dX1_determinant_102 : decode cX1_determinant 102 = .ok (.imul, 1) := by decide +kernel
theorem dX1_determinant_103 : decode cX1_determinant 103 = .ok (.aload_n 0, 1) := by decide +kernel
theorem dX1_determinant_104 : decode cX1_determinant 104 = .ok (.iconst 0, 1) := by decide +kernel
theorem dX1_determinant_105 : decode cX1_determinant 105 = .ok (.iconst 2, 1) := by decide +kernel
theorem dX1_determinant_106 : decode cX1_determinant 106 = .ok (.invokevirtual 67, 3) := by decide +kernel
theorem dX1_determinant_109 : decode cX1_determinant 109 = .ok (.aload_n 0, 1) := by decide +kernel
theorem dX1_determinant_110 : decode cX1_determinant 110 = .ok (.iconst 1, 1) := by decide +kernel
theorem dX1_determinant_111 : decode cX1_determinant 111 = .ok (.iconst 1, 1) := by decide +kernel
theorem dX1_determinant_112 : decode cX1_determinant 112 = .ok (.invokevirtual 67, 3) := by decide +kernel
theorem dX1_determinant_115 : decode cX1_determinant 115 = .ok (.imul, 1) := by decide +kernel
theorem dX1_determinant_116 : decode cX1_determinant 116 = .ok (.isub, 1) := by decide +kernel
theorem dX1_determinant_117 : decode cX1_determinant 117 = .ok (.imul, 1) := by decide +kernel
theorem dX1_determinant_118 : decode cX1_determinant 118 = .ok (.iadd, 1) := by decide +kernel
theorem dX1_determinant_119 : decode cX1_determinant 119 = .ok (.ireturn, 1) := by decide +kernel
theorem dX1_hasLeast_0 : decode cX1_hasLeast 0 = .ok (.iconst 1, 1) := by decide +kernel
theorem dX1_hasLeast_1 : decode cX1_hasLeast 1 = .ok (.istore_n 1, 1) := by decide +kernel
theorem dX1_hasLeast_2 : decode cX1_hasLeast 2 = .ok (.iload_n 1, 1) := by decide +kernel
theorem dX1_hasLeast_3 : decode cX1_hasLeast 3 = .ok (.aload_n 0, 1) := by decide +kernel
theorem dX1_hasLeast_4 : decode cX1_hasLeast 4 = .ok (.getfield 9, 3) := by decide +kernel
theorem dX1_hasLeast_7 : decode cX1_hasLeast 7 = .ok (.if_icmp .gt 19, 3) := by decide +kernel
theorem dX1_hasLeast_10 : decode cX1_hasLeast 10 = .ok (.aload_n 0, 1) := by decide +kernel
theorem dX1_hasLeast_11 : decode cX1_hasLeast 11 = .ok (.iload_n 1, 1) := by decide +kernel
theorem dX1_hasLeast_12 : decode cX1_hasLeast 12 = .ok (.invokevirtual 70, 3) := by decide +kernel
theorem dX1_hasLeast_15 : decode cX1_hasLeast 15 = .ok (.ifCond .gt 5, 3) := by decide +kernel
theorem dX1_hasLeast_18 : decode cX1_hasLeast 18 = .ok (.iconst 0, 1) := by decide +kernel
theorem dX1_hasLeast_19 : decode cX1_hasLeast 19 = .ok (.ireturn, 1) := by decide +kernel
theorem dX1_hasLeast_20 : decode cX1_hasLeast 20 = .ok (.iinc 1 1, 3) := by decide +kernel
theorem dX1_hasLeast_23 : decode cX1_hasLeast 23 = .ok (.goto (-21), 3) := by decide +kernel
theorem dX1_hasLeast_26 : decode cX1_hasLeast 26 = .ok (.iconst 1, 1) := by decide +kernel
theorem dX1_hasLeast_27 : decode cX1_hasLeast 27 = .ok (.ireturn, 1) := by decide +kernel
theorem dX1_squareOfPushes_0 : decode cX1_squareOfPushes 0 = .ok (.lconst 0, 1) := by decide +kernel
theorem dX1_squareOfPushes_1 : decode cX1_squareOfPushes 1 = .ok (.lstore_n 1, 1) := by decide +kernel
theorem dX1_squareOfPushes_2 : decode cX1_squareOfPushes 2 = .ok (.iconst 0, 1) := by decide +kernel
theorem dX1_squareOfPushes_3 : decode cX1_squareOfPushes 3 = .ok (.istore_n 3, 1) := by decide +kernel
theorem dX1_squareOfPushes_4 : decode cX1_squareOfPushes 4 = .ok (.iload_n 3, 1) := by decide +kernel
theorem dX1_squareOfPushes_5 : decode cX1_squareOfPushes 5 = .ok (.aload_n 0, 1) := by decide +kernel
theorem dX1_squareOfPushes_6 : decode cX1_squareOfPushes 6 = .ok (.getfield 9, 3) := by decide +kernel
theorem dX1_squareOfPushes_9 : decode cX1_squareOfPushes 9 = .ok (.if_icmp .ge 26, 3) := by decide +kernel
theorem dX1_squareOfPushes_12 : decode cX1_squareOfPushes 12 = .ok (.lload_n 1, 1) := by decide +kernel
theorem dX1_squareOfPushes_13 : decode cX1_squareOfPushes 13 = .ok (.aload_n 0, 1) := by decide +kernel
theorem dX1_squareOfPushes_14 : decode cX1_squareOfPushes 14 = .ok (.getfield 19, 3) := by decide +kernel
theorem dX1_squareOfPushes_17 : decode cX1_squareOfPushes 17 = .ok (.iload_n 3, 1) := by decide +kernel
theorem dX1_squareOfPushes_18 : decode cX1_squareOfPushes 18 = .ok (.iaload, 1) := by decide +kernel
theorem dX1_squareOfPushes_19 : decode cX1_squareOfPushes 19 = .ok (.aload_n 0, 1) := by decide +kernel
theorem dX1_squareOfPushes_20 : decode cX1_squareOfPushes 20 = .ok (.getfield 19, 3) := by decide +kernel
theorem dX1_squareOfPushes_23 : decode cX1_squareOfPushes 23 = .ok (.iload_n 3, 1) := by decide +kernel
theorem dX1_squareOfPushes_24 : decode cX1_squareOfPushes 24 = .ok (.iaload, 1) := by decide +kernel
theorem dX1_squareOfPushes_25 : decode cX1_squareOfPushes 25 = .ok (.imul, 1) := by decide +kernel
theorem dX1_squareOfPushes_26 : decode cX1_squareOfPushes 26 = .ok (.i2l, 1) := by decide +kernel
theorem dX1_squareOfPushes_27 : decode cX1_squareOfPushes 27 = .ok (.ladd, 1) := by decide +kernel
theorem dX1_squareOfPushes_28 : decode cX1_squareOfPushes 28 = .ok (.lstore_n 1, 1) := by decide +kernel
theorem dX1_squareOfPushes_29 : decode cX1_squareOfPushes 29 = .ok (.iinc 3 1, 3) := by decide +kernel
theorem dX1_squareOfPushes_32 : decode cX1_squareOfPushes 32 = .ok (.goto (-28), 3) := by decide +kernel
theorem dX1_squareOfPushes_35 : decode cX1_squareOfPushes 35 = .ok (.lload_n 1, 1) := by decide +kernel
theorem dX1_squareOfPushes_36 : decode cX1_squareOfPushes 36 = .ok (.lreturn, 1) := by decide +kernel
theorem dX1_leftOf_0 : decode cX1_leftOf 0 = .ok (.iload_n 1, 1) := by decide +kernel
theorem dX1_leftOf_1 : decode cX1_leftOf 1 = .ok (.i2l, 1) := by decide +kernel
theorem dX1_leftOf_2 : decode cX1_leftOf 2 = .ok (.aload_n 3, 1) := by decide +kernel
theorem dX1_leftOf_3 : decode cX1_leftOf 3 = .ok (.getfield 74, 3) := by decide +kernel
theorem dX1_leftOf_6 : decode cX1_leftOf 6 = .ok (.lmul, 1) := by decide +kernel
theorem dX1_leftOf_7 : decode cX1_leftOf 7 = .ok (.lstore 4, 2) := by decide +kernel
theorem dX1_leftOf_9 : decode cX1_leftOf 9 = .ok (.iconst 0, 1) := by decide +kernel
theorem dX1_leftOf_10 : decode cX1_leftOf 10 = .ok (.istore 6, 2) := by decide +kernel
theorem dX1_leftOf_12 : decode cX1_leftOf 12 = .ok (.iload 6, 2) := by decide +kernel
theorem dX1_leftOf_14 : decode cX1_leftOf 14 = .ok (.aload_n 0, 1) := by decide +kernel
theorem dX1_leftOf_15 : decode cX1_leftOf 15 = .ok (.getfield 9, 3) := by decide +kernel
theorem dX1_leftOf_18 : decode cX1_leftOf 18 = .ok (.if_icmp .ge 30, 3) := by decide +kernel
theorem dX1_leftOf_21 : decode cX1_leftOf 21 = .ok (.lload 4, 2) := by decide +kernel
theorem dX1_leftOf_23 : decode cX1_leftOf 23 = .ok (.aload_n 0, 1) := by decide +kernel
theorem dX1_leftOf_24 : decode cX1_leftOf 24 = .ok (.iload_n 2, 1) := by decide +kernel
theorem dX1_leftOf_25 : decode cX1_leftOf 25 = .ok (.iload 6, 2) := by decide +kernel
theorem dX1_leftOf_27 : decode cX1_leftOf 27 = .ok (.invokevirtual 80, 3) := by decide +kernel
theorem dX1_leftOf_30 : decode cX1_leftOf 30 = .ok (.i2l, 1) := by decide +kernel
theorem dX1_leftOf_31 : decode cX1_leftOf 31 = .ok (.aload_n 3, 1) := by decide +kernel
theorem dX1_leftOf_32 : decode cX1_leftOf 32 = .ok (.getfield 83, 3) := by decide +kernel
theorem dX1_leftOf_35 : decode cX1_leftOf 35 = .ok (.iload 6, 2) := by decide +kernel
theorem dX1_leftOf_37 : decode cX1_leftOf 37 = .ok (.laload, 1) := by decide +kernel
theorem dX1_leftOf_38 : decode cX1_leftOf 38 = .ok (.lmul, 1) := by decide +kernel
theorem dX1_leftOf_39 : decode cX1_leftOf 39 = .ok (.lsub, 1) := by decide +kernel
theorem dX1_leftOf_40 : decode cX1_leftOf 40 = .ok (.lstore 4, 2) := by decide +kernel
theorem dX1_leftOf_42 : decode cX1_leftOf 42 = .ok (.iinc 6 1, 3) := by decide +kernel
theorem dX1_leftOf_45 : decode cX1_leftOf 45 = .ok (.goto (-33), 3) := by decide +kernel
theorem dX1_leftOf_48 : decode cX1_leftOf 48 = .ok (.lload 4, 2) := by decide +kernel
theorem dX1_leftOf_50 : decode cX1_leftOf 50 = .ok (.lreturn, 1) := by decide +kernel
theorem dX1_isHeldBy_0 : decode cX1_isHeldBy 0 = .ok (.aload_n 0, 1) := by decide +kernel
theorem dX1_isHeldBy_1 : decode cX1_isHeldBy 1 = .ok (.iload_n 1, 1) := by decide +kernel
theorem dX1_isHeldBy_2 : decode cX1_isHeldBy 2 = .ok (.invokevirtual 63, 3) := by decide +kernel
theorem dX1_isHeldBy_5 : decode cX1_isHeldBy 5 = .ok (.ifCond .eq 17, 3) := by decide +kernel
theorem dX1_isHeldBy_8 : decode cX1_isHeldBy 8 = .ok (.lload_n 2, 1) := by decide +kernel
theorem dX1_isHeldBy_9 : decode cX1_isHeldBy 9 = .ok (.lconst 0, 1) := by decide +kernel
theorem dX1_isHeldBy_10 : decode cX1_isHeldBy 10 = .ok (.lcmp, 1) := by decide +kernel
theorem dX1_isHeldBy_11 : decode cX1_isHeldBy 11 = .ok (.ifCond .ne 7, 3) := by decide +kernel
theorem dX1_isHeldBy_14 : decode cX1_isHeldBy 14 = .ok (.iconst 1, 1) := by decide +kernel
theorem dX1_isHeldBy_15 : decode cX1_isHeldBy 15 = .ok (.goto 18, 3) := by decide +kernel
theorem dX1_isHeldBy_18 : decode cX1_isHeldBy 18 = .ok (.iconst 0, 1) := by decide +kernel
theorem dX1_isHeldBy_19 : decode cX1_isHeldBy 19 = .ok (.goto 14, 3) := by decide +kernel
theorem dX1_isHeldBy_22 : decode cX1_isHeldBy 22 = .ok (.lload_n 2, 1) := by decide +kernel
theorem dX1_isHeldBy_23 : decode cX1_isHeldBy 23 = .ok (.lconst 0, 1) := by decide +kernel
theorem dX1_isHeldBy_24 : decode cX1_isHeldBy 24 = .ok (.lcmp, 1) := by decide +kernel
theorem dX1_isHeldBy_25 : decode cX1_isHeldBy 25 = .ok (.ifCond .lt 7, 3) := by decide +kernel
theorem dX1_isHeldBy_28 : decode cX1_isHeldBy 28 = .ok (.iconst 1, 1) := by decide +kernel
theorem dX1_isHeldBy_29 : decode cX1_isHeldBy 29 = .ok (.goto 4, 3) := by decide +kernel
theorem dX1_isHeldBy_32 : decode cX1_isHeldBy 32 = .ok (.iconst 0, 1) := by decide +kernel
theorem dX1_isHeldBy_33 : decode cX1_isHeldBy 33 = .ok (.ireturn, 1) := by decide +kernel
theorem dX2_init_0 : decode cX2_init 0 = .ok (.aload_n 0, 1) := by decide +kernel
theorem dX2_init_1 : decode cX2_init 1 = .ok (.invokespecial 3, 3) := by decide +kernel
theorem dX2_init_4 : decode cX2_init 4 = .ok (.aload_n 0, 1) := by decide +kernel
theorem dX2_init_5 : decode cX2_init 5 = .ok (.new 9, 3) := by decide +kernel
theorem dX2_init_8 : decode cX2_init 8 = .ok (.dup, 1) := by decide +kernel
theorem dX2_init_9 : decode cX2_init 9 = .ok (.invokespecial 11, 3) := by decide +kernel
theorem dX2_init_12 : decode cX2_init 12 = .ok (.putfield 12, 3) := by decide +kernel
theorem dX2_init_15 : decode cX2_init 15 = .ok (.aload_n 0, 1) := by decide +kernel
theorem dX2_init_16 : decode cX2_init 16 = .ok (.aload_n 1, 1) := by decide +kernel
theorem dX2_init_17 : decode cX2_init 17 = .ok (.putfield 18, 3) := by decide +kernel
theorem dX2_init_20 : decode cX2_init 20 = .ok (.return_, 1) := by decide +kernel
theorem dX2_length_0 : decode cX2_length 0 = .ok (.aload_n 0, 1) := by decide +kernel
theorem dX2_length_1 : decode cX2_length 1 = .ok (.getfield 18, 3) := by decide +kernel
theorem dX2_length_4 : decode cX2_length 4 = .ok (.getfield 22, 3) := by decide +kernel
theorem dX2_length_7 : decode cX2_length 7 = .ok (.aload_n 0, 1) := by decide +kernel
theorem dX2_length_8 : decode cX2_length 8 = .ok (.getfield 18, 3) := by decide +kernel
theorem dX2_length_11 : decode cX2_length 11 = .ok (.getfield 28, 3) := by decide +kernel
theorem dX2_length_14 : decode cX2_length 14 = .ok (.iadd, 1) := by decide +kernel
theorem dX2_length_15 : decode cX2_length 15 = .ok (.iconst 1, 1) := by decide +kernel
theorem dX2_length_16 : decode cX2_length 16 = .ok (.iadd, 1) := by decide +kernel
theorem dX2_length_17 : decode cX2_length 17 = .ok (.ireturn, 1) := by decide +kernel
theorem dX2_tell_0 : decode cX2_tell 0 = .ok (.aload_n 0, 1) := by decide +kernel
theorem dX2_tell_1 : decode cX2_tell 1 = .ok (.getfield 18, 3) := by decide +kernel
theorem dX2_tell_4 : decode cX2_tell 4 = .ok (.getfield 22, 3) := by decide +kernel
theorem dX2_tell_7 : decode cX2_tell 7 = .ok (.istore 4, 2) := by decide +kernel
theorem dX2_tell_9 : decode cX2_tell 9 = .ok (.aload_n 0, 1) := by decide +kernel
theorem dX2_tell_10 : decode cX2_tell 10 = .ok (.aload_n 1, 1) := by decide +kernel
theorem dX2_tell_11 : decode cX2_tell 11 = .ok (.invokevirtual 31, 3) := by decide +kernel
theorem dX2_tell_14 : decode cX2_tell 14 = .ok (.lstore 5, 2) := by decide +kernel
theorem dX2_tell_16 : decode cX2_tell 16 = .ok (.aload_n 2, 1) := by decide +kernel
theorem dX2_tell_17 : decode cX2_tell 17 = .ok (.iload_n 3, 1) := by decide +kernel
theorem dX2_tell_18 : decode cX2_tell 18 = .ok (.iconst 1, 1) := by decide +kernel
theorem dX2_tell_19 : decode cX2_tell 19 = .ok (.aload_n 0, 1) := by decide +kernel
theorem dX2_tell_20 : decode cX2_tell 20 = .ok (.invokevirtual 35, 3) := by decide +kernel
theorem dX2_tell_23 : decode cX2_tell 23 = .ok (.invokevirtual 39, 3) := by decide +kernel
theorem dX2_tell_26 : decode cX2_tell 26 = .ok (.iconst 0, 1) := by decide +kernel
theorem dX2_tell_27 : decode cX2_tell 27 = .ok (.istore 7, 2) := by decide +kernel
theorem dX2_tell_29 : decode cX2_tell 29 = .ok (.iload 7, 2) := by decide +kernel
theorem dX2_tell_31 : decode cX2_tell 31 = .ok (.iload 4, 2) := by decide +kernel
theorem dX2_tell_33 : decode cX2_tell 33 = .ok (.if_icmp .ge 26, 3) := by decide +kernel
theorem dX2_tell_36 : decode cX2_tell 36 = .ok (.aload_n 2, 1) := by decide +kernel
theorem dX2_tell_37 : decode cX2_tell 37 = .ok (.iload_n 3, 1) := by decide +kernel
theorem dX2_tell_38 : decode cX2_tell 38 = .ok (.iload 7, 2) := by decide +kernel
theorem dX2_tell_40 : decode cX2_tell 40 = .ok (.aload_n 1, 1) := by decide +kernel
theorem dX2_tell_41 : decode cX2_tell 41 = .ok (.getfield 45, 3) := by decide +kernel
theorem dX2_tell_44 : decode cX2_tell 44 = .ok (.iload 7, 2) := by decide +kernel
theorem dX2_tell_46 : decode cX2_tell 46 = .ok (.laload, 1) := by decide +kernel
theorem dX2_tell_47 : decode cX2_tell 47 = .ok (.lload 5, 2) := by decide +kernel
theorem dX2_tell_49 : decode cX2_tell 49 = .ok (.ldiv, 1) := by decide +kernel
theorem dX2_tell_50 : decode cX2_tell 50 = .ok (.invokevirtual 49, 3) := by decide +kernel
theorem dX2_tell_53 : decode cX2_tell 53 = .ok (.iinc 7 1, 3) := by decide +kernel
theorem dX2_tell_56 : decode cX2_tell 56 = .ok (.goto (-27), 3) := by decide +kernel
theorem dX2_tell_59 : decode cX2_tell 59 = .ok (.iconst 0, 1) := by decide +kernel
theorem dX2_tell_60 : decode cX2_tell 60 = .ok (.istore 7, 2) := by decide +kernel
theorem dX2_tell_62 : decode cX2_tell 62 = .ok (.iload 7, 2) := by decide +kernel
theorem dX2_tell_64 : decode cX2_tell 64 = .ok (.aload_n 0, 1) := by decide +kernel
theorem dX2_tell_65 : decode cX2_tell 65 = .ok (.getfield 18, 3) := by decide +kernel
theorem dX2_tell_68 : decode cX2_tell 68 = .ok (.getfield 28, 3) := by decide +kernel
theorem dX2_tell_71 : decode cX2_tell 71 = .ok (.if_icmp .ge 29, 3) := by decide +kernel
theorem dX2_tell_74 : decode cX2_tell 74 = .ok (.aload_n 2, 1) := by decide +kernel
theorem dX2_tell_75 : decode cX2_tell 75 = .ok (.iload_n 3, 1) := by decide +kernel
theorem dX2_tell_76 : decode cX2_tell 76 = .ok (.iload 4, 2) := by decide +kernel
theorem dX2_tell_78 : decode cX2_tell 78 = .ok (.iload 7, 2) := by decide +kernel
theorem dX2_tell_80 : decode cX2_tell 80 = .ok (.iadd, 1) := by decide +kernel
theorem dX2_tell_81 : decode cX2_tell 81 = .ok (.aload_n 1, 1) := by decide +kernel
theorem dX2_tell_82 : decode cX2_tell 82 = .ok (.getfield 53, 3) := by decide +kernel
theorem dX2_tell_85 : decode cX2_tell 85 = .ok (.iload 7, 2) := by decide +kernel
theorem dX2_tell_87 : decode cX2_tell 87 = .ok (.laload, 1) := by decide +kernel
theorem dX2_tell_88 : decode cX2_tell 88 = .ok (.lload 5, 2) := by decide +kernel
theorem dX2_tell_90 : decode cX2_tell 90 = .ok (.ldiv, 1) := by decide +kernel
theorem dX2_tell_91 : decode cX2_tell 91 = .ok (.invokevirtual 49, 3) := by decide +kernel
theorem dX2_tell_94 : decode cX2_tell 94 = .ok (.iinc 7 1, 3) := by decide +kernel
theorem dX2_tell_97 : decode cX2_tell 97 = .ok (.goto (-35), 3) := by decide +kernel
theorem dX2_tell_100 : decode cX2_tell 100 = .ok (.aload_n 2, 1) := by decide +kernel
theorem dX2_tell_101 : decode cX2_tell 101 = .ok (.iload_n 3, 1) := by decide +kernel
theorem dX2_tell_102 : decode cX2_tell 102 = .ok (.iload 4, 2) := by decide +kernel
theorem dX2_tell_104 : decode cX2_tell 104 = .ok (.aload_n 0, 1) := by decide +kernel
theorem dX2_tell_105 : decode cX2_tell 105 = .ok (.getfield 18, 3) := by decide +kernel
theorem dX2_tell_108 : decode cX2_tell 108 = .ok (.getfield 28, 3) := by decide +kernel
theorem dX2_tell_111 : decode cX2_tell 111 = .ok (.iadd, 1) := by decide +kernel
theorem dX2_tell_112 : decode cX2_tell 112 = .ok (.aload_n 1, 1) := by decide +kernel
theorem dX2_tell_113 : decode cX2_tell 113 = .ok (.getfield 56, 3) := by decide +kernel
theorem dX2_tell_116 : decode cX2_tell 116 = .ok (.lload 5, 2) := by decide +kernel
theorem dX2_tell_118 : decode cX2_tell 118 = .ok (.ldiv, 1) := by decide +kernel
theorem dX2_tell_119 : decode cX2_tell 119 = .ok (.invokevirtual 49, 3) := by decide +kernel
theorem dX2_tell_122 : decode cX2_tell 122 = .ok (.return_, 1) := by decide +kernel
theorem dX2_sharedBy_0 : decode cX2_sharedBy 0 = .ok (.aload_n 1, 1) := by decide +kernel
theorem dX2_sharedBy_1 : decode cX2_sharedBy 1 = .ok (.getfield 56, 3) := by decide +kernel
theorem dX2_sharedBy_4 : decode cX2_sharedBy 4 = .ok (.lstore_n 2, 1) := by decide +kernel
theorem dX2_sharedBy_5 : decode cX2_sharedBy 5 = .ok (.iconst 0, 1) := by decide +kernel
theorem dX2_sharedBy_6 : decode cX2_sharedBy 6 = .ok (.istore 4, 2) := by decide +kernel
theorem dX2_sharedBy_8 : decode cX2_sharedBy 8 = .ok (.iload 4, 2) := by decide +kernel
theorem dX2_sharedBy_10 : decode cX2_sharedBy 10 = .ok (.aload_n 0, 1) := by decide +kernel
theorem dX2_sharedBy_11 : decode cX2_sharedBy 11 = .ok (.getfield 18, 3) := by decide +kernel
theorem dX2_sharedBy_14 : decode cX2_sharedBy 14 = .ok (.getfield 22, 3) := by decide +kernel
theorem dX2_sharedBy_17 : decode cX2_sharedBy 17 = .ok (.if_icmp .ge 21, 3) := by decide +kernel
theorem dX2_sharedBy_20 : decode cX2_sharedBy 20 = .ok (.lload_n 2, 1) := by decide +kernel
theorem dX2_sharedBy_21 : decode cX2_sharedBy 21 = .ok (.aload_n 1, 1) := by decide +kernel
theorem dX2_sharedBy_22 : decode cX2_sharedBy 22 = .ok (.getfield 45, 3) := by decide +kernel
theorem dX2_sharedBy_25 : decode cX2_sharedBy 25 = .ok (.iload 4, 2) := by decide +kernel
theorem dX2_sharedBy_27 : decode cX2_sharedBy 27 = .ok (.laload, 1) := by decide +kernel
theorem dX2_sharedBy_28 : decode cX2_sharedBy 28 = .ok (.invokestatic 60, 3) := by decide +kernel
theorem dX2_sharedBy_31 : decode cX2_sharedBy 31 = .ok (.lstore_n 2, 1) := by decide +kernel
theorem dX2_sharedBy_32 : decode cX2_sharedBy 32 = .ok (.iinc 4 1, 3) := by decide +kernel
theorem dX2_sharedBy_35 : decode cX2_sharedBy 35 = .ok (.goto (-27), 3) := by decide +kernel
theorem dX2_sharedBy_38 : decode cX2_sharedBy 38 = .ok (.iconst 0, 1) := by decide +kernel
theorem dX2_sharedBy_39 : decode cX2_sharedBy 39 = .ok (.istore 4, 2) := by decide +kernel
theorem dX2_sharedBy_41 : decode cX2_sharedBy 41 = .ok (.iload 4, 2) := by decide +kernel
theorem dX2_sharedBy_43 : decode cX2_sharedBy 43 = .ok (.aload_n 0, 1) := by decide +kernel
theorem dX2_sharedBy_44 : decode cX2_sharedBy 44 = .ok (.getfield 18, 3) := by decide +kernel
theorem dX2_sharedBy_47 : decode cX2_sharedBy 47 = .ok (.getfield 28, 3) := by decide +kernel
theorem dX2_sharedBy_50 : decode cX2_sharedBy 50 = .ok (.if_icmp .ge 21, 3) := by decide +kernel
theorem dX2_sharedBy_53 : decode cX2_sharedBy 53 = .ok (.lload_n 2, 1) := by decide +kernel
theorem dX2_sharedBy_54 : decode cX2_sharedBy 54 = .ok (.aload_n 1, 1) := by decide +kernel
theorem dX2_sharedBy_55 : decode cX2_sharedBy 55 = .ok (.getfield 53, 3) := by decide +kernel
theorem dX2_sharedBy_58 : decode cX2_sharedBy 58 = .ok (.iload 4, 2) := by decide +kernel
theorem dX2_sharedBy_60 : decode cX2_sharedBy 60 = .ok (.laload, 1) := by decide +kernel
theorem dX2_sharedBy_61 : decode cX2_sharedBy 61 = .ok (.invokestatic 60, 3) := by decide +kernel
theorem dX2_sharedBy_64 : decode cX2_sharedBy 64 = .ok (.lstore_n 2, 1) := by decide +kernel
theorem dX2_sharedBy_65 : decode cX2_sharedBy 65 = .ok (.iinc 4 1, 3) := by decide +kernel
theorem dX2_sharedBy_68 : decode cX2_sharedBy 68 = .ok (.goto (-27), 3) := by decide +kernel
theorem dX2_sharedBy_71 : decode cX2_sharedBy 71 = .ok (.lload_n 2, 1) := by decide +kernel
theorem dX2_sharedBy_72 : decode cX2_sharedBy 72 = .ok (.lconst 0, 1) := by decide +kernel
theorem dX2_sharedBy_73 : decode cX2_sharedBy 73 = .ok (.lcmp, 1) := by decide +kernel
theorem dX2_sharedBy_74 : decode cX2_sharedBy 74 = .ok (.ifCond .ne 7, 3) := by decide +kernel
theorem dX2_sharedBy_77 : decode cX2_sharedBy 77 = .ok (.lconst 1, 1) := by decide +kernel
theorem dX2_sharedBy_78 : decode cX2_sharedBy 78 = .ok (.goto 4, 3) := by decide +kernel
theorem dX2_sharedBy_81 : decode cX2_sharedBy 81 = .ok (.lload_n 2, 1) := by decide +kernel
theorem dX2_sharedBy_82 : decode cX2_sharedBy 82 = .ok (.lreturn, 1) := by decide +kernel
theorem dX2_take_0 : decode cX2_take 0 = .ok (.aload_n 0, 1) := by decide +kernel
theorem dX2_take_1 : decode cX2_take 1 = .ok (.getfield 18, 3) := by decide +kernel
theorem dX2_take_4 : decode cX2_take 4 = .ok (.getfield 22, 3) := by decide +kernel
theorem dX2_take_7 : decode cX2_take 7 = .ok (.istore_n 3, 1) := by decide +kernel
theorem dX2_take_8 : decode cX2_take 8 = .ok (.iconst 0, 1) := by decide +kernel
theorem dX2_take_9 : decode cX2_take 9 = .ok (.istore 4, 2) := by decide +kernel
theorem dX2_take_11 : decode cX2_take 11 = .ok (.iload 4, 2) := by decide +kernel
theorem dX2_take_13 : decode cX2_take 13 = .ok (.iload_n 3, 1) := by decide +kernel
theorem dX2_take_14 : decode cX2_take 14 = .ok (.if_icmp .ge 26, 3) := by decide +kernel
theorem dX2_take_17 : decode cX2_take 17 = .ok (.aload_n 0, 1) := by decide +kernel
theorem dX2_take_18 : decode cX2_take 18 = .ok (.getfield 12, 3) := by decide +kernel
theorem dX2_take_21 : decode cX2_take 21 = .ok (.getfield 45, 3) := by decide +kernel
theorem dX2_take_24 : decode cX2_take 24 = .ok (.iload 4, 2) := by decide +kernel
theorem dX2_take_26 : decode cX2_take 26 = .ok (.aload_n 1, 1) := by decide +kernel
theorem dX2_take_27 : decode cX2_take 27 = .ok (.iload_n 2, 1) := by decide +kernel
theorem dX2_take_28 : decode cX2_take 28 = .ok (.iload 4, 2) := by decide +kernel
theorem dX2_take_30 : decode cX2_take 30 = .ok (.invokevirtual 66, 3) := by decide +kernel
theorem dX2_take_33 : decode cX2_take 33 = .ok (.lastore, 1) := by decide +kernel
theorem dX2_take_34 : decode cX2_take 34 = .ok (.iinc 4 1, 3) := by decide +kernel
theorem dX2_take_37 : decode cX2_take 37 = .ok (.goto (-26), 3) := by decide +kernel
theorem dX2_take_40 : decode cX2_take 40 = .ok (.iconst 0, 1) := by decide +kernel
theorem dX2_take_41 : decode cX2_take 41 = .ok (.istore 4, 2) := by decide +kernel
theorem dX2_take_43 : decode cX2_take 43 = .ok (.iload 4, 2) := by decide +kernel
theorem dX2_take_45 : decode cX2_take 45 = .ok (.aload_n 0, 1) := by decide +kernel
theorem dX2_take_46 : decode cX2_take 46 = .ok (.getfield 18, 3) := by decide +kernel
theorem dX2_take_49 : decode cX2_take 49 = .ok (.getfield 28, 3) := by decide +kernel
theorem dX2_take_52 : decode cX2_take 52 = .ok (.if_icmp .ge 28, 3) := by decide +kernel
theorem dX2_take_55 : decode cX2_take 55 = .ok (.aload_n 0, 1) := by decide +kernel
theorem dX2_take_56 : decode cX2_take 56 = .ok (.getfield 12, 3) := by decide +kernel
theorem dX2_take_59 : decode cX2_take 59 = .ok (.getfield 53, 3) := by decide +kernel
theorem dX2_take_62 : decode cX2_take 62 = .ok (.iload 4, 2) := by decide +kernel
theorem dX2_take_64 : decode cX2_take 64 = .ok (.aload_n 1, 1) := by decide +kernel
theorem dX2_take_65 : decode cX2_take 65 = .ok (.iload_n 2, 1) := by decide +kernel
theorem dX2_take_66 : decode cX2_take 66 = .ok (.iload_n 3, 1) := by decide +kernel
theorem dX2_take_67 : decode cX2_take 67 = .ok (.iload 4, 2) := by decide +kernel
theorem dX2_take_69 : decode cX2_take 69 = .ok (.iadd, 1) := by decide +kernel
theorem dX2_take_70 : decode cX2_take 70 = .ok (.invokevirtual 66, 3) := by decide +kernel
theorem dX2_take_73 : decode cX2_take 73 = .ok (.lastore, 1) := by decide +kernel
theorem dX2_take_74 : decode cX2_take 74 = .ok (.iinc 4 1, 3) := by decide +kernel
theorem dX2_take_77 : decode cX2_take 77 = .ok (.goto (-34), 3) := by decide +kernel
theorem dX2_take_80 : decode cX2_take 80 = .ok (.aload_n 0, 1) := by decide +kernel
theorem dX2_take_81 : decode cX2_take 81 = .ok (.getfield 12, 3) := by decide +kernel
theorem dX2_take_84 : decode cX2_take 84 = .ok (.aload_n 1, 1) := by decide +kernel
theorem dX2_take_85 : decode cX2_take 85 = .ok (.iload_n 2, 1) := by decide +kernel
theorem dX2_take_86 : decode cX2_take 86 = .ok (.iload_n 3, 1) := by decide +kernel
theorem dX2_take_87 : decode cX2_take 87 = .ok (.aload_n 0, 1) := by decide +kernel
theorem dX2_take_88 : decode cX2_take 88 = .ok (.getfield 18, 3) := by decide +kernel
theorem dX2_take_91 : decode cX2_take 91 = .ok (.getfield 28, 3) := by decide +kernel
theorem dX2_take_94 : decode cX2_take 94 = .ok (.iadd, 1) := by decide +kernel
theorem dX2_take_95 : decode cX2_take 95 = .ok (.invokevirtual 66, 3) := by decide +kernel
theorem dX2_take_98 : decode cX2_take 98 = .ok (.putfield 56, 3) := by decide +kernel
theorem dX2_take_101 : decode cX2_take 101 = .ok (.return_, 1) := by decide +kernel
theorem dX2_firstWrong_0 : decode cX2_firstWrong 0 = .ok (.aload_n 0, 1) := by decide +kernel
theorem dX2_firstWrong_1 : decode cX2_firstWrong 1 = .ok (.getfield 12, 3) := by decide +kernel
theorem dX2_firstWrong_4 : decode cX2_firstWrong 4 = .ok (.getfield 56, 3) := by decide +kernel
theorem dX2_firstWrong_7 : decode cX2_firstWrong 7 = .ok (.lconst 1, 1) := by decide +kernel
theorem dX2_firstWrong_8 : decode cX2_firstWrong 8 = .ok (.lcmp, 1) := by decide +kernel
theorem dX2_firstWrong_9 : decode cX2_firstWrong 9 = .ok (.ifCond .ge 5, 3) := by decide +kernel
theorem dX2_firstWrong_12 : decode cX2_firstWrong 12 = .ok (.iconst 1, 1) := by decide +kernel
theorem dX2_firstWrong_13 : decode cX2_firstWrong 13 = .ok (.ireturn, 1) := by decide +kernel
theorem dX2_firstWrong_14 : decode cX2_firstWrong 14 = .ok (.aload_n 0, 1) := by decide +kernel
theorem dX2_firstWrong_15 : decode cX2_firstWrong 15 = .ok (.invokevirtual 70, 3) := by decide +kernel
theorem dX2_firstWrong_18 : decode cX2_firstWrong 18 = .ok (.ifCond .ne 5, 3) := by decide +kernel
theorem dX2_firstWrong_21 : decode cX2_firstWrong 21 = .ok (.iconst 2, 1) := by decide +kernel
theorem dX2_firstWrong_22 : decode cX2_firstWrong 22 = .ok (.ireturn, 1) := by decide +kernel
theorem dX2_firstWrong_23 : decode cX2_firstWrong 23 = .ok (.aload_n 0, 1) := by decide +kernel
theorem dX2_firstWrong_24 : decode cX2_firstWrong 24 = .ok (.invokevirtual 74, 3) := by decide +kernel
theorem dX2_firstWrong_27 : decode cX2_firstWrong 27 = .ok (.ifCond .ne 5, 3) := by decide +kernel
theorem dX2_firstWrong_30 : decode cX2_firstWrong 30 = .ok (.iconst 3, 1) := by decide +kernel
theorem dX2_firstWrong_31 : decode cX2_firstWrong 31 = .ok (.ireturn, 1) := by decide +kernel
theorem dX2_firstWrong_32 : decode cX2_firstWrong 32 = .ok (.aload_n 0, 1) := by decide +kernel
theorem dX2_firstWrong_33 : decode cX2_firstWrong 33 = .ok (.invokevirtual 77, 3) := by decide +kernel
theorem dX2_firstWrong_36 : decode cX2_firstWrong 36 = .ok (.ifCond .ne 5, 3) := by decide +kernel
theorem dX2_firstWrong_39 : decode cX2_firstWrong 39 = .ok (.iconst 4, 1) := by decide +kernel
theorem dX2_firstWrong_40 : decode cX2_firstWrong 40 = .ok (.ireturn, 1) := by decide +kernel
theorem dX2_firstWrong_41 : decode cX2_firstWrong 41 = .ok (.aload_n 0, 1) := by decide +kernel
theorem dX2_firstWrong_42 : decode cX2_firstWrong 42 = .ok (.invokevirtual 80, 3) := by decide +kernel
theorem dX2_firstWrong_45 : decode cX2_firstWrong 45 = .ok (.ifCond .eq 7, 3) := by decide +kernel
theorem dX2_firstWrong_48 : decode cX2_firstWrong 48 = .ok (.iconst 0, 1) := by decide +kernel
theorem dX2_firstWrong_49 : decode cX2_firstWrong 49 = .ok (.goto 4, 3) := by decide +kernel
theorem dX2_firstWrong_52 : decode cX2_firstWrong 52 = .ok (.iconst 5, 1) := by decide +kernel
theorem dX2_firstWrong_53 : decode cX2_firstWrong 53 = .ok (.ireturn, 1) := by decide +kernel
theorem dX2_slackOf_0 : decode cX2_slackOf 0 = .ok (.aload_n 0, 1) := by decide +kernel
theorem dX2_slackOf_1 : decode cX2_slackOf 1 = .ok (.getfield 18, 3) := by decide +kernel
theorem dX2_slackOf_4 : decode cX2_slackOf 4 = .ok (.aload_n 0, 1) := by decide +kernel
theorem dX2_slackOf_5 : decode cX2_slackOf 5 = .ok (.getfield 18, 3) := by decide +kernel
theorem dX2_slackOf_8 : decode cX2_slackOf 8 = .ok (.iload_n 1, 1) := by decide +kernel
theorem dX2_slackOf_9 : decode cX2_slackOf 9 = .ok (.aload_n 0, 1) := by decide +kernel
theorem dX2_slackOf_10 : decode cX2_slackOf 10 = .ok (.getfield 18, 3) := by decide +kernel
theorem dX2_slackOf_13 : decode cX2_slackOf 13 = .ok (.getfield 83, 3) := by decide +kernel
theorem dX2_slackOf_16 : decode cX2_slackOf 16 = .ok (.invokevirtual 86, 3) := by decide +kernel
theorem dX2_slackOf_19 : decode cX2_slackOf 19 = .ok (.iload_n 1, 1) := by decide +kernel
theorem dX2_slackOf_20 : decode cX2_slackOf 20 = .ok (.aload_n 0, 1) := by decide +kernel
theorem dX2_slackOf_21 : decode cX2_slackOf 21 = .ok (.getfield 12, 3) := by decide +kernel
theorem dX2_slackOf_24 : decode cX2_slackOf 24 = .ok (.invokevirtual 90, 3) := by decide +kernel
theorem dX2_slackOf_27 : decode cX2_slackOf 27 = .ok (.lreturn, 1) := by decide +kernel
theorem dX2_isBalanced_0 : decode cX2_isBalanced 0 = .ok (.iconst 0, 1) := by decide +kernel
theorem dX2_isBalanced_1 : decode cX2_isBalanced 1 = .ok (.istore_n 1, 1) := by decide +kernel
theorem dX2_isBalanced_2 : decode cX2_isBalanced 2 = .ok (.iload_n 1, 1) := by decide +kernel
theorem dX2_isBalanced_3 : decode cX2_isBalanced 3 = .ok (.aload_n 0, 1) := by decide +kernel
theorem dX2_isBalanced_4 : decode cX2_isBalanced 4 = .ok (.getfield 18, 3) := by decide +kernel
theorem dX2_isBalanced_7 : decode cX2_isBalanced 7 = .ok (.getfield 22, 3) := by decide +kernel
theorem dX2_isBalanced_10 : decode cX2_isBalanced 10 = .ok (.if_icmp .ge 128, 3) := by decide +kernel
theorem dX2_isBalanced_13 : decode cX2_isBalanced 13 = .ok (.aload_n 0, 1) := by decide +kernel
theorem dX2_isBalanced_14 : decode cX2_isBalanced 14 = .ok (.getfield 18, 3) := by decide +kernel
theorem dX2_isBalanced_17 : decode cX2_isBalanced 17 = .ok (.getfield 94, 3) := by decide +kernel
theorem dX2_isBalanced_20 : decode cX2_isBalanced 20 = .ok (.iload_n 1, 1) := by decide +kernel
theorem dX2_isBalanced_21 : decode cX2_isBalanced 21 = .ok (.iaload, 1) := by decide +kernel
theorem dX2_isBalanced_22 : decode cX2_isBalanced 22 = .ok (.i2l, 1) := by decide +kernel
theorem dX2_isBalanced_23 : decode cX2_isBalanced 23 = .ok (.aload_n 0, 1) := by decide +kernel
theorem dX2_isBalanced_24 : decode cX2_isBalanced 24 = .ok (.getfield 12, 3) := by decide +kernel
theorem dX2_isBalanced_27 : decode cX2_isBalanced 27 = .ok (.getfield 56, 3) := by decide +kernel
theorem dX2_isBalanced_30 : decode cX2_isBalanced 30 = .ok (.lmul, 1) := by decide +kernel
theorem dX2_isBalanced_31 : decode cX2_isBalanced 31 = .ok (.lstore_n 2, 1) := by decide +kernel
theorem dX2_isBalanced_32 : decode cX2_isBalanced 32 = .ok (.iconst 0, 1) := by decide +kernel
theorem dX2_isBalanced_33 : decode cX2_isBalanced 33 = .ok (.istore 4, 2) := by decide +kernel
theorem dX2_isBalanced_35 : decode cX2_isBalanced 35 = .ok (.iload 4, 2) := by decide +kernel
theorem dX2_isBalanced_37 : decode cX2_isBalanced 37 = .ok (.aload_n 0, 1) := by decide +kernel
theorem dX2_isBalanced_38 : decode cX2_isBalanced 38 = .ok (.getfield 18, 3) := by decide +kernel
theorem dX2_isBalanced_41 : decode cX2_isBalanced 41 = .ok (.getfield 22, 3) := by decide +kernel
theorem dX2_isBalanced_44 : decode cX2_isBalanced 44 = .ok (.if_icmp .ge 34, 3) := by decide +kernel
theorem dX2_isBalanced_47 : decode cX2_isBalanced 47 = .ok (.lload_n 2, 1) := by decide +kernel
theorem dX2_isBalanced_48 : decode cX2_isBalanced 48 = .ok (.aload_n 0, 1) := by decide +kernel
theorem dX2_isBalanced_49 : decode cX2_isBalanced 49 = .ok (.getfield 18, 3) := by decide +kernel
theorem dX2_isBalanced_52 : decode cX2_isBalanced 52 = .ok (.iload_n 1, 1) := by decide +kernel
theorem dX2_isBalanced_53 : decode cX2_isBalanced 53 = .ok (.iload 4, 2) := by decide +kernel
theorem dX2_isBalanced_55 : decode cX2_isBalanced 55 = .ok (.invokevirtual 98, 3) := by decide +kernel
theorem dX2_isBalanced_58 : decode cX2_isBalanced 58 = .ok (.i2l, 1) := by decide +kernel
theorem dX2_isBalanced_59 : decode cX2_isBalanced 59 = .ok (.aload_n 0, 1) := by decide +kernel
theorem dX2_isBalanced_60 : decode cX2_isBalanced 60 = .ok (.getfield 12, 3) := by decide +kernel
theorem dX2_isBalanced_63 : decode cX2_isBalanced 63 = .ok (.getfield 45, 3) := by decide +kernel
theorem dX2_isBalanced_66 : decode cX2_isBalanced 66 = .ok (.iload 4, 2) := by decide +kernel
theorem dX2_isBalanced_68 : decode cX2_isBalanced 68 = .ok (.laload, 1) := by decide +kernel
theorem dX2_isBalanced_69 : decode cX2_isBalanced 69 = .ok (.lmul, 1) := by decide +kernel
theorem dX2_isBalanced_70 : decode cX2_isBalanced 70 = .ok (.ladd, 1) := by decide +kernel
theorem dX2_isBalanced_71 : decode cX2_isBalanced 71 = .ok (.lstore_n 2, 1) := by decide +kernel
theorem dX2_isBalanced_72 : decode cX2_isBalanced 72 = .ok (.iinc 4 1, 3) := by decide +kernel
theorem dX2_isBalanced_75 : decode cX2_isBalanced 75 = .ok (.goto (-40), 3) := by decide +kernel
theorem dX2_isBalanced_78 : decode cX2_isBalanced 78 = .ok (.iconst 0, 1) := by decide +kernel
theorem dX2_isBalanced_79 : decode cX2_isBalanced 79 = .ok (.istore 4, 2) := by decide +kernel
theorem dX2_isBalanced_81 : decode cX2_isBalanced 81 = .ok (.iload 4, 2) := by decide +kernel
theorem dX2_isBalanced_83 : decode cX2_isBalanced 83 = .ok (.aload_n 0, 1) := by decide +kernel
theorem dX2_isBalanced_84 : decode cX2_isBalanced 84 = .ok (.getfield 18, 3) := by decide +kernel
theorem dX2_isBalanced_87 : decode cX2_isBalanced 87 = .ok (.getfield 28, 3) := by decide +kernel
theorem dX2_isBalanced_90 : decode cX2_isBalanced 90 = .ok (.if_icmp .ge 34, 3) := by decide +kernel
theorem dX2_isBalanced_93 : decode cX2_isBalanced 93 = .ok (.lload_n 2, 1) := by decide +kernel
theorem dX2_isBalanced_94 : decode cX2_isBalanced 94 = .ok (.aload_n 0, 1) := by decide +kernel
theorem dX2_isBalanced_95 : decode cX2_isBalanced 95 = .ok (.getfield 18, 3) := by decide +kernel
theorem dX2_isBalanced_98 : decode cX2_isBalanced 98 = .ok (.iload 4, 2) := by decide +kernel
theorem dX2_isBalanced_100 : decode cX2_isBalanced 100 = .ok (.iload_n 1, 1) := by decide +kernel
theorem dX2_isBalanced_101 : decode cX2_isBalanced 101 = .ok (.invokevirtual 101, 3) := by decide +kernel
theorem dX2_isBalanced_104 : decode cX2_isBalanced 104 = .ok (.i2l, 1) := by decide +kernel
theorem dX2_isBalanced_105 : decode cX2_isBalanced 105 = .ok (.aload_n 0, 1) := by decide +kernel
theorem dX2_isBalanced_106 : decode cX2_isBalanced 106 = .ok (.getfield 12, 3) := by decide +kernel
theorem dX2_isBalanced_109 : decode cX2_isBalanced 109 = .ok (.getfield 53, 3) := by decide +kernel
theorem dX2_isBalanced_112 : decode cX2_isBalanced 112 = .ok (.iload 4, 2) := by decide +kernel
theorem dX2_isBalanced_114 : decode cX2_isBalanced 114 = .ok (.laload, 1) := by decide +kernel
theorem dX2_isBalanced_115 : decode cX2_isBalanced 115 = .ok (.lmul, 1) := by decide +kernel
theorem dX2_isBalanced_116 : decode cX2_isBalanced 116 = .ok (.ladd, 1) := by decide +kernel
theorem dX2_isBalanced_117 : decode cX2_isBalanced 117 = .ok (.lstore_n 2, 1) := by decide +kernel
theorem dX2_isBalanced_118 : decode cX2_isBalanced 118 = .ok (.iinc 4 1, 3) := by decide +kernel
theorem dX2_isBalanced_121 : decode cX2_isBalanced 121 = .ok (.goto (-40), 3) := by decide +kernel
theorem dX2_isBalanced_124 : decode cX2_isBalanced 124 = .ok (.lload_n 2, 1) := by decide +kernel
theorem dX2_isBalanced_125 : decode cX2_isBalanced 125 = .ok (.lconst 0, 1) := by decide +kernel
theorem dX2_isBalanced_126 : decode cX2_isBalanced 126 = .ok (.lcmp, 1) := by decide +kernel
theorem dX2_isBalanced_127 : decode cX2_isBalanced 127 = .ok (.ifCond .eq 5, 3) := by decide +kernel
theorem dX2_isBalanced_130 : decode cX2_isBalanced 130 = .ok (.iconst 0, 1) := by decide +kernel
theorem dX2_isBalanced_131 : decode cX2_isBalanced 131 = .ok (.ireturn, 1) := by decide +kernel
theorem dX2_isBalanced_132 : decode cX2_isBalanced 132 = .ok (.iinc 1 1, 3) := by decide +kernel
theorem dX2_isBalanced_135 : decode cX2_isBalanced 135 = .ok (.goto (-133), 3) := by decide +kernel
theorem dX2_isBalanced_138 : decode cX2_isBalanced 138 = .ok (.iconst 1, 1) := by decide +kernel
theorem dX2_isBalanced_139 : decode cX2_isBalanced 139 = .ok (.ireturn, 1) := by decide +kernel
theorem dX2_isWeighedRight_0 : decode cX2_isWeighedRight 0 = .ok (.iconst 0, 1) := by decide +kernel
theorem dX2_isWeighedRight_1 : decode cX2_isWeighedRight 1 = .ok (.istore_n 1, 1) := by decide +kernel
theorem dX2_isWeighedRight_2 : decode cX2_isWeighedRight 2 = .ok (.iload_n 1, 1) := by decide +kernel
theorem dX2_isWeighedRight_3 : decode cX2_isWeighedRight 3 = .ok (.aload_n 0, 1) := by decide +kernel
theorem dX2_isWeighedRight_4 : decode cX2_isWeighedRight 4 = .ok (.getfield 18, 3) := by decide +kernel
theorem dX2_isWeighedRight_7 : decode cX2_isWeighedRight 7 = .ok (.getfield 28, 3) := by decide +kernel
theorem dX2_isWeighedRight_10 : decode cX2_isWeighedRight 10 = .ok (.if_icmp .ge 36, 3) := by decide +kernel
theorem dX2_isWeighedRight_13 : decode cX2_isWeighedRight 13 = .ok (.aload_n 0, 1) := by decide +kernel
theorem dX2_isWeighedRight_14 : decode cX2_isWeighedRight 14 = .ok (.getfield 12, 3) := by decide +kernel
theorem dX2_isWeighedRight_17 : decode cX2_isWeighedRight 17 = .ok (.getfield 53, 3) := by decide +kernel
theorem dX2_isWeighedRight_20 : decode cX2_isWeighedRight 20 = .ok (.iload_n 1, 1) := by decide +kernel
theorem dX2_isWeighedRight_21 : decode cX2_isWeighedRight 21 = .ok (.laload, 1) := by decide +kernel
theorem dX2_isWeighedRight_22 : decode cX2_isWeighedRight 22 = .ok (.lconst 0, 1) := by decide +kernel
theorem dX2_isWeighedRight_23 : decode cX2_isWeighedRight 23 = .ok (.lcmp, 1) := by decide +kernel
theorem dX2_isWeighedRight_24 : decode cX2_isWeighedRight 24 = .ok (.ifCond .ge 16, 3) := by decide +kernel
theorem dX2_isWeighedRight_27 : decode cX2_isWeighedRight 27 = .ok (.aload_n 0, 1) := by decide +kernel
theorem dX2_isWeighedRight_28 : decode cX2_isWeighedRight 28 = .ok (.getfield 18, 3) := by decide +kernel
theorem dX2_isWeighedRight_31 : decode cX2_isWeighedRight 31 = .ok (.iload_n 1, 1) := by decide +kernel
theorem dX2_isWeighedRight_32 : decode cX2_isWeighedRight 32 = .ok (.invokevirtual 104, 3) := by decide +kernel
theorem dX2_isWeighedRight_35 : decode cX2_isWeighedRight 35 = .ok (.ifCond .ne 5, 3) := by decide +kernel
theorem dX2_isWeighedRight_38 : decode cX2_isWeighedRight 38 = .ok (.iconst 0, 1) := by decide +kernel
theorem dX2_isWeighedRight_39 : decode cX2_isWeighedRight 39 = .ok (.ireturn, 1) := by decide +kernel
theorem dX2_isWeighedRight_40 : decode cX2_isWeighedRight 40 = .ok (.iinc 1 1, 3) := by decide +kernel
theorem dX2_isWeighedRight_43 : decode cX2_isWeighedRight 43 = .ok (.goto (-41), 3) := by decide +kernel
theorem dX2_isWeighedRight_46 : decode cX2_isWeighedRight 46 = .ok (.iconst 1, 1) := by decide +kernel
theorem dX2_isWeighedRight_47 : decode cX2_isWeighedRight 47 = .ok (.ireturn, 1) := by decide +kernel
theorem dX2_isHeld_0 : decode cX2_isHeld 0 = .ok (.iconst 0, 1) := by decide +kernel
theorem dX2_isHeld_1 : decode cX2_isHeld 1 = .ok (.istore_n 1, 1) := by decide +kernel
theorem dX2_isHeld_2 : decode cX2_isHeld 2 = .ok (.iload_n 1, 1) := by decide +kernel
theorem dX2_isHeld_3 : decode cX2_isHeld 3 = .ok (.aload_n 0, 1) := by decide +kernel
theorem dX2_isHeld_4 : decode cX2_isHeld 4 = .ok (.getfield 18, 3) := by decide +kernel
theorem dX2_isHeld_7 : decode cX2_isHeld 7 = .ok (.getfield 28, 3) := by decide +kernel
theorem dX2_isHeld_10 : decode cX2_isHeld 10 = .ok (.if_icmp .ge 27, 3) := by decide +kernel
theorem dX2_isHeld_13 : decode cX2_isHeld 13 = .ok (.aload_n 0, 1) := by decide +kernel
theorem dX2_isHeld_14 : decode cX2_isHeld 14 = .ok (.getfield 18, 3) := by decide +kernel
theorem dX2_isHeld_17 : decode cX2_isHeld 17 = .ok (.iload_n 1, 1) := by decide +kernel
theorem dX2_isHeld_18 : decode cX2_isHeld 18 = .ok (.aload_n 0, 1) := by decide +kernel
theorem dX2_isHeld_19 : decode cX2_isHeld 19 = .ok (.iload_n 1, 1) := by decide +kernel
theorem dX2_isHeld_20 : decode cX2_isHeld 20 = .ok (.invokevirtual 108, 3) := by decide +kernel
theorem dX2_isHeld_23 : decode cX2_isHeld 23 = .ok (.invokevirtual 112, 3) := by decide +kernel
theorem dX2_isHeld_26 : decode cX2_isHeld 26 = .ok (.ifCond .ne 5, 3) := by decide +kernel
theorem dX2_isHeld_29 : decode cX2_isHeld 29 = .ok (.iconst 0, 1) := by decide +kernel
theorem dX2_isHeld_30 : decode cX2_isHeld 30 = .ok (.ireturn, 1) := by decide +kernel
theorem dX2_isHeld_31 : decode cX2_isHeld 31 = .ok (.iinc 1 1, 3) := by decide +kernel
theorem dX2_isHeld_34 : decode cX2_isHeld 34 = .ok (.goto (-32), 3) := by decide +kernel
theorem dX2_isHeld_37 : decode cX2_isHeld 37 = .ok (.iconst 1, 1) := by decide +kernel
theorem dX2_isHeld_38 : decode cX2_isHeld 38 = .ok (.ireturn, 1) := by decide +kernel
theorem dX2_isWeightOnlyWhereTight_0 : decode cX2_isWeightOnlyWhereTight 0 = .ok (.iconst 0, 1) := by decide +kernel
theorem dX2_isWeightOnlyWhereTight_1 : decode cX2_isWeightOnlyWhereTight 1 = .ok (.istore_n 1, 1) := by decide +kernel
theorem dX2_isWeightOnlyWhereTight_2 : decode cX2_isWeightOnlyWhereTight 2 = .ok (.iload_n 1, 1) := by decide +kernel
theorem dX2_isWeightOnlyWhereTight_3 : decode cX2_isWeightOnlyWhereTight 3 = .ok (.aload_n 0, 1) := by decide +kernel
theorem dX2_isWeightOnlyWhereTight_4 : decode cX2_isWeightOnlyWhereTight 4 = .ok (.getfield 18, 3) := by decide +kernel
theorem dX2_isWeightOnlyWhereTight_7 : decode cX2_isWeightOnlyWhereTight 7 = .ok (.getfield 28, 3) := by decide +kernel
theorem dX2_isWeightOnlyWhereTight_10 : decode cX2_isWeightOnlyWhereTight 10 = .ok (.if_icmp .ge 35, 3) := by decide +kernel
theorem dX2_isWeightOnlyWhereTight_13 : decode cX2_isWeightOnlyWhereTight 13 = .ok (.aload_n 0, 1) := by decide +kernel
theorem dX2_isWeightOnlyWhereTight_14 : decode cX2_isWeightOnlyWhereTight 14 = .ok (.getfield 12, 3) := by decide +kernel
theorem dX2_isWeightOnlyWhereTight_17 : decode cX2_isWeightOnlyWhereTight 17 = .ok (.getfield 53, 3) := by decide +kernel
theorem dX2_isWeightOnlyWhereTight_20 : decode cX2_isWeightOnlyWhereTight 20 = .ok (.iload_n 1, 1) := by decide +kernel
theorem dX2_isWeightOnlyWhereTight_21 : decode cX2_isWeightOnlyWhereTight 21 = .ok (.laload, 1) := by decide +kernel
theorem dX2_isWeightOnlyWhereTight_22 : decode cX2_isWeightOnlyWhereTight 22 = .ok (.lconst 0, 1) := by decide +kernel
theorem dX2_isWeightOnlyWhereTight_23 : decode cX2_isWeightOnlyWhereTight 23 = .ok (.lcmp, 1) := by decide +kernel
theorem dX2_isWeightOnlyWhereTight_24 : decode cX2_isWeightOnlyWhereTight 24 = .ok (.ifCond .eq 15, 3) := by decide +kernel
theorem dX2_isWeightOnlyWhereTight_27 : decode cX2_isWeightOnlyWhereTight 27 = .ok (.aload_n 0, 1) := by decide +kernel
theorem dX2_isWeightOnlyWhereTight_28 : decode cX2_isWeightOnlyWhereTight 28 = .ok (.iload_n 1, 1) := by decide +kernel
theorem dX2_isWeightOnlyWhereTight_29 : decode cX2_isWeightOnlyWhereTight 29 = .ok (.invokevirtual 108, 3) := by decide +kernel
theorem dX2_isWeightOnlyWhereTight_32 : decode cX2_isWeightOnlyWhereTight 32 = .ok (.lconst 0, 1) := by decide +kernel
theorem dX2_isWeightOnlyWhereTight_33 : decode cX2_isWeightOnlyWhereTight 33 = .ok (.lcmp, 1) := by decide +kernel
theorem dX2_isWeightOnlyWhereTight_34 : decode cX2_isWeightOnlyWhereTight 34 = .ok (.ifCond .eq 5, 3) := by decide +kernel
theorem dX2_isWeightOnlyWhereTight_37 : decode cX2_isWeightOnlyWhereTight 37 = .ok (.iconst 0, 1) := by decide +kernel
theorem dX2_isWeightOnlyWhereTight_38 : decode cX2_isWeightOnlyWhereTight 38 = .ok (.ireturn, 1) := by decide +kernel
theorem dX2_isWeightOnlyWhereTight_39 : decode cX2_isWeightOnlyWhereTight 39 = .ok (.iinc 1 1, 3) := by decide +kernel
theorem dX2_isWeightOnlyWhereTight_42 : decode cX2_isWeightOnlyWhereTight 42 = .ok (.goto (-40), 3) := by decide +kernel
theorem dX2_isWeightOnlyWhereTight_45 : decode cX2_isWeightOnlyWhereTight 45 = .ok (.iconst 1, 1) := by decide +kernel
theorem dX2_isWeightOnlyWhereTight_46 : decode cX2_isWeightOnlyWhereTight 46 = .ok (.ireturn, 1) := by decide +kernel
theorem dX3_told_0 : decode cX3_told 0 = .ok (.lload_n 2, 1) := by decide +kernel
theorem dX3_told_1 : decode cX3_told 1 = .ok (.lload_n 0, 1) := by decide +kernel
theorem dX3_told_2 : decode cX3_told 2 = .ok (.invokestatic 7, 3) := by decide +kernel
theorem dX3_told_5 : decode cX3_told 5 = .ok (.lstore 5, 2) := by decide +kernel
theorem dX3_told_7 : decode cX3_told 7 = .ok (.lload 5, 2) := by decide +kernel
theorem dX3_told_9 : decode cX3_told 9 = .ok (.lconst 0, 1) := by decide +kernel
theorem dX3_told_10 : decode cX3_told 10 = .ok (.lcmp, 1) := by decide +kernel
theorem dX3_told_11 : decode cX3_told 11 = .ok (.ifCond .ne 5, 3) := by decide +kernel
theorem dX3_told_14 : decode cX3_told 14 = .ok (.lconst 0, 1) := by decide +kernel
theorem dX3_told_15 : decode cX3_told 15 = .ok (.lreturn, 1) := by decide +kernel
theorem dX3_told_16 : decode cX3_told 16 = .ok (.iload 4, 2) := by decide +kernel
theorem dX3_told_18 : decode cX3_told 18 = .ok (.ifCond .ne 7, 3) := by decide +kernel
theorem dX3_told_21 : decode cX3_told 21 = .ok (.lload_n 0, 1) := by decide +kernel
theorem dX3_told_22 : decode cX3_told 22 = .ok (.goto 4, 3) := by decide +kernel
theorem dX3_told_25 : decode cX3_told 25 = .ok (.lload_n 2, 1) := by decide +kernel
theorem dX3_told_26 : decode cX3_told 26 = .ok (.lload 5, 2) := by decide +kernel
theorem dX3_told_28 : decode cX3_told 28 = .ok (.ldiv, 1) := by decide +kernel
theorem dX3_told_29 : decode cX3_told 29 = .ok (.lreturn, 1) := by decide +kernel
theorem dX3_shared_0 : decode cX3_shared 0 = .ok (.lload_n 0, 1) := by decide +kernel
theorem dX3_shared_1 : decode cX3_shared 1 = .ok (.invokestatic 13, 3) := by decide +kernel
theorem dX3_shared_4 : decode cX3_shared 4 = .ok (.lstore 4, 2) := by decide +kernel
theorem dX3_shared_6 : decode cX3_shared 6 = .ok (.lload_n 2, 1) := by decide +kernel
theorem dX3_shared_7 : decode cX3_shared 7 = .ok (.invokestatic 13, 3) := by decide +kernel
theorem dX3_shared_10 : decode cX3_shared 10 = .ok (.lstore 6, 2) := by decide +kernel
theorem dX3_shared_12 : decode cX3_shared 12 = .ok (.iconst 0, 1) := by decide +kernel
theorem dX3_shared_13 : decode cX3_shared 13 = .ok (.istore 8, 2) := by decide +kernel
theorem dX3_shared_15 : decode cX3_shared 15 = .ok (.iload 8, 2) := by decide +kernel
theorem dX3_shared_17 : decode cX3_shared 17 = .ok (.bipush 100, 2) := by decide +kernel
theorem dX3_shared_19 : decode cX3_shared 19 = .ok (.if_icmp .ge 31, 3) := by decide +kernel
theorem dX3_shared_22 : decode cX3_shared 22 = .ok (.lload 6, 2) := by decide +kernel
theorem dX3_shared_24 : decode cX3_shared 24 = .ok (.lconst 0, 1) := by decide +kernel
theorem dX3_shared_25 : decode cX3_shared 25 = .ok (.lcmp, 1) := by decide +kernel
theorem dX3_shared_26 : decode cX3_shared 26 = .ok (.ifCond .eq 24, 3) := by decide +kernel
theorem dX3_shared_29 : decode cX3_shared 29 = .ok (.lload 4, 2) := by decide +kernel
theorem dX3_shared_31 : decode cX3_shared 31 = .ok (.lload 6, 2) := by decide +kernel
theorem dX3_shared_33 : decode cX3_shared 33 = .ok (.lrem, 1) := by decide +kernel
theorem dX3_shared_34 : decode cX3_shared 34 = .ok (.lstore 9, 2) := by decide +kernel
theorem dX3_shared_36 : decode cX3_shared 36 = .ok (.lload 6, 2) := by decide +kernel
theorem dX3_shared_38 : decode cX3_shared 38 = .ok (.lstore 4, 2) := by decide +kernel
theorem dX3_shared_40 : decode cX3_shared 40 = .ok (.lload 9, 2) := by decide +kernel
theorem dX3_shared_42 : decode cX3_shared 42 = .ok (.lstore 6, 2) := by decide +kernel
theorem dX3_shared_44 : decode cX3_shared 44 = .ok (.iinc 8 1, 3) := by decide +kernel
theorem dX3_shared_47 : decode cX3_shared 47 = .ok (.goto (-32), 3) := by decide +kernel
theorem dX3_shared_50 : decode cX3_shared 50 = .ok (.lload 4, 2) := by decide +kernel
theorem dX3_shared_52 : decode cX3_shared 52 = .ok (.lreturn, 1) := by decide +kernel
theorem dX3_isLess_0 : decode cX3_isLess 0 = .ok (.lload_n 0, 1) := by decide +kernel
theorem dX3_isLess_1 : decode cX3_isLess 1 = .ok (.lstore 8, 2) := by decide +kernel
theorem dX3_isLess_3 : decode cX3_isLess 3 = .ok (.lload_n 2, 1) := by decide +kernel
theorem dX3_isLess_4 : decode cX3_isLess 4 = .ok (.lstore 10, 2) := by decide +kernel
theorem dX3_isLess_6 : decode cX3_isLess 6 = .ok (.lload 4, 2) := by decide +kernel
theorem dX3_isLess_8 : decode cX3_isLess 8 = .ok (.lstore 12, 2) := by decide +kernel
theorem dX3_isLess_10 : decode cX3_isLess 10 = .ok (.lload 6, 2) := by decide +kernel
theorem dX3_isLess_12 : decode cX3_isLess 12 = .ok (.lstore 14, 2) := by decide +kernel
theorem dX3_isLess_14 : decode cX3_isLess 14 = .ok (.iconst 0, 1) := by decide +kernel
theorem dX3_isLess_15 : decode cX3_isLess 15 = .ok (.istore 16, 2) := by decide +kernel
theorem dX3_isLess_17 : decode cX3_isLess 17 = .ok (.iload 16, 2) := by decide +kernel
theorem dX3_isLess_19 : decode cX3_isLess 19 = .ok (.bipush 100, 2) := by decide +kernel
theorem dX3_isLess_21 : decode cX3_isLess 21 = .ok (.if_icmp .ge 133, 3) := by decide +kernel
theorem dX3_isLess_24 : decode cX3_isLess 24 = .ok (.lload 10, 2) := by decide +kernel
theorem dX3_isLess_26 : decode cX3_isLess 26 = .ok (.lconst 0, 1) := by decide +kernel
theorem dX3_isLess_27 : decode cX3_isLess 27 = .ok (.lcmp, 1) := by decide +kernel
theorem dX3_isLess_28 : decode cX3_isLess 28 = .ok (.ifCond .le 126, 3) := by decide +kernel
theorem dX3_isLess_31 : decode cX3_isLess 31 = .ok (.lload 14, 2) := by decide +kernel
theorem dX3_isLess_33 : decode cX3_isLess 33 = .ok (.lconst 0, 1) := by decide +kernel
theorem dX3_isLess_34 : decode cX3_isLess 34 = .ok (.lcmp, 1) := by decide +kernel
theorem dX3_isLess_35 : decode cX3_isLess 35 = .ok (.ifCond .le 119, 3) := by decide +kernel
theorem dX3_isLess_38 : decode cX3_isLess 38 = .ok (.lload 8, 2) := by decide +kernel
theorem dX3_isLess_40 : decode cX3_isLess 40 = .ok (.lload 10, 2) := by decide +kernel
theorem dX3_isLess_42 : decode cX3_isLess 42 = .ok (.invokestatic 19, 3) := by decide +kernel
theorem dX3_isLess_45 : decode cX3_isLess 45 = .ok (.lstore 17, 2) := by decide +kernel
theorem dX3_isLess_47 : decode cX3_isLess 47 = .ok (.lload 12, 2) := by decide +kernel
theorem dX3_isLess_49 : decode cX3_isLess 49 = .ok (.lload 14, 2) := by decide +kernel
theorem dX3_isLess_51 : decode cX3_isLess 51 = .ok (.invokestatic 19, 3) := by decide +kernel
theorem dX3_isLess_54 : decode cX3_isLess 54 = .ok (.lstore 19, 2) := by decide +kernel
theorem dX3_isLess_56 : decode cX3_isLess 56 = .ok (.lload 17, 2) := by decide +kernel
theorem dX3_isLess_58 : decode cX3_isLess 58 = .ok (.lload 19, 2) := by decide +kernel
theorem dX3_isLess_60 : decode cX3_isLess 60 = .ok (.lcmp, 1) := by decide +kernel
theorem dX3_isLess_61 : decode cX3_isLess 61 = .ok (.ifCond .eq 17, 3) := by decide +kernel
theorem dX3_isLess_64 : decode cX3_isLess 64 = .ok (.lload 17, 2) := by decide +kernel
theorem dX3_isLess_66 : decode cX3_isLess 66 = .ok (.lload 19, 2) := by decide +kernel
theorem dX3_isLess_68 : decode cX3_isLess 68 = .ok (.lcmp, 1) := by decide +kernel
theorem dX3_isLess_69 : decode cX3_isLess 69 = .ok (.ifCond .ge 7, 3) := by decide +kernel
theorem dX3_isLess_72 : decode cX3_isLess 72 = .ok (.iconst 1, 1) := by decide +kernel
theorem dX3_isLess_73 : decode cX3_isLess 73 = .ok (.goto 4, 3) := by decide +kernel
theorem dX3_isLess_76 : decode cX3_isLess 76 = .ok (.iconst 0, 1) := by decide +kernel
theorem dX3_isLess_77 : decode cX3_isLess 77 = .ok (.ireturn, 1) := by decide +kernel
theorem dX3_isLess_78 : decode cX3_isLess 78 = .ok (.lload 8, 2) := by decide +kernel
theorem dX3_isLess_80 : decode cX3_isLess 80 = .ok (.lload 17, 2) := by decide +kernel
theorem dX3_isLess_82 : decode cX3_isLess 82 = .ok (.lload 10, 2) := by decide +kernel
theorem dX3_isLess_84 : decode cX3_isLess 84 = .ok (.lmul, 1) := by decide +kernel
theorem dX3_isLess_85 : decode cX3_isLess 85 = .ok (.lsub, 1) := by decide +kernel
theorem dX3_isLess_86 : decode cX3_isLess 86 = .ok (.lstore 21, 2) := by decide +kernel
theorem dX3_isLess_88 : decode cX3_isLess 88 = .ok (.lload 12, 2) := by decide +kernel
theorem dX3_isLess_90 : decode cX3_isLess 90 = .ok (.lload 19, 2) := by decide +kernel
theorem dX3_isLess_92 : decode cX3_isLess 92 = .ok (.lload 14, 2) := by decide +kernel
theorem dX3_isLess_94 : decode cX3_isLess 94 = .ok (.lmul, 1) := by decide +kernel
theorem dX3_isLess_95 : decode cX3_isLess 95 = .ok (.lsub, 1) := by decide +kernel
theorem dX3_isLess_96 : decode cX3_isLess 96 = .ok (.lstore 23, 2) := by decide +kernel
theorem dX3_isLess_98 : decode cX3_isLess 98 = .ok (.lload 21, 2) := by decide +kernel
theorem dX3_isLess_100 : decode cX3_isLess 100 = .ok (.lconst 0, 1) := by decide +kernel
theorem dX3_isLess_101 : decode cX3_isLess 101 = .ok (.lcmp, 1) := by decide +kernel
theorem dX3_isLess_102 : decode cX3_isLess 102 = .ok (.ifCond .eq 10, 3) := by decide +kernel
theorem dX3_isLess_105 : decode cX3_isLess 105 = .ok (.lload 23, 2) := by decide +kernel
theorem dX3_isLess_107 : decode cX3_isLess 107 = .ok (.lconst 0, 1) := by decide +kernel
theorem dX3_isLess_108 : decode cX3_isLess 108 = .ok (.lcmp, 1) := by decide +kernel
theorem dX3_isLess_109 : decode cX3_isLess 109 = .ok (.ifCond .ne 23, 3) := by decide +kernel
theorem dX3_isLess_112 : decode cX3_isLess 112 = .ok (.lload 21, 2) := by decide +kernel
theorem dX3_isLess_114 : decode cX3_isLess 114 = .ok (.lconst 0, 1) := by decide +kernel
theorem dX3_isLess_115 : decode cX3_isLess 115 = .ok (.lcmp, 1) := by decide +kernel
theorem dX3_isLess_116 : decode cX3_isLess 116 = .ok (.ifCond .ne 14, 3) := by decide +kernel
theorem dX3_isLess_119 : decode cX3_isLess 119 = .ok (.lload 23, 2) := by decide +kernel
theorem dX3_isLess_121 : decode cX3_isLess 121 = .ok (.lconst 0, 1) := by decide +kernel
theorem dX3_isLess_122 : decode cX3_isLess 122 = .ok (.lcmp, 1) := by decide +kernel
theorem dX3_isLess_123 : decode cX3_isLess 123 = .ok (.ifCond .eq 7, 3) := by decide +kernel
theorem dX3_isLess_126 : decode cX3_isLess 126 = .ok (.iconst 1, 1) := by decide +kernel
theorem dX3_isLess_127 : decode cX3_isLess 127 = .ok (.goto 4, 3) := by decide +kernel
theorem dX3_isLess_130 : decode cX3_isLess 130 = .ok (.iconst 0, 1) := by decide +kernel
theorem dX3_isLess_131 : decode cX3_isLess 131 = .ok (.ireturn, 1) := by decide +kernel
theorem dX3_isLess_132 : decode cX3_isLess 132 = .ok (.lload 14, 2) := by decide +kernel
theorem dX3_isLess_134 : decode cX3_isLess 134 = .ok (.lstore 8, 2) := by decide +kernel
theorem dX3_isLess_136 : decode cX3_isLess 136 = .ok (.lload 10, 2) := by decide +kernel
theorem dX3_isLess_138 : decode cX3_isLess 138 = .ok (.lstore 12, 2) := by decide +kernel
theorem dX3_isLess_140 : decode cX3_isLess 140 = .ok (.lload 21, 2) := by decide +kernel
theorem dX3_isLess_142 : decode cX3_isLess 142 = .ok (.lstore 14, 2) := by decide +kernel
theorem dX3_isLess_144 : decode cX3_isLess 144 = .ok (.lload 23, 2) := by decide +kernel
theorem dX3_isLess_146 : decode cX3_isLess 146 = .ok (.lstore 10, 2) := by decide +kernel
theorem dX3_isLess_148 : decode cX3_isLess 148 = .ok (.iinc 16 1, 3) := by decide +kernel
theorem dX3_isLess_151 : decode cX3_isLess 151 = .ok (.goto (-134), 3) := by decide +kernel
theorem dX3_isLess_154 : decode cX3_isLess 154 = .ok (.iconst 0, 1) := by decide +kernel
theorem dX3_isLess_155 : decode cX3_isLess 155 = .ok (.ireturn, 1) := by decide +kernel
theorem dX4_init_0 : decode cX4_init 0 = .ok (.aload_n 0, 1) := by decide +kernel
theorem dX4_init_1 : decode cX4_init 1 = .ok (.invokespecial 3, 3) := by decide +kernel
theorem dX4_init_4 : decode cX4_init 4 = .ok (.aload_n 0, 1) := by decide +kernel
theorem dX4_init_5 : decode cX4_init 5 = .ok (.iconst 3, 1) := by decide +kernel
theorem dX4_init_6 : decode cX4_init 6 = .ok (.newarray .long, 2) := by decide +kernel
theorem dX4_init_8 : decode cX4_init 8 = .ok (.putfield 9, 3) := by decide +kernel
theorem dX4_init_11 : decode cX4_init 11 = .ok (.aload_n 0, 1) := by decide +kernel
theorem dX4_init_12 : decode cX4_init 12 = .ok (.bipush 6, 2) := by decide +kernel
theorem dX4_init_14 : decode cX4_init 14 = .ok (.newarray .long, 2) := by decide +kernel
theorem dX4_init_16 : decode cX4_init 16 = .ok (.putfield 15, 3) := by decide +kernel
theorem dX4_init_19 : decode cX4_init 19 = .ok (.aload_n 0, 1) := by decide +kernel
theorem dX4_init_20 : decode cX4_init 20 = .ok (.lconst 1, 1) := by decide +kernel
theorem dX4_init_21 : decode cX4_init 21 = .ok (.putfield 18, 3) := by decide +kernel
theorem dX4_init_24 : decode cX4_init 24 = .ok (.return_, 1) := by decide +kernel
theorem dX5_init_0 : decode cX5_init 0 = .ok (.aload_n 0, 1) := by decide +kernel
theorem dX5_init_1 : decode cX5_init 1 = .ok (.invokespecial 3, 3) := by decide +kernel
theorem dX5_init_4 : decode cX5_init 4 = .ok (.aload_n 0, 1) := by decide +kernel
theorem dX5_init_5 : decode cX5_init 5 = .ok (.iconst 4, 1) := by decide +kernel
theorem dX5_init_6 : decode cX5_init 6 = .ok (.newarray .int, 2) := by decide +kernel
theorem dX5_init_8 : decode cX5_init 8 = .ok (.putfield 9, 3) := by decide +kernel
theorem dX5_init_11 : decode cX5_init 11 = .ok (.aload_n 0, 1) := by decide +kernel
theorem dX5_init_12 : decode cX5_init 12 = .ok (.iconst 4, 1) := by decide +kernel
theorem dX5_init_13 : decode cX5_init 13 = .ok (.newarray .int, 2) := by decide +kernel
theorem dX5_init_15 : decode cX5_init 15 = .ok (.putfield 15, 3) := by decide +kernel
theorem dX5_init_18 : decode cX5_init 18 = .ok (.aload_n 0, 1) := by decide +kernel
theorem dX5_init_19 : decode cX5_init 19 = .ok (.bipush 48, 2) := by decide +kernel
theorem dX5_init_21 : decode cX5_init 21 = .ok (.newarray .long, 2) := by decide +kernel
theorem dX5_init_23 : decode cX5_init 23 = .ok (.putfield 18, 3) := by decide +kernel
theorem dX5_init_26 : decode cX5_init 26 = .ok (.aload_n 0, 1) := by decide +kernel
theorem dX5_init_27 : decode cX5_init 27 = .ok (.getfield 9, 3) := by decide +kernel
theorem dX5_init_30 : decode cX5_init 30 = .ok (.iconst (-1), 1) := by decide +kernel
theorem dX5_init_31 : decode cX5_init 31 = .ok (.invokestatic 22, 3) := by decide +kernel
theorem dX5_init_34 : decode cX5_init 34 = .ok (.return_, 1) := by decide +kernel
theorem dX5_begin_0 : decode cX5_begin 0 = .ok (.aload_n 0, 1) := by decide +kernel
theorem dX5_begin_1 : decode cX5_begin 1 = .ok (.getfield 9, 3) := by decide +kernel
theorem dX5_begin_4 : decode cX5_begin 4 = .ok (.iload_n 1, 1) := by decide +kernel
theorem dX5_begin_5 : decode cX5_begin 5 = .ok (.iload_n 2, 1) := by decide +kernel
theorem dX5_begin_6 : decode cX5_begin 6 = .ok (.iastore, 1) := by decide +kernel
theorem dX5_begin_7 : decode cX5_begin 7 = .ok (.aload_n 0, 1) := by decide +kernel
theorem dX5_begin_8 : decode cX5_begin 8 = .ok (.getfield 15, 3) := by decide +kernel
theorem dX5_begin_11 : decode cX5_begin 11 = .ok (.iload_n 1, 1) := by decide +kernel
theorem dX5_begin_12 : decode cX5_begin 12 = .ok (.iload_n 3, 1) := by decide +kernel
theorem dX5_begin_13 : decode cX5_begin 13 = .ok (.iastore, 1) := by decide +kernel
theorem dX5_begin_14 : decode cX5_begin 14 = .ok (.iconst 0, 1) := by decide +kernel
theorem dX5_begin_15 : decode cX5_begin 15 = .ok (.istore 4, 2) := by decide +kernel
theorem dX5_begin_17 : decode cX5_begin 17 = .ok (.iload 4, 2) := by decide +kernel
theorem dX5_begin_19 : decode cX5_begin 19 = .ok (.bipush 12, 2) := by decide +kernel
theorem dX5_begin_21 : decode cX5_begin 21 = .ok (.if_icmp .ge 17, 3) := by decide +kernel
theorem dX5_begin_24 : decode cX5_begin 24 = .ok (.aload_n 0, 1) := by decide +kernel
theorem dX5_begin_25 : decode cX5_begin 25 = .ok (.iload_n 1, 1) := by decide +kernel
theorem dX5_begin_26 : decode cX5_begin 26 = .ok (.iload 4, 2) := by decide +kernel
theorem dX5_begin_28 : decode cX5_begin 28 = .ok (.lconst 0, 1) := by decide +kernel
theorem dX5_begin_29 : decode cX5_begin 29 = .ok (.invokevirtual 28, 3) := by decide +kernel
theorem dX5_begin_32 : decode cX5_begin 32 = .ok (.iinc 4 1, 3) := by decide +kernel
theorem dX5_begin_35 : decode cX5_begin 35 = .ok (.goto (-18), 3) := by decide +kernel
theorem dX5_begin_38 : decode cX5_begin 38 = .ok (.return_, 1) := by decide +kernel
theorem dX5_at_0 : decode cX5_at 0 = .ok (.aload_n 0, 1) := by decide +kernel
theorem dX5_at_1 : decode cX5_at 1 = .ok (.getfield 18, 3) := by decide +kernel
theorem dX5_at_4 : decode cX5_at 4 = .ok (.iload_n 1, 1) := by decide +kernel
theorem dX5_at_5 : decode cX5_at 5 = .ok (.bipush 12, 2) := by decide +kernel
theorem dX5_at_7 : decode cX5_at 7 = .ok (.imul, 1) := by decide +kernel
theorem dX5_at_8 : decode cX5_at 8 = .ok (.iload_n 2, 1) := by decide +kernel
theorem dX5_at_9 : decode cX5_at 9 = .ok (.iadd, 1) := by decide +kernel
theorem dX5_at_10 : decode cX5_at 10 = .ok (.laload, 1) := by decide +kernel
theorem dX5_at_11 : decode cX5_at 11 = .ok (.lreturn, 1) := by decide +kernel
theorem dX5_put_0 : decode cX5_put 0 = .ok (.aload_n 0, 1) := by decide +kernel
theorem dX5_put_1 : decode cX5_put 1 = .ok (.getfield 18, 3) := by decide +kernel
theorem dX5_put_4 : decode cX5_put 4 = .ok (.iload_n 1, 1) := by decide +kernel
theorem dX5_put_5 : decode cX5_put 5 = .ok (.bipush 12, 2) := by decide +kernel
theorem dX5_put_7 : decode cX5_put 7 = .ok (.imul, 1) := by decide +kernel
theorem dX5_put_8 : decode cX5_put 8 = .ok (.iload_n 2, 1) := by decide +kernel
theorem dX5_put_9 : decode cX5_put 9 = .ok (.iadd, 1) := by decide +kernel
theorem dX5_put_10 : decode cX5_put 10 = .ok (.lload_n 3, 1) := by decide +kernel
theorem dX5_put_11 : decode cX5_put 11 = .ok (.lastore, 1) := by decide +kernel
theorem dX5_put_12 : decode cX5_put 12 = .ok (.return_, 1) := by decide +kernel
theorem dX5_hasRoom_0 : decode cX5_hasRoom 0 = .ok (.iload_n 3, 1) := by decide +kernel
theorem dX5_hasRoom_1 : decode cX5_hasRoom 1 = .ok (.ifCond .lt 33, 3) := by decide +kernel
theorem dX5_hasRoom_4 : decode cX5_hasRoom 4 = .ok (.iload_n 2, 1) := by decide +kernel
theorem dX5_hasRoom_5 : decode cX5_hasRoom 5 = .ok (.ifCond .lt 29, 3) := by decide +kernel
theorem dX5_hasRoom_8 : decode cX5_hasRoom 8 = .ok (.iload_n 2, 1) := by decide +kernel
theorem dX5_hasRoom_9 : decode cX5_hasRoom 9 = .ok (.aload_n 0, 1) := by decide +kernel
theorem dX5_hasRoom_10 : decode cX5_hasRoom 10 = .ok (.getfield 15, 3) := by decide +kernel
theorem dX5_hasRoom_13 : decode cX5_hasRoom 13 = .ok (.iload_n 1, 1) := by decide +kernel
theorem dX5_hasRoom_14 : decode cX5_hasRoom 14 = .ok (.iaload, 1) := by decide +kernel
theorem dX5_hasRoom_15 : decode cX5_hasRoom 15 = .ok (.if_icmp .gt 19, 3) := by decide +kernel
theorem dX5_hasRoom_18 : decode cX5_hasRoom 18 = .ok (.iload_n 3, 1) := by decide +kernel
theorem dX5_hasRoom_19 : decode cX5_hasRoom 19 = .ok (.aload_n 0, 1) := by decide +kernel
theorem dX5_hasRoom_20 : decode cX5_hasRoom 20 = .ok (.getfield 15, 3) := by decide +kernel
theorem dX5_hasRoom_23 : decode cX5_hasRoom 23 = .ok (.iload_n 1, 1) := by decide +kernel
theorem dX5_hasRoom_24 : decode cX5_hasRoom 24 = .ok (.iaload, 1) := by decide +kernel
theorem dX5_hasRoom_25 : decode cX5_hasRoom 25 = .ok (.iload_n 2, 1) := by decide +kernel
theorem dX5_hasRoom_26 : decode cX5_hasRoom 26 = .ok (.isub, 1) := by decide +kernel
theorem dX5_hasRoom_27 : decode cX5_hasRoom 27 = .ok (.if_icmp .gt 7, 3) := by decide +kernel
theorem dX5_hasRoom_30 : decode cX5_hasRoom 30 = .ok (.iconst 1, 1) := by decide +kernel
theorem dX5_hasRoom_31 : decode cX5_hasRoom 31 = .ok (.goto 4, 3) := by decide +kernel
theorem dX5_hasRoom_34 : decode cX5_hasRoom 34 = .ok (.iconst 0, 1) := by decide +kernel
theorem dX5_hasRoom_35 : decode cX5_hasRoom 35 = .ok (.ireturn, 1) := by decide +kernel
theorem dX5_move_0 : decode cX5_move 0 = .ok (.aload_n 0, 1) := by decide +kernel
theorem dX5_move_1 : decode cX5_move 1 = .ok (.getfield 18, 3) := by decide +kernel
theorem dX5_move_4 : decode cX5_move 4 = .ok (.iload_n 1, 1) := by decide +kernel
theorem dX5_move_5 : decode cX5_move 5 = .ok (.bipush 12, 2) := by decide +kernel
theorem dX5_move_7 : decode cX5_move 7 = .ok (.imul, 1) := by decide +kernel
theorem dX5_move_8 : decode cX5_move 8 = .ok (.iload_n 2, 1) := by decide +kernel
theorem dX5_move_9 : decode cX5_move 9 = .ok (.iadd, 1) := by decide +kernel
theorem dX5_move_10 : decode cX5_move 10 = .ok (.aload_n 0, 1) := by decide +kernel
theorem dX5_move_11 : decode cX5_move 11 = .ok (.getfield 18, 3) := by decide +kernel
theorem dX5_move_14 : decode cX5_move 14 = .ok (.iload_n 3, 1) := by decide +kernel
theorem dX5_move_15 : decode cX5_move 15 = .ok (.bipush 12, 2) := by decide +kernel
theorem dX5_move_17 : decode cX5_move 17 = .ok (.imul, 1) := by decide +kernel
theorem dX5_move_18 : decode cX5_move 18 = .ok (.iload 4, 2) := by decide +kernel
theorem dX5_move_20 : decode cX5_move 20 = .ok (.iadd, 1) := by decide +kernel
theorem dX5_move_21 : decode cX5_move 21 = .ok (.iload 5, 2) := by decide +kernel
theorem dX5_move_23 : decode cX5_move 23 = .ok (.invokestatic 32, 3) := by decide +kernel
theorem dX5_move_26 : decode cX5_move 26 = .ok (.return_, 1) := by decide +kernel
theorem dX5_isAllWithin_0 : decode cX5_isAllWithin 0 = .ok (.iconst 0, 1) := by decide +kernel
theorem dX5_isAllWithin_1 : decode cX5_isAllWithin 1 = .ok (.istore 4, 2) := by decide +kernel
theorem dX5_isAllWithin_3 : decode cX5_isAllWithin 3 = .ok (.iload 4, 2) := by decide +kernel
theorem dX5_isAllWithin_5 : decode cX5_isAllWithin 5 = .ok (.aload_n 0, 1) := by decide +kernel
theorem dX5_isAllWithin_6 : decode cX5_isAllWithin 6 = .ok (.getfield 15, 3) := by decide +kernel
theorem dX5_isAllWithin_9 : decode cX5_isAllWithin 9 = .ok (.iload_n 1, 1) := by decide +kernel
theorem dX5_isAllWithin_10 : decode cX5_isAllWithin 10 = .ok (.iaload, 1) := by decide +kernel
theorem dX5_isAllWithin_11 : decode cX5_isAllWithin 11 = .ok (.if_icmp .ge 36, 3) := by decide +kernel
theorem dX5_isAllWithin_14 : decode cX5_isAllWithin 14 = .ok (.aload_n 0, 1) := by decide +kernel
theorem dX5_isAllWithin_15 : decode cX5_isAllWithin 15 = .ok (.iload_n 1, 1) := by decide +kernel
theorem dX5_isAllWithin_16 : decode cX5_isAllWithin 16 = .ok (.iload 4, 2) := by decide +kernel
theorem dX5_isAllWithin_18 : decode cX5_isAllWithin 18 = .ok (.invokevirtual 38, 3) := by decide +kernel
theorem dX5_isAllWithin_21 : decode cX5_isAllWithin 21 = .ok (.lload_n 2, 1) := by decide +kernel
theorem dX5_isAllWithin_22 : decode cX5_isAllWithin 22 = .ok (.lneg, 1) := by decide +kernel
theorem dX5_isAllWithin_23 : decode cX5_isAllWithin 23 = .ok (.lcmp, 1) := by decide +kernel
theorem dX5_isAllWithin_24 : decode cX5_isAllWithin 24 = .ok (.ifCond .lt 15, 3) := by decide +kernel
theorem dX5_isAllWithin_27 : decode cX5_isAllWithin 27 = .ok (.aload_n 0, 1) := by decide +kernel
theorem dX5_isAllWithin_28 : decode cX5_isAllWithin 28 = .ok (.iload_n 1, 1) := by decide +kernel
theorem dX5_isAllWithin_29 : decode cX5_isAllWithin 29 = .ok (.iload 4, 2) := by decide +kernel
theorem dX5_isAllWithin_31 : decode cX5_isAllWithin 31 = .ok (.invokevirtual 38, 3) := by decide +kernel
theorem dX5_isAllWithin_34 : decode cX5_isAllWithin 34 = .ok (.lload_n 2, 1) := by decide +kernel
theorem dX5_isAllWithin_35 : decode cX5_isAllWithin 35 = .ok (.lcmp, 1) := by decide +kernel
theorem dX5_isAllWithin_36 : decode cX5_isAllWithin 36 = .ok (.ifCond .le 5, 3) := by decide +kernel
theorem dX5_isAllWithin_39 : decode cX5_isAllWithin 39 = .ok (.iconst 0, 1) := by decide +kernel
theorem dX5_isAllWithin_40 : decode cX5_isAllWithin 40 = .ok (.ireturn, 1) := by decide +kernel
theorem dX5_isAllWithin_41 : decode cX5_isAllWithin 41 = .ok (.iinc 4 1, 3) := by decide +kernel
theorem dX5_isAllWithin_44 : decode cX5_isAllWithin 44 = .ok (.goto (-41), 3) := by decide +kernel
theorem dX5_isAllWithin_47 : decode cX5_isAllWithin 47 = .ok (.iconst 1, 1) := by decide +kernel
theorem dX5_isAllWithin_48 : decode cX5_isAllWithin 48 = .ok (.ireturn, 1) := by decide +kernel
theorem dJ6_bitCount_0f7a4_0 : decode cJ6_bitCount_0f7a4 0 = .ok (.iload_n 0, 1) := by decide +kernel
theorem dJ6_bitCount_0f7a4_1 : decode cJ6_bitCount_0f7a4 1 = .ok (.iload_n 0, 1) := by decide +kernel
theorem dJ6_bitCount_0f7a4_2 : decode cJ6_bitCount_0f7a4 2 = .ok (.iconst 1, 1) := by decide +kernel
theorem dJ6_bitCount_0f7a4_3 : decode cJ6_bitCount_0f7a4 3 = .ok (.iushr, 1) := by decide +kernel
theorem dJ6_bitCount_0f7a4_4 : decode cJ6_bitCount_0f7a4 4 = .ok (.ldc_w 265, 3) := by decide +kernel
theorem dJ6_bitCount_0f7a4_7 : decode cJ6_bitCount_0f7a4 7 = .ok (.iand, 1) := by decide +kernel
theorem dJ6_bitCount_0f7a4_8 : decode cJ6_bitCount_0f7a4 8 = .ok (.isub, 1) := by decide +kernel
theorem dJ6_bitCount_0f7a4_9 : decode cJ6_bitCount_0f7a4 9 = .ok (.istore_n 0, 1) := by decide +kernel
theorem dJ6_bitCount_0f7a4_10 : decode cJ6_bitCount_0f7a4 10 = .ok (.iload_n 0, 1) := by decide +kernel
theorem dJ6_bitCount_0f7a4_11 : decode cJ6_bitCount_0f7a4 11 = .ok (.ldc_w 266, 3) := by decide +kernel
theorem dJ6_bitCount_0f7a4_14 : decode cJ6_bitCount_0f7a4 14 = .ok (.iand, 1) := by decide +kernel
theorem dJ6_bitCount_0f7a4_15 : decode cJ6_bitCount_0f7a4 15 = .ok (.iload_n 0, 1) := by decide +kernel
theorem dJ6_bitCount_0f7a4_16 : decode cJ6_bitCount_0f7a4 16 = .ok (.iconst 2, 1) := by decide +kernel
theorem dJ6_bitCount_0f7a4_17 : decode cJ6_bitCount_0f7a4 17 = .ok (.iushr, 1) := by decide +kernel
theorem dJ6_bitCount_0f7a4_18 : decode cJ6_bitCount_0f7a4 18 = .ok (.ldc_w 266, 3) := by decide +kernel
theorem dJ6_bitCount_0f7a4_21 : decode cJ6_bitCount_0f7a4 21 = .ok (.iand, 1) := by decide +kernel
theorem dJ6_bitCount_0f7a4_22 : decode cJ6_bitCount_0f7a4 22 = .ok (.iadd, 1) := by decide +kernel
theorem dJ6_bitCount_0f7a4_23 : decode cJ6_bitCount_0f7a4 23 = .ok (.istore_n 0, 1) := by decide +kernel
theorem dJ6_bitCount_0f7a4_24 : decode cJ6_bitCount_0f7a4 24 = .ok (.iload_n 0, 1) := by decide +kernel
theorem dJ6_bitCount_0f7a4_25 : decode cJ6_bitCount_0f7a4 25 = .ok (.iload_n 0, 1) := by decide +kernel
theorem dJ6_bitCount_0f7a4_26 : decode cJ6_bitCount_0f7a4 26 = .ok (.iconst 4, 1) := by decide +kernel
theorem dJ6_bitCount_0f7a4_27 : decode cJ6_bitCount_0f7a4 27 = .ok (.iushr, 1) := by decide +kernel
theorem dJ6_bitCount_0f7a4_28 : decode cJ6_bitCount_0f7a4 28 = .ok (.iadd, 1) := by decide +kernel
theorem dJ6_bitCount_0f7a4_29 : decode cJ6_bitCount_0f7a4 29 = .ok (.ldc_w 267, 3) := by decide +kernel
theorem dJ6_bitCount_0f7a4_32 : decode cJ6_bitCount_0f7a4 32 = .ok (.iand, 1) := by decide +kernel
theorem dJ6_bitCount_0f7a4_33 : decode cJ6_bitCount_0f7a4 33 = .ok (.istore_n 0, 1) := by decide +kernel
theorem dJ6_bitCount_0f7a4_34 : decode cJ6_bitCount_0f7a4 34 = .ok (.iload_n 0, 1) := by decide +kernel
theorem dJ6_bitCount_0f7a4_35 : decode cJ6_bitCount_0f7a4 35 = .ok (.iload_n 0, 1) := by decide +kernel
theorem dJ6_bitCount_0f7a4_36 : decode cJ6_bitCount_0f7a4 36 = .ok (.bipush 8, 2) := by decide +kernel
theorem dJ6_bitCount_0f7a4_38 : decode cJ6_bitCount_0f7a4 38 = .ok (.iushr, 1) := by decide +kernel
theorem dJ6_bitCount_0f7a4_39 : decode cJ6_bitCount_0f7a4 39 = .ok (.iadd, 1) := by decide +kernel
theorem dJ6_bitCount_0f7a4_40 : decode cJ6_bitCount_0f7a4 40 = .ok (.istore_n 0, 1) := by decide +kernel
theorem dJ6_bitCount_0f7a4_41 : decode cJ6_bitCount_0f7a4 41 = .ok (.iload_n 0, 1) := by decide +kernel
theorem dJ6_bitCount_0f7a4_42 : decode cJ6_bitCount_0f7a4 42 = .ok (.iload_n 0, 1) := by decide +kernel
theorem dJ6_bitCount_0f7a4_43 : decode cJ6_bitCount_0f7a4 43 = .ok (.bipush 16, 2) := by decide +kernel
theorem dJ6_bitCount_0f7a4_45 : decode cJ6_bitCount_0f7a4 45 = .ok (.iushr, 1) := by decide +kernel
theorem dJ6_bitCount_0f7a4_46 : decode cJ6_bitCount_0f7a4 46 = .ok (.iadd, 1) := by decide +kernel
theorem dJ6_bitCount_0f7a4_47 : decode cJ6_bitCount_0f7a4 47 = .ok (.istore_n 0, 1) := by decide +kernel
theorem dJ6_bitCount_0f7a4_48 : decode cJ6_bitCount_0f7a4 48 = .ok (.iload_n 0, 1) := by decide +kernel
theorem dJ6_bitCount_0f7a4_49 : decode cJ6_bitCount_0f7a4 49 = .ok (.bipush 63, 2) := by decide +kernel
theorem dJ6_bitCount_0f7a4_51 : decode cJ6_bitCount_0f7a4 51 = .ok (.iand, 1) := by decide +kernel
theorem dJ6_bitCount_0f7a4_52 : decode cJ6_bitCount_0f7a4 52 = .ok (.ireturn, 1) := by decide +kernel
theorem dJ7_fill_d0a16_0 : decode cJ7_fill_d0a16 0 = .ok (.iconst 0, 1) := by decide +kernel
theorem dJ7_fill_d0a16_1 : decode cJ7_fill_d0a16 1 = .ok (.istore_n 3, 1) := by decide +kernel
theorem dJ7_fill_d0a16_2 : decode cJ7_fill_d0a16 2 = .ok (.aload_n 0, 1) := by decide +kernel
theorem dJ7_fill_d0a16_3 : decode cJ7_fill_d0a16 3 = .ok (.arraylength, 1) := by decide +kernel
theorem dJ7_fill_d0a16_4 : decode cJ7_fill_d0a16 4 = .ok (.istore 4, 2) := by decide +kernel
theorem dJ7_fill_d0a16_6 : decode cJ7_fill_d0a16 6 = .ok (.iload_n 3, 1) := by decide +kernel
theorem dJ7_fill_d0a16_7 : decode cJ7_fill_d0a16 7 = .ok (.iload 4, 2) := by decide +kernel
theorem dJ7_fill_d0a16_9 : decode cJ7_fill_d0a16 9 = .ok (.if_icmp .ge 13, 3) := by decide +kernel
theorem dJ7_fill_d0a16_12 : decode cJ7_fill_d0a16 12 = .ok (.aload_n 0, 1) := by decide +kernel
theorem dJ7_fill_d0a16_13 : decode cJ7_fill_d0a16 13 = .ok (.iload_n 3, 1) := by decide +kernel
theorem dJ7_fill_d0a16_14 : decode cJ7_fill_d0a16 14 = .ok (.lload_n 1, 1) := by decide +kernel
theorem dJ7_fill_d0a16_15 : decode cJ7_fill_d0a16 15 = .ok (.lastore, 1) := by decide +kernel
theorem dJ7_fill_d0a16_16 : decode cJ7_fill_d0a16 16 = .ok (.iinc 3 1, 3) := by decide +kernel
theorem dJ7_fill_d0a16_19 : decode cJ7_fill_d0a16 19 = .ok (.goto (-13), 3) := by decide +kernel
theorem dJ7_fill_d0a16_22 : decode cJ7_fill_d0a16 22 = .ok (.return_, 1) := by decide +kernel
theorem dJ7_fill_53178_0 : decode cJ7_fill_53178 0 = .ok (.iconst 0, 1) := by decide +kernel
theorem dJ7_fill_53178_1 : decode cJ7_fill_53178 1 = .ok (.istore_n 2, 1) := by decide +kernel
theorem dJ7_fill_53178_2 : decode cJ7_fill_53178 2 = .ok (.aload_n 0, 1) := by decide +kernel
theorem dJ7_fill_53178_3 : decode cJ7_fill_53178 3 = .ok (.arraylength, 1) := by decide +kernel
theorem dJ7_fill_53178_4 : decode cJ7_fill_53178 4 = .ok (.istore_n 3, 1) := by decide +kernel
theorem dJ7_fill_53178_5 : decode cJ7_fill_53178 5 = .ok (.iload_n 2, 1) := by decide +kernel
theorem dJ7_fill_53178_6 : decode cJ7_fill_53178 6 = .ok (.iload_n 3, 1) := by decide +kernel
theorem dJ7_fill_53178_7 : decode cJ7_fill_53178 7 = .ok (.if_icmp .ge 13, 3) := by decide +kernel
theorem dJ7_fill_53178_10 : decode cJ7_fill_53178 10 = .ok (.aload_n 0, 1) := by decide +kernel
theorem dJ7_fill_53178_11 : decode cJ7_fill_53178 11 = .ok (.iload_n 2, 1) := by decide +kernel
theorem dJ7_fill_53178_12 : decode cJ7_fill_53178 12 = .ok (.iload_n 1, 1) := by decide +kernel
theorem dJ7_fill_53178_13 : decode cJ7_fill_53178 13 = .ok (.iastore, 1) := by decide +kernel
theorem dJ7_fill_53178_14 : decode cJ7_fill_53178 14 = .ok (.iinc 2 1, 3) := by decide +kernel
theorem dJ7_fill_53178_17 : decode cJ7_fill_53178 17 = .ok (.goto (-12), 3) := by decide +kernel
theorem dJ7_fill_53178_20 : decode cJ7_fill_53178 20 = .ok (.return_, 1) := by decide +kernel
theorem dJ9_floorDiv_f86c9_0 : decode cJ9_floorDiv_f86c9 0 = .ok (.lload_n 0, 1) := by decide +kernel
theorem dJ9_floorDiv_f86c9_1 : decode cJ9_floorDiv_f86c9 1 = .ok (.lload_n 2, 1) := by decide +kernel
theorem dJ9_floorDiv_f86c9_2 : decode cJ9_floorDiv_f86c9 2 = .ok (.ldiv, 1) := by decide +kernel
theorem dJ9_floorDiv_f86c9_3 : decode cJ9_floorDiv_f86c9 3 = .ok (.lstore 4, 2) := by decide +kernel
theorem dJ9_floorDiv_f86c9_5 : decode cJ9_floorDiv_f86c9 5 = .ok (.lload_n 0, 1) := by decide +kernel
theorem dJ9_floorDiv_f86c9_6 : decode cJ9_floorDiv_f86c9 6 = .ok (.lload_n 2, 1) := by decide +kernel
theorem dJ9_floorDiv_f86c9_7 : decode cJ9_floorDiv_f86c9 7 = .ok (.lxor, 1) := by decide +kernel
theorem dJ9_floorDiv_f86c9_8 : decode cJ9_floorDiv_f86c9 8 = .ok (.lconst 0, 1) := by decide +kernel
theorem dJ9_floorDiv_f86c9_9 : decode cJ9_floorDiv_f86c9 9 = .ok (.lcmp, 1) := by decide +kernel
theorem dJ9_floorDiv_f86c9_10 : decode cJ9_floorDiv_f86c9 10 = .ok (.ifCond .ge 17, 3) := by decide +kernel
theorem dJ9_floorDiv_f86c9_13 : decode cJ9_floorDiv_f86c9 13 = .ok (.lload 4, 2) := by decide +kernel
theorem dJ9_floorDiv_f86c9_15 : decode cJ9_floorDiv_f86c9 15 = .ok (.lload_n 2, 1) := by decide +kernel
theorem dJ9_floorDiv_f86c9_16 : decode cJ9_floorDiv_f86c9 16 = .ok (.lmul, 1) := by decide +kernel
theorem dJ9_floorDiv_f86c9_17 : decode cJ9_floorDiv_f86c9 17 = .ok (.lload_n 0, 1) := by decide +kernel
theorem dJ9_floorDiv_f86c9_18 : decode cJ9_floorDiv_f86c9 18 = .ok (.lcmp, 1) := by decide +kernel
theorem dJ9_floorDiv_f86c9_19 : decode cJ9_floorDiv_f86c9 19 = .ok (.ifCond .eq 8, 3) := by decide +kernel
theorem dJ9_floorDiv_f86c9_22 : decode cJ9_floorDiv_f86c9 22 = .ok (.lload 4, 2) := by decide +kernel
theorem dJ9_floorDiv_f86c9_24 : decode cJ9_floorDiv_f86c9 24 = .ok (.lconst 1, 1) := by decide +kernel
theorem dJ9_floorDiv_f86c9_25 : decode cJ9_floorDiv_f86c9 25 = .ok (.lsub, 1) := by decide +kernel
theorem dJ9_floorDiv_f86c9_26 : decode cJ9_floorDiv_f86c9 26 = .ok (.lreturn, 1) := by decide +kernel
theorem dJ9_floorDiv_f86c9_27 : decode cJ9_floorDiv_f86c9 27 = .ok (.lload 4, 2) := by decide +kernel
theorem dJ9_floorDiv_f86c9_29 : decode cJ9_floorDiv_f86c9 29 = .ok (.lreturn, 1) := by decide +kernel
theorem dJ9_abs_067f4_0 : decode cJ9_abs_067f4 0 = .ok (.lload_n 0, 1) := by decide +kernel
theorem dJ9_abs_067f4_1 : decode cJ9_abs_067f4 1 = .ok (.lconst 0, 1) := by decide +kernel
theorem dJ9_abs_067f4_2 : decode cJ9_abs_067f4 2 = .ok (.lcmp, 1) := by decide +kernel
theorem dJ9_abs_067f4_3 : decode cJ9_abs_067f4 3 = .ok (.ifCond .ge 8, 3) := by decide +kernel
theorem dJ9_abs_067f4_6 : decode cJ9_abs_067f4 6 = .ok (.lload_n 0, 1) := by decide +kernel
theorem dJ9_abs_067f4_7 : decode cJ9_abs_067f4 7 = .ok (.lneg, 1) := by decide +kernel
theorem dJ9_abs_067f4_8 : decode cJ9_abs_067f4 8 = .ok (.goto 4, 3) := by decide +kernel
theorem dJ9_abs_067f4_11 : decode cJ9_abs_067f4 11 = .ok (.lload_n 0, 1) := by decide +kernel
theorem dJ9_abs_067f4_12 : decode cJ9_abs_067f4 12 = .ok (.lreturn, 1) := by decide +kernel
