theorem dX8_slack_14 : decode cX8_slack 14 = .ok (.ifCond .eq 7, 3) := by decide +kernel
theorem dX8_slack_17 : decode cX8_slack 17 = .ok (.iconst 1, 1) := by decide +kernel
theorem dX8_slack_18 : decode cX8_slack 18 = .ok (.goto 4, 3) := by decide +kernel
theorem dX8_slack_21 : decode cX8_slack 21 = .ok (.iconst 0, 1) := by decide +kernel
theorem dX8_slack_22 : decode cX8_slack 22 = .ok (.invokevirtual 196, 3) := by decide +kernel
theorem dX8_slack_25 : decode cX8_slack 25 = .ok (.istore 4, 2) := by decide +kernel
theorem dX8_slack_27 : decode cX8_slack 27 = .ok (.iload 4, 2) := by decide +kernel
theorem dX8_slack_29 : decode cX8_slack 29 = .ok (.ifCond .eq 11, 3) := by decide +kernel
theorem dX8_slack_32 : decode cX8_slack 32 = .ok (.iload 4, 2) := by decide +kernel
theorem dX8_slack_34 : decode cX8_slack 34 = .ok (.invokestatic 200, 3) := by decide +kernel
theorem dX8_slack_37 : decode cX8_slack 37 = .ok (.goto 16, 3) := by decide +kernel
theorem dX8_slack_40 : decode cX8_slack 40 = .ok (.aload_n 0, 1) := by decide +kernel
theorem dX8_slack_41 : decode cX8_slack 41 = .ok (.iload_n 2, 1) := by decide +kernel
theorem dX8_slack_42 : decode cX8_slack 42 = .ok (.invokevirtual 172, 3) := by decide +kernel
theorem dX8_slack_45 : decode cX8_slack 45 = .ok (.aload_n 0, 1) := by decide +kernel
theorem dX8_slack_46 : decode cX8_slack 46 = .ok (.getfield 161, 3) := by decide +kernel
theorem dX8_slack_49 : decode cX8_slack 49 = .ok (.iload_n 3, 1) := by decide +kernel
theorem dX8_slack_50 : decode cX8_slack 50 = .ok (.invokestatic 203, 3) := by decide +kernel
theorem dX8_slack_53 : decode cX8_slack 53 = .ok (.lreturn, 1) := by decide +kernel
theorem dX8_heldNow_0 : decode cX8_heldNow 0 = .ok (.iconst 0, 1) := by decide +kernel
theorem dX8_heldNow_1 : decode cX8_heldNow 1 = .ok (.istore_n 1, 1) := by decide +kernel
theorem dX8_heldNow_2 : decode cX8_heldNow 2 = .ok (.iconst 0, 1) := by decide +kernel
theorem dX8_heldNow_3 : decode cX8_heldNow 3 = .ok (.istore_n 2, 1) := by decide +kernel
theorem dX8_heldNow_4 : decode cX8_heldNow 4 = .ok (.iload_n 2, 1) := by decide +kernel
theorem dX8_heldNow_5 : decode cX8_heldNow 5 = .ok (.aload_n 0, 1) := by decide +kernel
theorem dX8_heldNow_6 : decode cX8_heldNow 6 = .ok (.getfield 88, 3) := by decide +kernel
theorem dX8_heldNow_9 : decode cX8_heldNow 9 = .ok (.if_icmp .ge 27, 3) := by decide +kernel
theorem dX8_heldNow_12 : decode cX8_heldNow 12 = .ok (.iload_n 1, 1) := by decide +kernel
theorem dX8_heldNow_13 : decode cX8_heldNow 13 = .ok (.aload_n 0, 1) := by decide +kernel
theorem dX8_heldNow_14 : decode cX8_heldNow 14 = .ok (.iload_n 2, 1) := by decide +kernel
theorem dX8_heldNow_15 : decode cX8_heldNow 15 = .ok (.invokevirtual 178, 3) := by decide +kernel
theorem dX8_heldNow_18 : decode cX8_heldNow 18 = .ok (.ifCond .eq 9, 3) := by decide +kernel
theorem dX8_heldNow_21 : decode cX8_heldNow 21 = .ok (.iconst 1, 1) := by decide +kernel
theorem dX8_heldNow_22 : decode cX8_heldNow 22 = .ok (.iload_n 2, 1) := by decide +kernel
theorem dX8_heldNow_23 : decode cX8_heldNow 23 = .ok (.ishl, 1) := by decide +kernel
theorem dX8_heldNow_24 : decode cX8_heldNow 24 = .ok (.goto 4, 3) := by decide +kernel
theorem dX8_heldNow_27 : decode cX8_heldNow 27 = .ok (.iconst 0, 1) := by decide +kernel
theorem dX8_heldNow_28 : decode cX8_heldNow 28 = .ok (.ior, 1) := by decide +kernel
theorem dX8_heldNow_29 : decode cX8_heldNow 29 = .ok (.istore_n 1, 1) := by decide +kernel
theorem dX8_heldNow_30 : decode cX8_heldNow 30 = .ok (.iinc 2 1, 3) := by decide +kernel
theorem dX8_heldNow_33 : decode cX8_heldNow 33 = .ok (.goto (-29), 3) := by decide +kernel
theorem dX8_heldNow_36 : decode cX8_heldNow 36 = .ok (.iload_n 1, 1) := by decide +kernel
theorem dX8_heldNow_37 : decode cX8_heldNow 37 = .ok (.ireturn, 1) := by decide +kernel
theorem dX8_held_0 : decode cX8_held 0 = .ok (.aload_n 0, 1) := by decide +kernel
theorem dX8_held_1 : decode cX8_held 1 = .ok (.iload_n 1, 1) := by decide +kernel
theorem dX8_held_2 : decode cX8_held 2 = .ok (.iconst 1, 1) := by decide +kernel
theorem dX8_held_3 : decode cX8_held 3 = .ok (.invokevirtual 196, 3) := by decide +kernel
theorem dX8_held_6 : decode cX8_held 6 = .ok (.istore_n 2, 1) := by decide +kernel
theorem dX8_held_7 : decode cX8_held 7 = .ok (.iload_n 2, 1) := by decide +kernel
theorem dX8_held_8 : decode cX8_held 8 = .ok (.ifCond .eq 7, 3) := by decide +kernel
theorem dX8_held_11 : decode cX8_held 11 = .ok (.iload_n 2, 1) := by decide +kernel
theorem dX8_held_12 : decode cX8_held 12 = .ok (.goto 7, 3) := by decide +kernel
theorem dX8_held_15 : decode cX8_held 15 = .ok (.aload_n 0, 1) := by decide +kernel
theorem dX8_held_16 : decode cX8_held 16 = .ok (.invokevirtual 210, 3) := by decide +kernel
theorem dX8_held_19 : decode cX8_held 19 = .ok (.ireturn, 1) := by decide +kernel
theorem dX8_tight_0 : decode cX8_tight 0 = .ok (.aload_n 0, 1) := by decide +kernel
theorem dX8_tight_1 : decode cX8_tight 1 = .ok (.iload_n 1, 1) := by decide +kernel
theorem dX8_tight_2 : decode cX8_tight 2 = .ok (.iconst 1, 1) := by decide +kernel
theorem dX8_tight_3 : decode cX8_tight 3 = .ok (.invokevirtual 196, 3) := by decide +kernel
theorem dX8_tight_6 : decode cX8_tight 6 = .ok (.istore_n 2, 1) := by decide +kernel
theorem dX8_tight_7 : decode cX8_tight 7 = .ok (.iconst 0, 1) := by decide +kernel
theorem dX8_tight_8 : decode cX8_tight 8 = .ok (.istore_n 3, 1) := by decide +kernel
theorem dX8_tight_9 : decode cX8_tight 9 = .ok (.iconst 0, 1) := by decide +kernel
theorem dX8_tight_10 : decode cX8_tight 10 = .ok (.istore 4, 2) := by decide +kernel
theorem dX8_tight_12 : decode cX8_tight 12 = .ok (.iload 4, 2) := by decide +kernel
theorem dX8_tight_14 : decode cX8_tight 14 = .ok (.aload_n 0, 1) := by decide +kernel
theorem dX8_tight_15 : decode cX8_tight 15 = .ok (.getfield 88, 3) := by decide +kernel
theorem dX8_tight_18 : decode cX8_tight 18 = .ok (.if_icmp .ge 35, 3) := by decide +kernel
theorem dX8_tight_21 : decode cX8_tight 21 = .ok (.iload_n 2, 1) := by decide +kernel
theorem dX8_tight_22 : decode cX8_tight 22 = .ok (.ifCond .ne 31, 3) := by decide +kernel
theorem dX8_tight_25 : decode cX8_tight 25 = .ok (.iload_n 3, 1) := by decide +kernel
theorem dX8_tight_26 : decode cX8_tight 26 = .ok (.aload_n 0, 1) := by decide +kernel
theorem dX8_tight_27 : decode cX8_tight 27 = .ok (.iload 4, 2) := by decide +kernel
theorem dX8_tight_29 : decode cX8_tight 29 = .ok (.invokevirtual 172, 3) := by decide +kernel
theorem dX8_tight_32 : decode cX8_tight 32 = .ok (.lconst 0, 1) := by decide +kernel
theorem dX8_tight_33 : decode cX8_tight 33 = .ok (.lcmp, 1) := by decide +kernel
theorem dX8_tight_34 : decode cX8_tight 34 = .ok (.ifCond .ne 10, 3) := by decide +kernel
theorem dX8_tight_37 : decode cX8_tight 37 = .ok (.iconst 1, 1) := by decide +kernel
theorem dX8_tight_38 : decode cX8_tight 38 = .ok (.iload 4, 2) := by decide +kernel
theorem dX8_tight_40 : decode cX8_tight 40 = .ok (.ishl, 1) := by decide +kernel
theorem dX8_tight_41 : decode cX8_tight 41 = .ok (.goto 4, 3) := by decide +kernel
theorem dX8_tight_44 : decode cX8_tight 44 = .ok (.iconst 0, 1) := by decide +kernel
theorem dX8_tight_45 : decode cX8_tight 45 = .ok (.ior, 1) := by decide +kernel
theorem dX8_tight_46 : decode cX8_tight 46 = .ok (.istore_n 3, 1) := by decide +kernel
theorem dX8_tight_47 : decode cX8_tight 47 = .ok (.iinc 4 1, 3) := by decide +kernel
theorem dX8_tight_50 : decode cX8_tight 50 = .ok (.goto (-38), 3) := by decide +kernel
theorem dX8_tight_53 : decode cX8_tight 53 = .ok (.iload_n 2, 1) := by decide +kernel
theorem dX8_tight_54 : decode cX8_tight 54 = .ok (.ifCond .eq 7, 3) := by decide +kernel
theorem dX8_tight_57 : decode cX8_tight 57 = .ok (.iload_n 2, 1) := by decide +kernel
theorem dX8_tight_58 : decode cX8_tight 58 = .ok (.goto 4, 3) := by decide +kernel
theorem dX8_tight_61 : decode cX8_tight 61 = .ok (.iload_n 3, 1) := by decide +kernel
theorem dX8_tight_62 : decode cX8_tight 62 = .ok (.ireturn, 1) := by decide +kernel
theorem dX8_walks_0 : decode cX8_walks 0 = .ok (.iconst 0, 1) := by decide +kernel
theorem dX8_walks_1 : decode cX8_walks 1 = .ok (.istore_n 1, 1) := by decide +kernel
theorem dX8_walks_2 : decode cX8_walks 2 = .ok (.aload_n 0, 1) := by decide +kernel
theorem dX8_walks_3 : decode cX8_walks 3 = .ok (.iconst 0, 1) := by decide +kernel
theorem dX8_walks_4 : decode cX8_walks 4 = .ok (.putfield 214, 3) := by decide +kernel
theorem dX8_walks_7 : decode cX8_walks 7 = .ok (.iload_n 1, 1) := by decide +kernel
theorem dX8_walks_8 : decode cX8_walks 8 = .ok (.iconst (-1), 1) := by decide +kernel
theorem dX8_walks_9 : decode cX8_walks 9 = .ok (.if_icmp .eq 76, 3) := by decide +kernel
theorem dX8_walks_12 : decode cX8_walks 12 = .ok (.aload_n 0, 1) := by decide +kernel
theorem dX8_walks_13 : decode cX8_walks 13 = .ok (.getfield 54, 3) := by decide +kernel
theorem dX8_walks_16 : decode cX8_walks 16 = .ok (.aload_n 0, 1) := by decide +kernel
theorem dX8_walks_17 : decode cX8_walks 17 = .ok (.getfield 214, 3) := by decide +kernel
theorem dX8_walks_20 : decode cX8_walks 20 = .ok (.iload_n 1, 1) := by decide +kernel
theorem dX8_walks_21 : decode cX8_walks 21 = .ok (.iastore, 1) := by decide +kernel
theorem dX8_walks_22 : decode cX8_walks 22 = .ok (.aload_n 0, 1) := by decide +kernel
theorem dX8_walks_23 : decode cX8_walks 23 = .ok (.dup, 1) := by decide +kernel
theorem dX8_walks_24 : decode cX8_walks 24 = .ok (.getfield 214, 3) := by decide +kernel
theorem dX8_walks_27 : decode cX8_walks 27 = .ok (.iconst 1, 1) := by decide +kernel
theorem dX8_walks_28 : decode cX8_walks 28 = .ok (.iadd, 1) := by decide +kernel
theorem dX8_walks_29 : decode cX8_walks 29 = .ok (.putfield 214, 3) := by decide +kernel
theorem dX8_walks_32 : decode cX8_walks 32 = .ok (.aload_n 0, 1) := by decide +kernel
theorem dX8_walks_33 : decode cX8_walks 33 = .ok (.iload_n 1, 1) := by decide +kernel
theorem dX8_walks_34 : decode cX8_walks 34 = .ok (.invokevirtual 181, 3) := by decide +kernel
theorem dX8_walks_37 : decode cX8_walks 37 = .ok (.pop, 1) := by decide +kernel
theorem dX8_walks_38 : decode cX8_walks 38 = .ok (.iconst 0, 1) := by decide +kernel
theorem dX8_walks_39 : decode cX8_walks 39 = .ok (.istore_n 2, 1) := by decide +kernel
theorem dX8_walks_40 : decode cX8_walks 40 = .ok (.iload_n 2, 1) := by decide +kernel
theorem dX8_walks_41 : decode cX8_walks 41 = .ok (.aload_n 0, 1) := by decide +kernel
theorem dX8_walks_42 : decode cX8_walks 42 = .ok (.getfield 88, 3) := by decide +kernel
theorem dX8_walks_45 : decode cX8_walks 45 = .ok (.if_icmp .ge 17, 3) := by decide +kernel
theorem dX8_walks_48 : decode cX8_walks 48 = .ok (.aload_n 0, 1) := by decide +kernel
theorem dX8_walks_49 : decode cX8_walks 49 = .ok (.iload_n 2, 1) := by decide +kernel
theorem dX8_walks_50 : decode cX8_walks 50 = .ok (.invokevirtual 178, 3) := by decide +kernel
theorem dX8_walks_53 : decode cX8_walks 53 = .ok (.ifCond .eq 9, 3) := by decide +kernel
theorem dX8_walks_56 : decode cX8_walks 56 = .ok (.iinc 2 1, 3) := by decide +kernel
theorem dX8_walks_59 : decode cX8_walks 59 = .ok (.goto (-19), 3) := by decide +kernel
theorem dX8_walks_62 : decode cX8_walks 62 = .ok (.iload_n 2, 1) := by decide +kernel
theorem dX8_walks_63 : decode cX8_walks 63 = .ok (.aload_n 0, 1) := by decide +kernel
theorem dX8_walks_64 : decode cX8_walks 64 = .ok (.getfield 88, 3) := by decide +kernel
theorem dX8_walks_67 : decode cX8_walks 67 = .ok (.if_icmp .ne 5, 3) := by decide +kernel
theorem dX8_walks_70 : decode cX8_walks 70 = .ok (.iconst 1, 1) := by decide +kernel
theorem dX8_walks_71 : decode cX8_walks 71 = .ok (.ireturn, 1) := by decide +kernel
theorem dX8_walks_72 : decode cX8_walks 72 = .ok (.aload_n 0, 1) := by decide +kernel
theorem dX8_walks_73 : decode cX8_walks 73 = .ok (.iload_n 1, 1) := by decide +kernel
theorem dX8_walks_74 : decode cX8_walks 74 = .ok (.iconst 1, 1) := by decide +kernel
theorem dX8_walks_75 : decode cX8_walks 75 = .ok (.iload_n 2, 1) := by decide +kernel
theorem dX8_walks_76 : decode cX8_walks 76 = .ok (.ishl, 1) := by decide +kernel
theorem dX8_walks_77 : decode cX8_walks 77 = .ok (.ior, 1) := by decide +kernel
theorem dX8_walks_78 : decode cX8_walks 78 = .ok (.invokevirtual 190, 3) := by decide +kernel
theorem dX8_walks_81 : decode cX8_walks 81 = .ok (.istore_n 1, 1) := by decide +kernel
theorem dX8_walks_82 : decode cX8_walks 82 = .ok (.goto (-75), 3) := by decide +kernel
theorem dX8_walks_85 : decode cX8_walks 85 = .ok (.iconst 0, 1) := by decide +kernel
theorem dX8_walks_86 : decode cX8_walks 86 = .ok (.ireturn, 1) := by decide +kernel
theorem dX8_steps_0 : decode cX8_steps 0 = .ok (.aload_n 0, 1) := by decide +kernel
theorem dX8_steps_1 : decode cX8_steps 1 = .ok (.invokevirtual 146, 3) := by decide +kernel
theorem dX8_steps_4 : decode cX8_steps 4 = .ok (.ifCond .ne 8, 3) := by decide +kernel
theorem dX8_steps_7 : decode cX8_steps 7 = .ok (.bipush (-3), 2) := by decide +kernel
theorem dX8_steps_9 : decode cX8_steps 9 = .ok (.goto 20, 3) := by decide +kernel
theorem dX8_steps_12 : decode cX8_steps 12 = .ok (.aload_n 0, 1) := by decide +kernel
theorem dX8_steps_13 : decode cX8_steps 13 = .ok (.invokevirtual 217, 3) := by decide +kernel
theorem dX8_steps_16 : decode cX8_steps 16 = .ok (.ifCond .eq 12, 3) := by decide +kernel
theorem dX8_steps_19 : decode cX8_steps 19 = .ok (.aload_n 0, 1) := by decide +kernel
theorem dX8_steps_20 : decode cX8_steps 20 = .ok (.getfield 214, 3) := by decide +kernel
theorem dX8_steps_23 : decode cX8_steps 23 = .ok (.iconst 1, 1) := by decide +kernel
theorem dX8_steps_24 : decode cX8_steps 24 = .ok (.isub, 1) := by decide +kernel
theorem dX8_steps_25 : decode cX8_steps 25 = .ok (.goto 4, 3) := by decide +kernel
theorem dX8_steps_28 : decode cX8_steps 28 = .ok (.iconst (-1), 1) := by decide +kernel
theorem dX8_steps_29 : decode cX8_steps 29 = .ok (.ireturn, 1) := by decide +kernel
theorem dX8_walk_0 : decode cX8_walk 0 = .ok (.aload_n 0, 1) := by decide +kernel
theorem dX8_walk_1 : decode cX8_walk 1 = .ok (.invokevirtual 146, 3) := by decide +kernel
theorem dX8_walk_4 : decode cX8_walk 4 = .ok (.ifCond .ne 6, 3) := by decide +kernel
theorem dX8_walk_7 : decode cX8_walk 7 = .ok (.bipush (-3), 2) := by decide +kernel
theorem dX8_walk_9 : decode cX8_walk 9 = .ok (.ireturn, 1) := by decide +kernel
theorem dX8_walk_10 : decode cX8_walk 10 = .ok (.aload_n 0, 1) := by decide +kernel
theorem dX8_walk_11 : decode cX8_walk 11 = .ok (.invokevirtual 217, 3) := by decide +kernel
theorem dX8_walk_14 : decode cX8_walk 14 = .ok (.pop, 1) := by decide +kernel
theorem dX8_walk_15 : decode cX8_walk 15 = .ok (.iload_n 1, 1) := by decide +kernel
theorem dX8_walk_16 : decode cX8_walk 16 = .ok (.i2l, 1) := by decide +kernel
theorem dX8_walk_17 : decode cX8_walk 17 = .ok (.lconst 0, 1) := by decide +kernel
theorem dX8_walk_18 : decode cX8_walk 18 = .ok (.aload_n 0, 1) := by decide +kernel
theorem dX8_walk_19 : decode cX8_walk 19 = .ok (.getfield 214, 3) := by decide +kernel
theorem dX8_walk_22 : decode cX8_walk 22 = .ok (.iconst 1, 1) := by decide +kernel
theorem dX8_walk_23 : decode cX8_walk 23 = .ok (.isub, 1) := by decide +kernel
theorem dX8_walk_24 : decode cX8_walk 24 = .ok (.i2l, 1) := by decide +kernel
theorem dX8_walk_25 : decode cX8_walk 25 = .ok (.invokestatic 84, 3) := by decide +kernel
theorem dX8_walk_28 : decode cX8_walk 28 = .ok (.ifCond .eq 12, 3) := by decide +kernel
theorem dX8_walk_31 : decode cX8_walk 31 = .ok (.aload_n 0, 1) := by decide +kernel
theorem dX8_walk_32 : decode cX8_walk 32 = .ok (.getfield 54, 3) := by decide +kernel
theorem dX8_walk_35 : decode cX8_walk 35 = .ok (.iload_n 1, 1) := by decide +kernel
theorem dX8_walk_36 : decode cX8_walk 36 = .ok (.iaload, 1) := by decide +kernel
theorem dX8_walk_37 : decode cX8_walk 37 = .ok (.goto 5, 3) := by decide +kernel
theorem dX8_walk_40 : decode cX8_walk 40 = .ok (.bipush (-12), 2) := by decide +kernel
theorem dX8_walk_42 : decode cX8_walk 42 = .ok (.ireturn, 1) := by decide +kernel
theorem dX8_pieces_0 : decode cX8_pieces 0 = .ok (.iload_n 1, 1) := by decide +kernel
theorem dX8_pieces_1 : decode cX8_pieces 1 = .ok (.i2l, 1) := by decide +kernel
theorem dX8_pieces_2 : decode cX8_pieces 2 = .ok (.lconst 1, 1) := by decide +kernel
theorem dX8_pieces_3 : decode cX8_pieces 3 = .ok (.ldc2_w 110, 3) := by decide +kernel
theorem dX8_pieces_6 : decode cX8_pieces 6 = .ok (.invokestatic 84, 3) := by decide +kernel
theorem dX8_pieces_9 : decode cX8_pieces 9 = .ok (.ifCond .ne 6, 3) := by decide +kernel
theorem dX8_pieces_12 : decode cX8_pieces 12 = .ok (.bipush (-2), 2) := by decide +kernel
theorem dX8_pieces_14 : decode cX8_pieces 14 = .ok (.ireturn, 1) := by decide +kernel
theorem dX8_pieces_15 : decode cX8_pieces 15 = .ok (.aload_n 0, 1) := by decide +kernel
theorem dX8_pieces_16 : decode cX8_pieces 16 = .ok (.invokevirtual 146, 3) := by decide +kernel
theorem dX8_pieces_19 : decode cX8_pieces 19 = .ok (.ifCond .ne 6, 3) := by decide +kernel
theorem dX8_pieces_22 : decode cX8_pieces 22 = .ok (.bipush (-3), 2) := by decide +kernel
theorem dX8_pieces_24 : decode cX8_pieces 24 = .ok (.ireturn, 1) := by decide +kernel
theorem dX8_pieces_25 : decode cX8_pieces 25 = .ok (.aload_n 0, 1) := by decide +kernel
theorem dX8_pieces_26 : decode cX8_pieces 26 = .ok (.getfield 93, 3) := by decide +kernel
theorem dX8_pieces_29 : decode cX8_pieces 29 = .ok (.istore_n 2, 1) := by decide +kernel
theorem dX8_pieces_30 : decode cX8_pieces 30 = .ok (.aload_n 0, 1) := by decide +kernel
theorem dX8_pieces_31 : decode cX8_pieces 31 = .ok (.iconst 0, 1) := by decide +kernel
theorem dX8_pieces_32 : decode cX8_pieces 32 = .ok (.putfield 93, 3) := by decide +kernel
theorem dX8_pieces_35 : decode cX8_pieces 35 = .ok (.aload_n 0, 1) := by decide +kernel
theorem dX8_pieces_36 : decode cX8_pieces 36 = .ok (.aload_n 0, 1) := by decide +kernel
theorem dX8_pieces_37 : decode cX8_pieces 37 = .ok (.invokevirtual 220, 3) := by decide +kernel
theorem dX8_pieces_40 : decode cX8_pieces 40 = .ok (.invokevirtual 190, 3) := by decide +kernel
theorem dX8_pieces_43 : decode cX8_pieces 43 = .ok (.istore_n 3, 1) := by decide +kernel
theorem dX8_pieces_44 : decode cX8_pieces 44 = .ok (.iconst 0, 1) := by decide +kernel
theorem dX8_pieces_45 : decode cX8_pieces 45 = .ok (.istore 4, 2) := by decide +kernel
theorem dX8_pieces_47 : decode cX8_pieces 47 = .ok (.iconst 1, 1) := by decide +kernel
theorem dX8_pieces_48 : decode cX8_pieces 48 = .ok (.istore 5, 2) := by decide +kernel
theorem dX8_pieces_50 : decode cX8_pieces 50 = .ok (.iload 5, 2) := by decide +kernel
theorem dX8_pieces_52 : decode cX8_pieces 52 = .ok (.iload_n 1, 1) := by decide +kernel
theorem dX8_pieces_53 : decode cX8_pieces 53 = .ok (.if_icmp .gt 44, 3) := by decide +kernel
theorem dX8_pieces_56 : decode cX8_pieces 56 = .ok (.aload_n 0, 1) := by decide +kernel
theorem dX8_pieces_57 : decode cX8_pieces 57 = .ok (.iload 5, 2) := by decide +kernel
theorem dX8_pieces_59 : decode cX8_pieces 59 = .ok (.putfield 93, 3) := by decide +kernel
theorem dX8_pieces_62 : decode cX8_pieces 62 = .ok (.aload_n 0, 1) := by decide +kernel
theorem dX8_pieces_63 : decode cX8_pieces 63 = .ok (.aload_n 0, 1) := by decide +kernel
theorem dX8_pieces_64 : decode cX8_pieces 64 = .ok (.invokevirtual 220, 3) := by decide +kernel
theorem dX8_pieces_67 : decode cX8_pieces 67 = .ok (.invokevirtual 190, 3) := by decide +kernel
theorem dX8_pieces_70 : decode cX8_pieces 70 = .ok (.istore 6, 2) := by decide +kernel
theorem dX8_pieces_72 : decode cX8_pieces 72 = .ok (.iload 4, 2) := by decide +kernel
theorem dX8_pieces_74 : decode cX8_pieces 74 = .ok (.iload 6, 2) := by decide +kernel
theorem dX8_pieces_76 : decode cX8_pieces 76 = .ok (.iload_n 3, 1) := by decide +kernel
theorem dX8_pieces_77 : decode cX8_pieces 77 = .ok (.if_icmp .ne 7, 3) := by decide +kernel
theorem dX8_pieces_80 : decode cX8_pieces 80 = .ok (.iconst 0, 1) := by decide +kernel
theorem dX8_pieces_81 : decode cX8_pieces 81 = .ok (.goto 4, 3) := by decide +kernel
theorem dX8_pieces_84 : decode cX8_pieces 84 = .ok (.iconst 1, 1) := by decide +kernel
theorem dX8_pieces_85 : decode cX8_pieces 85 = .ok (.iadd, 1) := by decide +kernel
theorem dX8_pieces_86 : decode cX8_pieces 86 = .ok (.istore 4, 2) := by decide +kernel
theorem dX8_pieces_88 : decode cX8_pieces 88 = .ok (.iload 6, 2) := by decide +kernel
theorem dX8_pieces_90 : decode cX8_pieces 90 = .ok (.istore_n 3, 1) := by decide +kernel
theorem dX8_pieces_91 : decode cX8_pieces 91 = .ok (.iinc 5 1, 3) := by decide +kernel
theorem dX8_pieces_94 : decode cX8_pieces 94 = .ok (.goto (-44), 3) := by decide +kernel
theorem dX8_pieces_97 : decode cX8_pieces 97 = .ok (.aload_n 0, 1) := by decide +kernel
theorem dX8_pieces_98 : decode cX8_pieces 98 = .ok (.iload_n 2, 1) := by decide +kernel
theorem dX8_pieces_99 : decode cX8_pieces 99 = .ok (.putfield 93, 3) := by decide +kernel
theorem dX8_pieces_102 : decode cX8_pieces 102 = .ok (.iload 4, 2) := by decide +kernel
theorem dX8_pieces_104 : decode cX8_pieces 104 = .ok (.ireturn, 1) := by decide +kernel
theorem dX8_bounds_0 : decode cX8_bounds 0 = .ok (.lload_n 3, 1) := by decide +kernel
theorem dX8_bounds_1 : decode cX8_bounds 1 = .ok (.lconst 0, 1) := by decide +kernel
theorem dX8_bounds_2 : decode cX8_bounds 2 = .ok (.lcmp, 1) := by decide +kernel
theorem dX8_bounds_3 : decode cX8_bounds 3 = .ok (.ifCond .ge 43, 3) := by decide +kernel
theorem dX8_bounds_6 : decode cX8_bounds 6 = .ok (.aload_n 0, 1) := by decide +kernel
theorem dX8_bounds_7 : decode cX8_bounds 7 = .ok (.getfield 223, 3) := by decide +kernel
theorem dX8_bounds_10 : decode cX8_bounds 10 = .ok (.ifCond .eq 20, 3) := by decide +kernel
theorem dX8_bounds_13 : decode cX8_bounds 13 = .ok (.lload_n 1, 1) := by decide +kernel
theorem dX8_bounds_14 : decode cX8_bounds 14 = .ok (.lload_n 3, 1) := by decide +kernel
theorem dX8_bounds_15 : decode cX8_bounds 15 = .ok (.lneg, 1) := by decide +kernel
theorem dX8_bounds_16 : decode cX8_bounds 16 = .ok (.aload_n 0, 1) := by decide +kernel
theorem dX8_bounds_17 : decode cX8_bounds 17 = .ok (.getfield 227, 3) := by decide +kernel
theorem dX8_bounds_20 : decode cX8_bounds 20 = .ok (.aload_n 0, 1) := by decide +kernel
theorem dX8_bounds_21 : decode cX8_bounds 21 = .ok (.getfield 230, 3) := by decide +kernel
theorem dX8_bounds_24 : decode cX8_bounds 24 = .ok (.invokestatic 80, 3) := by decide +kernel
theorem dX8_bounds_27 : decode cX8_bounds 27 = .ok (.ifCond .eq 19, 3) := by decide +kernel
theorem dX8_bounds_30 : decode cX8_bounds 30 = .ok (.aload_n 0, 1) := by decide +kernel
theorem dX8_bounds_31 : decode cX8_bounds 31 = .ok (.iconst 1, 1) := by decide +kernel
theorem dX8_bounds_32 : decode cX8_bounds 32 = .ok (.putfield 223, 3) := by decide +kernel
theorem dX8_bounds_35 : decode cX8_bounds 35 = .ok (.aload_n 0, 1) := by decide +kernel
theorem dX8_bounds_36 : decode cX8_bounds 36 = .ok (.lload_n 1, 1) := by decide +kernel
theorem dX8_bounds_37 : decode cX8_bounds 37 = .ok (.putfield 227, 3) := by decide +kernel
theorem dX8_bounds_40 : decode cX8_bounds 40 = .ok (.aload_n 0, 1) := by decide +kernel
theorem dX8_bounds_41 : decode cX8_bounds 41 = .ok (.lload_n 3, 1) := by decide +kernel
theorem dX8_bounds_42 : decode cX8_bounds 42 = .ok (.lneg, 1) := by decide +kernel
theorem dX8_bounds_43 : decode cX8_bounds 43 = .ok (.putfield 230, 3) := by decide +kernel
theorem dX8_bounds_46 : decode cX8_bounds 46 = .ok (.return_, 1) := by decide +kernel
theorem dX8_reach_0 : decode cX8_reach 0 = .ok (.iload_n 1, 1) := by decide +kernel
theorem dX8_reach_1 : decode cX8_reach 1 = .ok (.invokestatic 193, 3) := by decide +kernel
theorem dX8_reach_4 : decode cX8_reach 4 = .ok (.ifCond .ne 9, 3) := by decide +kernel
theorem dX8_reach_7 : decode cX8_reach 7 = .ok (.bipush (-2), 2) := by decide +kernel
theorem dX8_reach_9 : decode cX8_reach 9 = .ok (.invokestatic 200, 3) := by decide +kernel
theorem dX8_reach_12 : decode cX8_reach 12 = .ok (.lreturn, 1) := by decide +kernel
theorem dX8_reach_13 : decode cX8_reach 13 = .ok (.aload_n 0, 1) := by decide +kernel
theorem dX8_reach_14 : decode cX8_reach 14 = .ok (.invokevirtual 146, 3) := by decide +kernel
theorem dX8_reach_17 : decode cX8_reach 17 = .ok (.ifCond .ne 9, 3) := by decide +kernel
theorem dX8_reach_20 : decode cX8_reach 20 = .ok (.bipush (-3), 2) := by decide +kernel
theorem dX8_reach_22 : decode cX8_reach 22 = .ok (.invokestatic 200, 3) := by decide +kernel
theorem dX8_reach_25 : decode cX8_reach 25 = .ok (.lreturn, 1) := by decide +kernel
theorem dX8_reach_26 : decode cX8_reach 26 = .ok (.aload_n 0, 1) := by decide +kernel
theorem dX8_reach_27 : decode cX8_reach 27 = .ok (.aload_n 0, 1) := by decide +kernel
theorem dX8_reach_28 : decode cX8_reach 28 = .ok (.invokevirtual 220, 3) := by decide +kernel
theorem dX8_reach_31 : decode cX8_reach 31 = .ok (.invokevirtual 190, 3) := by decide +kernel
theorem dX8_reach_34 : decode cX8_reach 34 = .ok (.istore_n 2, 1) := by decide +kernel
theorem dX8_reach_35 : decode cX8_reach 35 = .ok (.iload_n 2, 1) := by decide +kernel
theorem dX8_reach_36 : decode cX8_reach 36 = .ok (.iconst (-1), 1) := by decide +kernel
theorem dX8_reach_37 : decode cX8_reach 37 = .ok (.if_icmp .ne 8, 3) := by decide +kernel
theorem dX8_reach_40 : decode cX8_reach 40 = .ok (.iconst (-1), 1) := by decide +kernel
theorem dX8_reach_41 : decode cX8_reach 41 = .ok (.invokestatic 200, 3) := by decide +kernel
theorem dX8_reach_44 : decode cX8_reach 44 = .ok (.lreturn, 1) := by decide +kernel
theorem dX8_reach_45 : decode cX8_reach 45 = .ok (.aload_n 0, 1) := by decide +kernel
theorem dX8_reach_46 : decode cX8_reach 46 = .ok (.iload_n 2, 1) := by decide +kernel
theorem dX8_reach_47 : decode cX8_reach 47 = .ok (.invokevirtual 233, 3) := by decide +kernel
theorem dX8_reach_50 : decode cX8_reach 50 = .ok (.aload_n 0, 1) := by decide +kernel
theorem dX8_reach_51 : decode cX8_reach 51 = .ok (.iconst 0, 1) := by decide +kernel
theorem dX8_reach_52 : decode cX8_reach 52 = .ok (.putfield 223, 3) := by decide +kernel
theorem dX8_reach_55 : decode cX8_reach 55 = .ok (.iconst 0, 1) := by decide +kernel
theorem dX8_reach_56 : decode cX8_reach 56 = .ok (.istore_n 3, 1) := by decide +kernel
theorem dX8_reach_57 : decode cX8_reach 57 = .ok (.iload_n 3, 1) := by decide +kernel
theorem dX8_reach_58 : decode cX8_reach 58 = .ok (.aload_n 0, 1) := by decide +kernel
theorem dX8_reach_59 : decode cX8_reach 59 = .ok (.getfield 88, 3) := by decide +kernel
theorem dX8_reach_62 : decode cX8_reach 62 = .ok (.if_icmp .ge 112, 3) := by decide +kernel
theorem dX8_reach_65 : decode cX8_reach 65 = .ok (.aload_n 0, 1) := by decide +kernel
theorem dX8_reach_66 : decode cX8_reach 66 = .ok (.iload_n 3, 1) := by decide +kernel
theorem dX8_reach_67 : decode cX8_reach 67 = .ok (.invokevirtual 169, 3) := by decide +kernel
theorem dX8_reach_70 : decode cX8_reach 70 = .ok (.i2l, 1) := by decide +kernel
theorem dX8_reach_71 : decode cX8_reach 71 = .ok (.aload_n 0, 1) := by decide +kernel
theorem dX8_reach_72 : decode cX8_reach 72 = .ok (.getfield 161, 3) := by decide +kernel
theorem dX8_reach_75 : decode cX8_reach 75 = .ok (.lmul, 1) := by decide +kernel
theorem dX8_reach_76 : decode cX8_reach 76 = .ok (.lstore 4, 2) := by decide +kernel
theorem dX8_reach_78 : decode cX8_reach 78 = .ok (.iconst 0, 1) := by decide +kernel
theorem dX8_reach_79 : decode cX8_reach 79 = .ok (.istore 6, 2) := by decide +kernel
theorem dX8_reach_81 : decode cX8_reach 81 = .ok (.iload 6, 2) := by decide +kernel
theorem dX8_reach_83 : decode cX8_reach 83 = .ok (.aload_n 0, 1) := by decide +kernel
theorem dX8_reach_84 : decode cX8_reach 84 = .ok (.getfield 7, 3) := by decide +kernel
theorem dX8_reach_87 : decode cX8_reach 87 = .ok (.if_icmp .ge 30, 3) := by decide +kernel
theorem dX8_reach_90 : decode cX8_reach 90 = .ok (.lload 4, 2) := by decide +kernel
theorem dX8_reach_92 : decode cX8_reach 92 = .ok (.aload_n 0, 1) := by decide +kernel
theorem dX8_reach_93 : decode cX8_reach 93 = .ok (.iload_n 3, 1) := by decide +kernel
theorem dX8_reach_94 : decode cX8_reach 94 = .ok (.iload 6, 2) := by decide +kernel
theorem dX8_reach_96 : decode cX8_reach 96 = .ok (.invokevirtual 129, 3) := by decide +kernel
theorem dX8_reach_99 : decode cX8_reach 99 = .ok (.i2l, 1) := by decide +kernel
theorem dX8_reach_100 : decode cX8_reach 100 = .ok (.aload_n 0, 1) := by decide +kernel
theorem dX8_reach_101 : decode cX8_reach 101 = .ok (.getfield 42, 3) := by decide +kernel
theorem dX8_reach_104 : decode cX8_reach 104 = .ok (.iload 6, 2) := by decide +kernel
theorem dX8_reach_106 : decode cX8_reach 106 = .ok (.laload, 1) := by decide +kernel
theorem dX8_reach_107 : decode cX8_reach 107 = .ok (.lmul, 1) := by decide +kernel
theorem dX8_reach_108 : decode cX8_reach 108 = .ok (.lsub, 1) := by decide +kernel
theorem dX8_reach_109 : decode cX8_reach 109 = .ok (.lstore 4, 2) := by decide +kernel
theorem dX8_reach_111 : decode cX8_reach 111 = .ok (.iinc 6 1, 3) := by decide +kernel
theorem dX8_reach_114 : decode cX8_reach 114 = .ok (.goto (-33), 3) := by decide +kernel
theorem dX8_reach_117 : decode cX8_reach 117 = .ok (.aload_n 0, 1) := by decide +kernel
theorem dX8_reach_118 : decode cX8_reach 118 = .ok (.aload_n 0, 1) := by decide +kernel
theorem dX8_reach_119 : decode cX8_reach 119 = .ok (.iload_n 3, 1) := by decide +kernel
theorem dX8_reach_120 : decode cX8_reach 120 = .ok (.invokevirtual 172, 3) := by decide +kernel
theorem dX8_reach_123 : decode cX8_reach 123 = .ok (.lload 4, 2) := by decide +kernel
theorem dX8_reach_125 : decode cX8_reach 125 = .ok (.invokevirtual 236, 3) := by decide +kernel
theorem dX8_reach_128 : decode cX8_reach 128 = .ok (.aload_n 0, 1) := by decide +kernel
theorem dX8_reach_129 : decode cX8_reach 129 = .ok (.iload_n 3, 1) := by decide +kernel
theorem dX8_reach_130 : decode cX8_reach 130 = .ok (.invokevirtual 175, 3) := by decide +kernel
theorem dX8_reach_133 : decode cX8_reach 133 = .ok (.ifCond .eq 19, 3) := by decide +kernel
theorem dX8_reach_136 : decode cX8_reach 136 = .ok (.aload_n 0, 1) := by decide +kernel
theorem dX8_reach_137 : decode cX8_reach 137 = .ok (.aload_n 0, 1) := by decide +kernel
theorem dX8_reach_138 : decode cX8_reach 138 = .ok (.iload_n 3, 1) := by decide +kernel
theorem dX8_reach_139 : decode cX8_reach 139 = .ok (.invokevirtual 172, 3) := by decide +kernel
theorem dX8_reach_142 : decode cX8_reach 142 = .ok (.lneg, 1) := by decide +kernel
theorem dX8_reach_143 : decode cX8_reach 143 = .ok (.lload 4, 2) := by decide +kernel
theorem dX8_reach_145 : decode cX8_reach 145 = .ok (.lneg, 1) := by decide +kernel
theorem dX8_reach_146 : decode cX8_reach 146 = .ok (.invokevirtual 236, 3) := by decide +kernel
theorem dX8_reach_149 : decode cX8_reach 149 = .ok (.goto 19, 3) := by decide +kernel
theorem dX8_reach_152 : decode cX8_reach 152 = .ok (.aload_n 0, 1) := by decide +kernel
theorem dX8_reach_153 : decode cX8_reach 153 = .ok (.aload_n 0, 1) := by decide +kernel
theorem dX8_reach_154 : decode cX8_reach 154 = .ok (.getfield 39, 3) := by decide +kernel
theorem dX8_reach_157 : decode cX8_reach 157 = .ok (.iload_n 3, 1) := by decide +kernel
theorem dX8_reach_158 : decode cX8_reach 158 = .ok (.laload, 1) := by decide +kernel
theorem dX8_reach_159 : decode cX8_reach 159 = .ok (.aload_n 0, 1) := by decide +kernel
theorem dX8_reach_160 : decode cX8_reach 160 = .ok (.getfield 45, 3) := by decide +kernel
theorem dX8_reach_163 : decode cX8_reach 163 = .ok (.iload_n 3, 1) := by decide +kernel
theorem dX8_reach_164 : decode cX8_reach 164 = .ok (.laload, 1) := by decide +kernel
theorem dX8_reach_165 : decode cX8_reach 165 = .ok (.invokevirtual 236, 3) := by decide +kernel
theorem dX8_reach_168 : decode cX8_reach 168 = .ok (.iinc 3 1, 3) := by decide +kernel
theorem dX8_reach_171 : decode cX8_reach 171 = .ok (.goto (-114), 3) := by decide +kernel
theorem dX8_reach_174 : decode cX8_reach 174 = .ok (.aload_n 0, 1) := by decide +kernel
theorem dX8_reach_175 : decode cX8_reach 175 = .ok (.getfield 223, 3) := by decide +kernel
theorem dX8_reach_178 : decode cX8_reach 178 = .ok (.ifCond .eq 18, 3) := by decide +kernel
theorem dX8_reach_181 : decode cX8_reach 181 = .ok (.aload_n 0, 1) := by decide +kernel
theorem dX8_reach_182 : decode cX8_reach 182 = .ok (.getfield 227, 3) := by decide +kernel
theorem dX8_reach_185 : decode cX8_reach 185 = .ok (.aload_n 0, 1) := by decide +kernel
theorem dX8_reach_186 : decode cX8_reach 186 = .ok (.getfield 230, 3) := by decide +kernel
theorem dX8_reach_189 : decode cX8_reach 189 = .ok (.iload_n 1, 1) := by decide +kernel
theorem dX8_reach_190 : decode cX8_reach 190 = .ok (.invokestatic 203, 3) := by decide +kernel
theorem dX8_reach_193 : decode cX8_reach 193 = .ok (.goto 7, 3) := by decide +kernel
theorem dX8_reach_196 : decode cX8_reach 196 = .ok (.iconst (-1), 1) := by decide +kernel
theorem dX8_reach_197 : decode cX8_reach 197 = .ok (.invokestatic 200, 3) := by decide +kernel
theorem dX8_reach_200 : decode cX8_reach 200 = .ok (.lreturn, 1) := by decide +kernel
theorem dX8_isNear_0 : decode cX8_isNear 0 = .ok (.iconst 0, 1) := by decide +kernel
theorem dX8_isNear_1 : decode cX8_isNear 1 = .ok (.istore_n 2, 1) := by decide +kernel
theorem dX8_isNear_2 : decode cX8_isNear 2 = .ok (.iload_n 2, 1) := by decide +kernel
theorem dX8_isNear_3 : decode cX8_isNear 3 = .ok (.bipush 9, 2) := by decide +kernel
theorem dX8_isNear_5 : decode cX8_isNear 5 = .ok (.if_icmp .ge 38, 3) := by decide +kernel
theorem dX8_isNear_8 : decode cX8_isNear 8 = .ok (.aload_n 0, 1) := by decide +kernel
theorem dX8_isNear_9 : decode cX8_isNear 9 = .ok (.getfield 57, 3) := by decide +kernel
theorem dX8_isNear_12 : decode cX8_isNear 12 = .ok (.iload_n 2, 1) := by decide +kernel
theorem dX8_isNear_13 : decode cX8_isNear 13 = .ok (.aload_n 0, 1) := by decide +kernel
theorem dX8_isNear_14 : decode cX8_isNear 14 = .ok (.getfield 13, 3) := by decide +kernel
theorem dX8_isNear_17 : decode cX8_isNear 17 = .ok (.iload_n 2, 1) := by decide +kernel
theorem dX8_isNear_18 : decode cX8_isNear 18 = .ok (.iaload, 1) := by decide +kernel
theorem dX8_isNear_19 : decode cX8_isNear 19 = .ok (.iastore, 1) := by decide +kernel
theorem dX8_isNear_20 : decode cX8_isNear 20 = .ok (.aload_n 0, 1) := by decide +kernel
theorem dX8_isNear_21 : decode cX8_isNear 21 = .ok (.getfield 13, 3) := by decide +kernel
theorem dX8_isNear_24 : decode cX8_isNear 24 = .ok (.iload_n 2, 1) := by decide +kernel
theorem dX8_isNear_25 : decode cX8_isNear 25 = .ok (.iload_n 2, 1) := by decide +kernel
theorem dX8_isNear_26 : decode cX8_isNear 26 = .ok (.iconst 4, 1) := by decide +kernel
theorem dX8_isNear_27 : decode cX8_isNear 27 = .ok (.irem, 1) := by decide +kernel
theorem dX8_isNear_28 : decode cX8_isNear 28 = .ok (.ifCond .ne 7, 3) := by decide +kernel
theorem dX8_isNear_31 : decode cX8_isNear 31 = .ok (.iconst 1, 1) := by decide +kernel
theorem dX8_isNear_32 : decode cX8_isNear 32 = .ok (.goto 4, 3) := by decide +kernel
theorem dX8_isNear_35 : decode cX8_isNear 35 = .ok (.iconst 0, 1) := by decide +kernel
theorem dX8_isNear_36 : decode cX8_isNear 36 = .ok (.iastore, 1) := by decide +kernel
theorem dX8_isNear_37 : decode cX8_isNear 37 = .ok (.iinc 2 1, 3) := by decide +kernel
theorem dX8_isNear_40 : decode cX8_isNear 40 = .ok (.goto (-38), 3) := by decide +kernel
theorem dX8_isNear_43 : decode cX8_isNear 43 = .ok (.iconst 0, 1) := by decide +kernel
theorem dX8_isNear_44 : decode cX8_isNear 44 = .ok (.istore_n 2, 1) := by decide +kernel
theorem dX8_isNear_45 : decode cX8_isNear 45 = .ok (.iload_n 2, 1) := by decide +kernel
theorem dX8_isNear_46 : decode cX8_isNear 46 = .ok (.iconst 3, 1) := by decide +kernel
theorem dX8_isNear_47 : decode cX8_isNear 47 = .ok (.if_icmp .ge 34, 3) := by decide +kernel
theorem dX8_isNear_50 : decode cX8_isNear 50 = .ok (.aload_n 0, 1) := by decide +kernel
theorem dX8_isNear_51 : decode cX8_isNear 51 = .ok (.getfield 57, 3) := by decide +kernel
theorem dX8_isNear_54 : decode cX8_isNear 54 = .ok (.bipush 9, 2) := by decide +kernel
theorem dX8_isNear_56 : decode cX8_isNear 56 = .ok (.iload_n 2, 1) := by decide +kernel
theorem dX8_isNear_57 : decode cX8_isNear 57 = .ok (.iadd, 1) := by decide +kernel
theorem dX8_isNear_58 : decode cX8_isNear 58 = .ok (.aload_n 0, 1) := by decide +kernel
theorem dX8_isNear_59 : decode cX8_isNear 59 = .ok (.getfield 17, 3) := by decide +kernel
theorem dX8_isNear_62 : decode cX8_isNear 62 = .ok (.iload_n 2, 1) := by decide +kernel
theorem dX8_isNear_63 : decode cX8_isNear 63 = .ok (.iaload, 1) := by decide +kernel
theorem dX8_isNear_64 : decode cX8_isNear 64 = .ok (.iastore, 1) := by decide +kernel
theorem dX8_isNear_65 : decode cX8_isNear 65 = .ok (.aload_n 0, 1) := by decide +kernel
theorem dX8_isNear_66 : decode cX8_isNear 66 = .ok (.getfield 17, 3) := by decide +kernel
theorem dX8_isNear_69 : decode cX8_isNear 69 = .ok (.iload_n 2, 1) := by decide +kernel
theorem dX8_isNear_70 : decode cX8_isNear 70 = .ok (.aload_n 1, 1) := by decide +kernel
theorem dX8_isNear_71 : decode cX8_isNear 71 = .ok (.iload_n 2, 1) := by decide +kernel
theorem dX8_isNear_72 : decode cX8_isNear 72 = .ok (.iaload, 1) := by decide +kernel
theorem dX8_isNear_73 : decode cX8_isNear 73 = .ok (.ineg, 1) := by decide +kernel
theorem dX8_isNear_74 : decode cX8_isNear 74 = .ok (.iastore, 1) := by decide +kernel
theorem dX8_isNear_75 : decode cX8_isNear 75 = .ok (.iinc 2 1, 3) := by decide +kernel
theorem dX8_isNear_78 : decode cX8_isNear 78 = .ok (.goto (-33), 3) := by decide +kernel
theorem dX8_isNear_81 : decode cX8_isNear 81 = .ok (.aload_n 0, 1) := by decide +kernel
theorem dX8_isNear_82 : decode cX8_isNear 82 = .ok (.aload_n 0, 1) := by decide +kernel
theorem dX8_isNear_83 : decode cX8_isNear 83 = .ok (.invokevirtual 220, 3) := by decide +kernel
theorem dX8_isNear_86 : decode cX8_isNear 86 = .ok (.invokevirtual 190, 3) := by decide +kernel
theorem dX8_isNear_89 : decode cX8_isNear 89 = .ok (.iconst (-1), 1) := by decide +kernel
theorem dX8_isNear_90 : decode cX8_isNear 90 = .ok (.if_icmp .eq 7, 3) := by decide +kernel
theorem dX8_isNear_93 : decode cX8_isNear 93 = .ok (.iconst 1, 1) := by decide +kernel
theorem dX8_isNear_94 : decode cX8_isNear 94 = .ok (.goto 4, 3) := by decide +kernel
theorem dX8_isNear_97 : decode cX8_isNear 97 = .ok (.iconst 0, 1) := by decide +kernel
theorem dX8_isNear_98 : decode cX8_isNear 98 = .ok (.istore_n 2, 1) := by decide +kernel
theorem dX8_isNear_99 : decode cX8_isNear 99 = .ok (.aload_n 0, 1) := by decide +kernel
theorem dX8_isNear_100 : decode cX8_isNear 100 = .ok (.iload_n 2, 1) := by decide +kernel
theorem dX8_isNear_101 : decode cX8_isNear 101 = .ok (.ifCond .eq 10, 3) := by decide +kernel
theorem dX8_isNear_104 : decode cX8_isNear 104 = .ok (.aload_n 0, 1) := by decide +kernel
theorem dX8_isNear_105 : decode cX8_isNear 105 = .ok (.invokevirtual 207, 3) := by decide +kernel
theorem dX8_isNear_108 : decode cX8_isNear 108 = .ok (.goto 4, 3) := by decide +kernel
theorem dX8_isNear_111 : decode cX8_isNear 111 = .ok (.lconst 0, 1) := by decide +kernel
theorem dX8_isNear_112 : decode cX8_isNear 112 = .ok (.putfield 240, 3) := by decide +kernel
theorem dX8_isNear_115 : decode cX8_isNear 115 = .ok (.iconst 0, 1) := by decide +kernel
theorem dX8_isNear_116 : decode cX8_isNear 116 = .ok (.istore_n 3, 1) := by decide +kernel
theorem dX8_isNear_117 : decode cX8_isNear 117 = .ok (.iload_n 3, 1) := by decide +kernel
theorem dX8_isNear_118 : decode cX8_isNear 118 = .ok (.bipush 9, 2) := by decide +kernel
theorem dX8_isNear_120 : decode cX8_isNear 120 = .ok (.if_icmp .ge 21, 3) := by decide +kernel
theorem dX8_isNear_123 : decode cX8_isNear 123 = .ok (.aload_n 0, 1) := by decide +kernel
theorem dX8_isNear_124 : decode cX8_isNear 124 = .ok (.getfield 13, 3) := by decide +kernel
theorem dX8_isNear_127 : decode cX8_isNear 127 = .ok (.iload_n 3, 1) := by decide +kernel
theorem dX8_isNear_128 : decode cX8_isNear 128 = .ok (.aload_n 0, 1) := by decide +kernel
theorem dX8_isNear_129 : decode cX8_isNear 129 = .ok (.getfield 57, 3) := by decide +kernel
theorem dX8_isNear_132 : decode cX8_isNear 132 = .ok (.iload_n 3, 1) := by decide +kernel
theorem dX8_isNear_133 : decode cX8_isNear 133 = .ok (.iaload, 1) := by decide +kernel
theorem dX8_isNear_134 : decode cX8_isNear 134 = .ok (.iastore, 1) := by decide +kernel
theorem dX8_isNear_135 : decode cX8_isNear 135 = .ok (.iinc 3 1, 3) := by decide +kernel
theorem dX8_isNear_138 : decode cX8_isNear 138 = .ok (.goto (-21), 3) := by decide +kernel
theorem dX8_isNear_141 : decode cX8_isNear 141 = .ok (.iconst 0, 1) := by decide +kernel
theorem dX8_isNear_142 : decode cX8_isNear 142 = .ok (.istore_n 3, 1) := by decide +kernel
theorem dX8_isNear_143 : decode cX8_isNear 143 = .ok (.iload_n 3, 1) := by decide +kernel
theorem dX8_isNear_144 : decode cX8_isNear 144 = .ok (.iconst 3, 1) := by decide +kernel
theorem dX8_isNear_145 : decode cX8_isNear 145 = .ok (.if_icmp .ge 24, 3) := by decide +kernel
theorem dX8_isNear_148 : decode cX8_isNear 148 = .ok (.aload_n 0, 1) := by decide +kernel
theorem dX8_isNear_149 : decode cX8_isNear 149 = .ok (.getfield 17, 3) := by decide +kernel
theorem dX8_isNear_152 : decode cX8_isNear 152 = .ok (.iload_n 3, 1) := by decide +kernel
theorem dX8_isNear_153 : decode cX8_isNear 153 = .ok (.aload_n 0, 1) := by decide +kernel
theorem dX8_isNear_154 : decode cX8_isNear 154 = .ok (.getfield 57, 3) := by decide +kernel
theorem dX8_isNear_157 : decode cX8_isNear 157 = .ok (.bipush 9, 2) := by decide +kernel
theorem dX8_isNear_159 : decode cX8_isNear 159 = .ok (.iload_n 3, 1) := by decide +kernel
theorem dX8_isNear_160 : decode cX8_isNear 160 = .ok (.iadd, 1) := by decide +kernel
theorem dX8_isNear_161 : decode cX8_isNear 161 = .ok (.iaload, 1) := by decide +kernel
theorem dX8_isNear_162 : decode cX8_isNear 162 = .ok (.iastore, 1) := by decide +kernel
theorem dX8_isNear_163 : decode cX8_isNear 163 = .ok (.iinc 3 1, 3) := by decide +kernel
theorem dX8_isNear_166 : decode cX8_isNear 166 = .ok (.goto (-23), 3) := by decide +kernel
theorem dX8_isNear_169 : decode cX8_isNear 169 = .ok (.iload_n 2, 1) := by decide +kernel
theorem dX8_isNear_170 : decode cX8_isNear 170 = .ok (.ireturn, 1) := by decide +kernel
theorem dX8_isPlace_0 : decode cX8_isPlace 0 = .ok (.iload_n 0, 1) := by decide +kernel
theorem dX8_isPlace_1 : decode cX8_isPlace 1 = .ok (.i2l, 1) := by decide +kernel
theorem dX8_isPlace_2 : decode cX8_isPlace 2 = .ok (.ldc2_w 106, 3) := by decide +kernel
theorem dX8_isPlace_5 : decode cX8_isPlace 5 = .ok (.ldc2_w 108, 3) := by decide +kernel
theorem dX8_isPlace_8 : decode cX8_isPlace 8 = .ok (.invokestatic 84, 3) := by decide +kernel
theorem dX8_isPlace_11 : decode cX8_isPlace 11 = .ok (.ifCond .eq 35, 3) := by decide +kernel
theorem dX8_isPlace_14 : decode cX8_isPlace 14 = .ok (.iload_n 1, 1) := by decide +kernel
theorem dX8_isPlace_15 : decode cX8_isPlace 15 = .ok (.i2l, 1) := by decide +kernel
theorem dX8_isPlace_16 : decode cX8_isPlace 16 = .ok (.ldc2_w 106, 3) := by decide +kernel
theorem dX8_isPlace_19 : decode cX8_isPlace 19 = .ok (.ldc2_w 108, 3) := by decide +kernel
theorem dX8_isPlace_22 : decode cX8_isPlace 22 = .ok (.invokestatic 84, 3) := by decide +kernel
theorem dX8_isPlace_25 : decode cX8_isPlace 25 = .ok (.ifCond .eq 21, 3) := by decide +kernel
theorem dX8_isPlace_28 : decode cX8_isPlace 28 = .ok (.iload_n 2, 1) := by decide +kernel
theorem dX8_isPlace_29 : decode cX8_isPlace 29 = .ok (.i2l, 1) := by decide +kernel
theorem dX8_isPlace_30 : decode cX8_isPlace 30 = .ok (.ldc2_w 106, 3) := by decide +kernel
theorem dX8_isPlace_33 : decode cX8_isPlace 33 = .ok (.ldc2_w 108, 3) := by decide +kernel
theorem dX8_isPlace_36 : decode cX8_isPlace 36 = .ok (.invokestatic 84, 3) := by decide +kernel
theorem dX8_isPlace_39 : decode cX8_isPlace 39 = .ok (.ifCond .eq 7, 3) := by decide +kernel
theorem dX8_isPlace_42 : decode cX8_isPlace 42 = .ok (.iconst 1, 1) := by decide +kernel
theorem dX8_isPlace_43 : decode cX8_isPlace 43 = .ok (.goto 4, 3) := by decide +kernel
theorem dX8_isPlace_46 : decode cX8_isPlace 46 = .ok (.iconst 0, 1) := by decide +kernel
theorem dX8_isPlace_47 : decode cX8_isPlace 47 = .ok (.ireturn, 1) := by decide +kernel
theorem dX8_nearest_0 : decode cX8_nearest 0 = .ok (.iload_n 1, 1) := by decide +kernel
theorem dX8_nearest_1 : decode cX8_nearest 1 = .ok (.iload_n 2, 1) := by decide +kernel
theorem dX8_nearest_2 : decode cX8_nearest 2 = .ok (.iload_n 3, 1) := by decide +kernel
theorem dX8_nearest_3 : decode cX8_nearest 3 = .ok (.invokestatic 243, 3) := by decide +kernel
theorem dX8_nearest_6 : decode cX8_nearest 6 = .ok (.ifCond .eq 20, 3) := by decide +kernel
theorem dX8_nearest_9 : decode cX8_nearest 9 = .ok (.aload_n 0, 1) := by decide +kernel
theorem dX8_nearest_10 : decode cX8_nearest 10 = .ok (.iload 4, 2) := by decide +kernel
theorem dX8_nearest_12 : decode cX8_nearest 12 = .ok (.invokevirtual 96, 3) := by decide +kernel
theorem dX8_nearest_15 : decode cX8_nearest 15 = .ok (.ifCond .eq 11, 3) := by decide +kernel
theorem dX8_nearest_18 : decode cX8_nearest 18 = .ok (.iload 5, 2) := by decide +kernel
theorem dX8_nearest_20 : decode cX8_nearest 20 = .ok (.invokestatic 193, 3) := by decide +kernel
theorem dX8_nearest_23 : decode cX8_nearest 23 = .ok (.ifCond .ne 9, 3) := by decide +kernel
theorem dX8_nearest_26 : decode cX8_nearest 26 = .ok (.bipush (-2), 2) := by decide +kernel
theorem dX8_nearest_28 : decode cX8_nearest 28 = .ok (.invokestatic 200, 3) := by decide +kernel
theorem dX8_nearest_31 : decode cX8_nearest 31 = .ok (.lreturn, 1) := by decide +kernel
theorem dX8_nearest_32 : decode cX8_nearest 32 = .ok (.iconst 3, 1) := by decide +kernel
theorem dX8_nearest_33 : decode cX8_nearest 33 = .ok (.newarray .int, 2) := by decide +kernel
theorem dX8_nearest_35 : decode cX8_nearest 35 = .ok (.dup, 1) := by decide +kernel
theorem dX8_nearest_36 : decode cX8_nearest 36 = .ok (.iconst 0, 1) := by decide +kernel
theorem dX8_nearest_37 : decode cX8_nearest 37 = .ok (.iload_n 1, 1) := by decide +kernel
theorem dX8_nearest_38 : decode cX8_nearest 38 = .ok (.iastore, 1) := by decide +kernel
theorem dX8_nearest_39 : decode cX8_nearest 39 = .ok (.dup, 1) := by decide +kernel
theorem dX8_nearest_40 : decode cX8_nearest 40 = .ok (.iconst 1, 1) := by decide +kernel
theorem dX8_nearest_41 : decode cX8_nearest 41 = .ok (.iload_n 2, 1) := by decide +kernel
theorem dX8_nearest_42 : decode cX8_nearest 42 = .ok (.iastore, 1) := by decide +kernel
theorem dX8_nearest_43 : decode cX8_nearest 43 = .ok (.dup, 1) := by decide +kernel
theorem dX8_nearest_44 : decode cX8_nearest 44 = .ok (.iconst 2, 1) := by decide +kernel
theorem dX8_nearest_45 : decode cX8_nearest 45 = .ok (.iload_n 3, 1) := by decide +kernel
theorem dX8_nearest_46 : decode cX8_nearest 46 = .ok (.iastore, 1) := by decide +kernel
theorem dX8_nearest_47 : decode cX8_nearest 47 = .ok (.astore 6, 2) := by decide +kernel
theorem dX8_nearest_49 : decode cX8_nearest 49 = .ok (.aload_n 0, 1) := by decide +kernel
theorem dX8_nearest_50 : decode cX8_nearest 50 = .ok (.aload 6, 2) := by decide +kernel
theorem dX8_nearest_52 : decode cX8_nearest 52 = .ok (.invokevirtual 247, 3) := by decide +kernel
theorem dX8_nearest_55 : decode cX8_nearest 55 = .ok (.ifCond .eq 22, 3) := by decide +kernel
theorem dX8_nearest_58 : decode cX8_nearest 58 = .ok (.aload_n 0, 1) := by decide +kernel
theorem dX8_nearest_59 : decode cX8_nearest 59 = .ok (.getfield 36, 3) := by decide +kernel
theorem dX8_nearest_62 : decode cX8_nearest 62 = .ok (.iload 4, 2) := by decide +kernel
theorem dX8_nearest_64 : decode cX8_nearest 64 = .ok (.laload, 1) := by decide +kernel
theorem dX8_nearest_65 : decode cX8_nearest 65 = .ok (.aload_n 0, 1) := by decide +kernel
theorem dX8_nearest_66 : decode cX8_nearest 66 = .ok (.getfield 161, 3) := by decide +kernel
theorem dX8_nearest_69 : decode cX8_nearest 69 = .ok (.iload 5, 2) := by decide +kernel
theorem dX8_nearest_71 : decode cX8_nearest 71 = .ok (.invokestatic 203, 3) := by decide +kernel
theorem dX8_nearest_74 : decode cX8_nearest 74 = .ok (.goto 7, 3) := by decide +kernel
theorem dX8_nearest_77 : decode cX8_nearest 77 = .ok (.iconst (-1), 1) := by decide +kernel
theorem dX8_nearest_78 : decode cX8_nearest 78 = .ok (.invokestatic 200, 3) := by decide +kernel
theorem dX8_nearest_81 : decode cX8_nearest 81 = .ok (.lreturn, 1) := by decide +kernel
theorem dX8_distance_0 : decode cX8_distance 0 = .ok (.iload_n 1, 1) := by decide +kernel
theorem dX8_distance_1 : decode cX8_distance 1 = .ok (.iload_n 2, 1) := by decide +kernel
theorem dX8_distance_2 : decode cX8_distance 2 = .ok (.iload_n 3, 1) := by decide +kernel
theorem dX8_distance_3 : decode cX8_distance 3 = .ok (.invokestatic 243, 3) := by decide +kernel
theorem dX8_distance_6 : decode cX8_distance 6 = .ok (.ifCond .eq 11, 3) := by decide +kernel
theorem dX8_distance_9 : decode cX8_distance 9 = .ok (.iload 4, 2) := by decide +kernel
theorem dX8_distance_11 : decode cX8_distance 11 = .ok (.invokestatic 193, 3) := by decide +kernel
theorem dX8_distance_14 : decode cX8_distance 14 = .ok (.ifCond .ne 9, 3) := by decide +kernel
theorem dX8_distance_17 : decode cX8_distance 17 = .ok (.bipush (-2), 2) := by decide +kernel
theorem dX8_distance_19 : decode cX8_distance 19 = .ok (.invokestatic 200, 3) := by decide +kernel
theorem dX8_distance_22 : decode cX8_distance 22 = .ok (.lreturn, 1) := by decide +kernel
theorem dX8_distance_23 : decode cX8_distance 23 = .ok (.iconst 3, 1) := by decide +kernel
theorem dX8_distance_24 : decode cX8_distance 24 = .ok (.newarray .int, 2) := by decide +kernel
theorem dX8_distance_26 : decode cX8_distance 26 = .ok (.dup, 1) := by decide +kernel
theorem dX8_distance_27 : decode cX8_distance 27 = .ok (.iconst 0, 1) := by decide +kernel
theorem dX8_distance_28 : decode cX8_distance 28 = .ok (.iload_n 1, 1) := by decide +kernel
theorem dX8_distance_29 : decode cX8_distance 29 = .ok (.iastore, 1) := by decide +kernel
theorem dX8_distance_30 : decode cX8_distance 30 = .ok (.dup, 1) := by decide +kernel
theorem dX8_distance_31 : decode cX8_distance 31 = .ok (.iconst 1, 1) := by decide +kernel
theorem dX8_distance_32 : decode cX8_distance 32 = .ok (.iload_n 2, 1) := by decide +kernel
theorem dX8_distance_33 : decode cX8_distance 33 = .ok (.iastore, 1) := by decide +kernel
theorem dX8_distance_34 : decode cX8_distance 34 = .ok (.dup, 1) := by decide +kernel
theorem dX8_distance_35 : decode cX8_distance 35 = .ok (.iconst 2, 1) := by decide +kernel
theorem dX8_distance_36 : decode cX8_distance 36 = .ok (.iload_n 3, 1) := by decide +kernel
theorem dX8_distance_37 : decode cX8_distance 37 = .ok (.iastore, 1) := by decide +kernel
theorem dX8_distance_38 : decode cX8_distance 38 = .ok (.astore 5, 2) := by decide +kernel
theorem dX8_distance_40 : decode cX8_distance 40 = .ok (.aload_n 0, 1) := by decide +kernel
theorem dX8_distance_41 : decode cX8_distance 41 = .ok (.aload 5, 2) := by decide +kernel
theorem dX8_distance_43 : decode cX8_distance 43 = .ok (.invokevirtual 247, 3) := by decide +kernel
theorem dX8_distance_46 : decode cX8_distance 46 = .ok (.ifCond .ne 8, 3) := by decide +kernel
theorem dX8_distance_49 : decode cX8_distance 49 = .ok (.iconst (-1), 1) := by decide +kernel
theorem dX8_distance_50 : decode cX8_distance 50 = .ok (.invokestatic 200, 3) := by decide +kernel
theorem dX8_distance_53 : decode cX8_distance 53 = .ok (.lreturn, 1) := by decide +kernel
theorem dX8_distance_54 : decode cX8_distance 54 = .ok (.lconst 0, 1) := by decide +kernel
theorem dX8_distance_55 : decode cX8_distance 55 = .ok (.lstore 6, 2) := by decide +kernel
theorem dX8_distance_57 : decode cX8_distance 57 = .ok (.iconst 0, 1) := by decide +kernel
theorem dX8_distance_58 : decode cX8_distance 58 = .ok (.istore 8, 2) := by decide +kernel
theorem dX8_distance_60 : decode cX8_distance 60 = .ok (.iload 8, 2) := by decide +kernel
theorem dX8_distance_62 : decode cX8_distance 62 = .ok (.aload_n 0, 1) := by decide +kernel
theorem dX8_distance_63 : decode cX8_distance 63 = .ok (.getfield 7, 3) := by decide +kernel
theorem dX8_distance_66 : decode cX8_distance 66 = .ok (.if_icmp .ge 26, 3) := by decide +kernel
theorem dX8_distance_69 : decode cX8_distance 69 = .ok (.lload 6, 2) := by decide +kernel
theorem dX8_distance_71 : decode cX8_distance 71 = .ok (.aload 5, 2) := by decide +kernel
theorem dX8_distance_73 : decode cX8_distance 73 = .ok (.iload 8, 2) := by decide +kernel
theorem dX8_distance_75 : decode cX8_distance 75 = .ok (.iaload, 1) := by decide +kernel
theorem dX8_distance_76 : decode cX8_distance 76 = .ok (.aload 5, 2) := by decide +kernel
theorem dX8_distance_78 : decode cX8_distance 78 = .ok (.iload 8, 2) := by decide +kernel
theorem dX8_distance_80 : decode cX8_distance 80 = .ok (.iaload, 1) := by decide +kernel
theorem dX8_distance_81 : decode cX8_distance 81 = .ok (.imul, 1) := by decide +kernel
theorem dX8_distance_82 : decode cX8_distance 82 = .ok (.i2l, 1) := by decide +kernel
theorem dX8_distance_83 : decode cX8_distance 83 = .ok (.ladd, 1) := by decide +kernel
theorem dX8_distance_84 : decode cX8_distance 84 = .ok (.lstore 6, 2) := by decide +kernel
theorem dX8_distance_86 : decode cX8_distance 86 = .ok (.iinc 8 1, 3) := by decide +kernel
theorem dX8_distance_89 : decode cX8_distance 89 = .ok (.goto (-29), 3) := by decide +kernel
theorem dX8_distance_92 : decode cX8_distance 92 = .ok (.aload_n 0, 1) := by decide +kernel
theorem dX8_distance_93 : decode cX8_distance 93 = .ok (.getfield 240, 3) := by decide +kernel
theorem dX8_distance_96 : decode cX8_distance 96 = .ok (.lload 6, 2) := by decide +kernel
theorem dX8_distance_98 : decode cX8_distance 98 = .ok (.aload_n 0, 1) := by decide +kernel
theorem dX8_distance_99 : decode cX8_distance 99 = .ok (.getfield 161, 3) := by decide +kernel
theorem dX8_distance_102 : decode cX8_distance 102 = .ok (.lmul, 1) := by decide +kernel
theorem dX8_distance_103 : decode cX8_distance 103 = .ok (.ladd, 1) := by decide +kernel
theorem dX8_distance_104 : decode cX8_distance 104 = .ok (.aload_n 0, 1) := by decide +kernel
theorem dX8_distance_105 : decode cX8_distance 105 = .ok (.getfield 161, 3) := by decide +kernel
theorem dX8_distance_108 : decode cX8_distance 108 = .ok (.iload 4, 2) := by decide +kernel
theorem dX8_distance_110 : decode cX8_distance 110 = .ok (.invokestatic 203, 3) := by decide +kernel
theorem dX8_distance_113 : decode cX8_distance 113 = .ok (.lreturn, 1) := by decide +kernel
theorem dX8_certify_0 : decode cX8_certify 0 = .ok (.iload_n 1, 1) := by decide +kernel
theorem dX8_certify_1 : decode cX8_certify 1 = .ok (.invokestatic 251, 3) := by decide +kernel
theorem dX8_certify_4 : decode cX8_certify 4 = .ok (.ifCond .ne 6, 3) := by decide +kernel
theorem dX8_certify_7 : decode cX8_certify 7 = .ok (.bipush (-2), 2) := by decide +kernel
theorem dX8_certify_9 : decode cX8_certify 9 = .ok (.ireturn, 1) := by decide +kernel
theorem dX8_certify_10 : decode cX8_certify 10 = .ok (.aload_n 0, 1) := by decide +kernel
theorem dX8_certify_11 : decode cX8_certify 11 = .ok (.aload_n 0, 1) := by decide +kernel
theorem dX8_certify_12 : decode cX8_certify 12 = .ok (.invokevirtual 220, 3) := by decide +kernel
theorem dX8_certify_15 : decode cX8_certify 15 = .ok (.iconst 1, 1) := by decide +kernel
theorem dX8_certify_16 : decode cX8_certify 16 = .ok (.invokevirtual 196, 3) := by decide +kernel
theorem dX8_certify_19 : decode cX8_certify 19 = .ok (.istore_n 2, 1) := by decide +kernel
theorem dX8_certify_20 : decode cX8_certify 20 = .ok (.iload_n 2, 1) := by decide +kernel
theorem dX8_certify_21 : decode cX8_certify 21 = .ok (.ifCond .eq 5, 3) := by decide +kernel
theorem dX8_certify_24 : decode cX8_certify 24 = .ok (.iload_n 2, 1) := by decide +kernel
theorem dX8_certify_25 : decode cX8_certify 25 = .ok (.ireturn, 1) := by decide +kernel
theorem dX8_certify_26 : decode cX8_certify 26 = .ok (.aload_n 0, 1) := by decide +kernel
theorem dX8_certify_27 : decode cX8_certify 27 = .ok (.getfield 161, 3) := by decide +kernel
theorem dX8_certify_30 : decode cX8_certify 30 = .ok (.lstore_n 3, 1) := by decide +kernel
theorem dX8_certify_31 : decode cX8_certify 31 = .ok (.iconst 0, 1) := by decide +kernel
theorem dX8_certify_32 : decode cX8_certify 32 = .ok (.istore 5, 2) := by decide +kernel
theorem dX8_certify_34 : decode cX8_certify 34 = .ok (.iload 5, 2) := by decide +kernel
theorem dX8_certify_36 : decode cX8_certify 36 = .ok (.aload_n 0, 1) := by decide +kernel
theorem dX8_certify_37 : decode cX8_certify 37 = .ok (.getfield 7, 3) := by decide +kernel
theorem dX8_certify_40 : decode cX8_certify 40 = .ok (.if_icmp .ge 21, 3) := by decide +kernel
theorem dX8_certify_43 : decode cX8_certify 43 = .ok (.aload_n 0, 1) := by decide +kernel
theorem dX8_certify_44 : decode cX8_certify 44 = .ok (.getfield 36, 3) := by decide +kernel
theorem dX8_certify_47 : decode cX8_certify 47 = .ok (.iload 5, 2) := by decide +kernel
theorem dX8_certify_49 : decode cX8_certify 49 = .ok (.laload, 1) := by decide +kernel
theorem dX8_certify_50 : decode cX8_certify 50 = .ok (.lload_n 3, 1) := by decide +kernel
theorem dX8_certify_51 : decode cX8_certify 51 = .ok (.invokestatic 71, 3) := by decide +kernel
theorem dX8_certify_54 : decode cX8_certify 54 = .ok (.lstore_n 3, 1) := by decide +kernel
theorem dX8_certify_55 : decode cX8_certify 55 = .ok (.iinc 5 1, 3) := by decide +kernel
theorem dX8_certify_58 : decode cX8_certify 58 = .ok (.goto (-24), 3) := by decide +kernel
theorem dX8_certify_61 : decode cX8_certify 61 = .ok (.iconst 0, 1) := by decide +kernel
theorem dX8_certify_62 : decode cX8_certify 62 = .ok (.istore 5, 2) := by decide +kernel
theorem dX8_certify_64 : decode cX8_certify 64 = .ok (.iload 5, 2) := by decide +kernel
theorem dX8_certify_66 : decode cX8_certify 66 = .ok (.aload_n 0, 1) := by decide +kernel
theorem dX8_certify_67 : decode cX8_certify 67 = .ok (.getfield 88, 3) := by decide +kernel
theorem dX8_certify_70 : decode cX8_certify 70 = .ok (.if_icmp .ge 21, 3) := by decide +kernel
theorem dX8_certify_73 : decode cX8_certify 73 = .ok (.aload_n 0, 1) := by decide +kernel
theorem dX8_certify_74 : decode cX8_certify 74 = .ok (.getfield 39, 3) := by decide +kernel
theorem dX8_certify_77 : decode cX8_certify 77 = .ok (.iload 5, 2) := by decide +kernel
theorem dX8_certify_79 : decode cX8_certify 79 = .ok (.laload, 1) := by decide +kernel
theorem dX8_certify_80 : decode cX8_certify 80 = .ok (.lload_n 3, 1) := by decide +kernel
theorem dX8_certify_81 : decode cX8_certify 81 = .ok (.invokestatic 71, 3) := by decide +kernel
theorem dX8_certify_84 : decode cX8_certify 84 = .ok (.lstore_n 3, 1) := by decide +kernel
theorem dX8_certify_85 : decode cX8_certify 85 = .ok (.iinc 5 1, 3) := by decide +kernel
theorem dX8_certify_88 : decode cX8_certify 88 = .ok (.goto (-24), 3) := by decide +kernel
theorem dX8_certify_91 : decode cX8_certify 91 = .ok (.aload_n 0, 1) := by decide +kernel
theorem dX8_certify_92 : decode cX8_certify 92 = .ok (.iload_n 1, 1) := by decide +kernel
theorem dX8_certify_93 : decode cX8_certify 93 = .ok (.iconst 1, 1) := by decide +kernel
theorem dX8_certify_94 : decode cX8_certify 94 = .ok (.aload_n 0, 1) := by decide +kernel
theorem dX8_certify_95 : decode cX8_certify 95 = .ok (.getfield 7, 3) := by decide +kernel
theorem dX8_certify_98 : decode cX8_certify 98 = .ok (.aload_n 0, 1) := by decide +kernel
theorem dX8_certify_99 : decode cX8_certify 99 = .ok (.getfield 88, 3) := by decide +kernel
theorem dX8_certify_102 : decode cX8_certify 102 = .ok (.iadd, 1) := by decide +kernel
theorem dX8_certify_103 : decode cX8_certify 103 = .ok (.iconst 1, 1) := by decide +kernel
theorem dX8_certify_104 : decode cX8_certify 104 = .ok (.iadd, 1) := by decide +kernel
theorem dX8_certify_105 : decode cX8_certify 105 = .ok (.invokevirtual 254, 3) := by decide +kernel
theorem dX8_certify_108 : decode cX8_certify 108 = .ok (.iconst 0, 1) := by decide +kernel
theorem dX8_certify_109 : decode cX8_certify 109 = .ok (.istore 5, 2) := by decide +kernel
theorem dX8_certify_111 : decode cX8_certify 111 = .ok (.iload 5, 2) := by decide +kernel
theorem dX8_certify_113 : decode cX8_certify 113 = .ok (.aload_n 0, 1) := by decide +kernel
theorem dX8_certify_114 : decode cX8_certify 114 = .ok (.getfield 7, 3) := by decide +kernel
theorem dX8_certify_117 : decode cX8_certify 117 = .ok (.if_icmp .ge 30, 3) := by decide +kernel
theorem dX8_certify_120 : decode cX8_certify 120 = .ok (.aload_n 0, 1) := by decide +kernel
theorem dX8_certify_121 : decode cX8_certify 121 = .ok (.getfield 66, 3) := by decide +kernel
theorem dX8_certify_124 : decode cX8_certify 124 = .ok (.bipush 12, 2) := by decide +kernel
theorem dX8_certify_126 : decode cX8_certify 126 = .ok (.iload_n 1, 1) := by decide +kernel
theorem dX8_certify_127 : decode cX8_certify 127 = .ok (.imul, 1) := by decide +kernel
theorem dX8_certify_128 : decode cX8_certify 128 = .ok (.iload 5, 2) := by decide +kernel
theorem dX8_certify_130 : decode cX8_certify 130 = .ok (.iadd, 1) := by decide +kernel
theorem dX8_certify_131 : decode cX8_certify 131 = .ok (.aload_n 0, 1) := by decide +kernel
theorem dX8_certify_132 : decode cX8_certify 132 = .ok (.getfield 36, 3) := by decide +kernel
theorem dX8_certify_135 : decode cX8_certify 135 = .ok (.iload 5, 2) := by decide +kernel
theorem dX8_certify_137 : decode cX8_certify 137 = .ok (.laload, 1) := by decide +kernel
theorem dX8_certify_138 : decode cX8_certify 138 = .ok (.lload_n 3, 1) := by decide +kernel
theorem dX8_certify_139 : decode cX8_certify 139 = .ok (.ldiv, 1) := by decide +kernel
theorem dX8_certify_140 : decode cX8_certify 140 = .ok (.lastore, 1) := by decide +kernel
theorem dX8_certify_141 : decode cX8_certify 141 = .ok (.iinc 5 1, 3) := by decide +kernel
theorem dX8_certify_144 : decode cX8_certify 144 = .ok (.goto (-33), 3) := by decide +kernel
theorem dX8_certify_147 : decode cX8_certify 147 = .ok (.iconst 0, 1) := by decide +kernel
theorem dX8_certify_148 : decode cX8_certify 148 = .ok (.istore 5, 2) := by decide +kernel
theorem dX8_certify_150 : decode cX8_certify 150 = .ok (.iload 5, 2) := by decide +kernel
theorem dX8_certify_152 : decode cX8_certify 152 = .ok (.aload_n 0, 1) := by decide +kernel
theorem dX8_certify_153 : decode cX8_certify 153 = .ok (.getfield 88, 3) := by decide +kernel
theorem dX8_certify_156 : decode cX8_certify 156 = .ok (.if_icmp .ge 35, 3) := by decide +kernel
theorem dX8_certify_159 : decode cX8_certify 159 = .ok (.aload_n 0, 1) := by decide +kernel
theorem dX8_certify_160 : decode cX8_certify 160 = .ok (.getfield 66, 3) := by decide +kernel
theorem dX8_certify_163 : decode cX8_certify 163 = .ok (.bipush 12, 2) := by decide +kernel
theorem dX8_certify_165 : decode cX8_certify 165 = .ok (.iload_n 1, 1) := by decide +kernel
theorem dX8_certify_166 : decode cX8_certify 166 = .ok (.imul, 1) := by decide +kernel
theorem dX8_certify_167 : decode cX8_certify 167 = .ok (.aload_n 0, 1) := by decide +kernel
theorem dX8_certify_168 : decode cX8_certify 168 = .ok (.getfield 7, 3) := by decide +kernel
theorem dX8_certify_171 : decode cX8_certify 171 = .ok (.iadd, 1) := by decide +kernel
theorem dX8_certify_172 : decode cX8_certify 172 = .ok (.iload 5, 2) := by decide +kernel
theorem dX8_certify_174 : decode cX8_certify 174 = .ok (.iadd, 1) := by decide +kernel
theorem dX8_certify_175 : decode cX8_certify 175 = .ok (.aload_n 0, 1) := by decide +kernel
theorem dX8_certify_176 : decode cX8_certify 176 = .ok (.getfield 39, 3) := by decide +kernel
theorem dX8_certify_179 : decode cX8_certify 179 = .ok (.iload 5, 2) := by decide +kernel
theorem dX8_certify_181 : decode cX8_certify 181 = .ok (.laload, 1) := by decide +kernel
theorem dX8_certify_182 : decode cX8_certify 182 = .ok (.lload_n 3, 1) := by decide +kernel
theorem dX8_certify_183 : decode cX8_certify 183 = .ok (.ldiv, 1) := by decide +kernel
theorem dX8_certify_184 : decode cX8_certify 184 = .ok (.lastore, 1) := by decide +kernel
theorem dX8_certify_185 : decode cX8_certify 185 = .ok (.iinc 5 1, 3) := by decide +kernel
theorem dX8_certify_188 : decode cX8_certify 188 = .ok (.goto (-38), 3) := by decide +kernel
theorem dX8_certify_191 : decode cX8_certify 191 = .ok (.aload_n 0, 1) := by decide +kernel
theorem dX8_certify_192 : decode cX8_certify 192 = .ok (.getfield 66, 3) := by decide +kernel
theorem dX8_certify_195 : decode cX8_certify 195 = .ok (.bipush 12, 2) := by decide +kernel
theorem dX8_certify_197 : decode cX8_certify 197 = .ok (.iload_n 1, 1) := by decide +kernel
theorem dX8_certify_198 : decode cX8_certify 198 = .ok (.imul, 1) := by decide +kernel
theorem dX8_certify_199 : decode cX8_certify 199 = .ok (.aload_n 0, 1) := by decide +kernel
theorem dX8_certify_200 : decode cX8_certify 200 = .ok (.getfield 7, 3) := by decide +kernel
theorem dX8_certify_203 : decode cX8_certify 203 = .ok (.iadd, 1) := by decide +kernel
theorem dX8_certify_204 : decode cX8_certify 204 = .ok (.aload_n 0, 1) := by decide +kernel
theorem dX8_certify_205 : decode cX8_certify 205 = .ok (.getfield 88, 3) := by decide +kernel
theorem dX8_certify_208 : decode cX8_certify 208 = .ok (.iadd, 1) := by decide +kernel
theorem dX8_certify_209 : decode cX8_certify 209 = .ok (.aload_n 0, 1) := by decide +kernel
theorem dX8_certify_210 : decode cX8_certify 210 = .ok (.getfield 161, 3) := by decide +kernel
theorem dX8_certify_213 : decode cX8_certify 213 = .ok (.lload_n 3, 1) := by decide +kernel
theorem dX8_certify_214 : decode cX8_certify 214 = .ok (.ldiv, 1) := by decide +kernel
theorem dX8_certify_215 : decode cX8_certify 215 = .ok (.lastore, 1) := by decide +kernel
theorem dX8_certify_216 : decode cX8_certify 216 = .ok (.aload_n 0, 1) := by decide +kernel
theorem dX8_certify_217 : decode cX8_certify 217 = .ok (.getfield 7, 3) := by decide +kernel
theorem dX8_certify_220 : decode cX8_certify 220 = .ok (.aload_n 0, 1) := by decide +kernel
theorem dX8_certify_221 : decode cX8_certify 221 = .ok (.getfield 88, 3) := by decide +kernel
theorem dX8_certify_224 : decode cX8_certify 224 = .ok (.iadd, 1) := by decide +kernel
theorem dX8_certify_225 : decode cX8_certify 225 = .ok (.iconst 1, 1) := by decide +kernel
theorem dX8_certify_226 : decode cX8_certify 226 = .ok (.iadd, 1) := by decide +kernel
theorem dX8_certify_227 : decode cX8_certify 227 = .ok (.ireturn, 1) := by decide +kernel
theorem dX8_isStill_0 : decode cX8_isStill 0 = .ok (.iconst 1, 1) := by decide +kernel
theorem dX8_isStill_1 : decode cX8_isStill 1 = .ok (.istore_n 1, 1) := by decide +kernel
theorem dX8_isStill_2 : decode cX8_isStill 2 = .ok (.iconst 0, 1) := by decide +kernel
theorem dX8_isStill_3 : decode cX8_isStill 3 = .ok (.istore_n 2, 1) := by decide +kernel
theorem dX8_isStill_4 : decode cX8_isStill 4 = .ok (.iload_n 2, 1) := by decide +kernel
theorem dX8_isStill_5 : decode cX8_isStill 5 = .ok (.aload_n 0, 1) := by decide +kernel
theorem dX8_isStill_6 : decode cX8_isStill 6 = .ok (.getfield 7, 3) := by decide +kernel
theorem dX8_isStill_9 : decode cX8_isStill 9 = .ok (.if_icmp .ge 114, 3) := by decide +kernel
theorem dX8_isStill_12 : decode cX8_isStill 12 = .ok (.aload_n 0, 1) := by decide +kernel
theorem dX8_isStill_13 : decode cX8_isStill 13 = .ok (.getfield 17, 3) := by decide +kernel
theorem dX8_isStill_16 : decode cX8_isStill 16 = .ok (.iload_n 2, 1) := by decide +kernel
theorem dX8_isStill_17 : decode cX8_isStill 17 = .ok (.iaload, 1) := by decide +kernel
theorem dX8_isStill_18 : decode cX8_isStill 18 = .ok (.i2l, 1) := by decide +kernel
theorem dX8_isStill_19 : decode cX8_isStill 19 = .ok (.aload_n 0, 1) := by decide +kernel
theorem dX8_isStill_20 : decode cX8_isStill 20 = .ok (.getfield 161, 3) := by decide +kernel
theorem dX8_isStill_23 : decode cX8_isStill 23 = .ok (.lmul, 1) := by decide +kernel
theorem dX8_isStill_24 : decode cX8_isStill 24 = .ok (.lstore_n 3, 1) := by decide +kernel
theorem dX8_isStill_25 : decode cX8_isStill 25 = .ok (.iconst 0, 1) := by decide +kernel
theorem dX8_isStill_26 : decode cX8_isStill 26 = .ok (.istore 5, 2) := by decide +kernel
theorem dX8_isStill_28 : decode cX8_isStill 28 = .ok (.iload 5, 2) := by decide +kernel
theorem dX8_isStill_30 : decode cX8_isStill 30 = .ok (.aload_n 0, 1) := by decide +kernel
theorem dX8_isStill_31 : decode cX8_isStill 31 = .ok (.getfield 7, 3) := by decide +kernel
theorem dX8_isStill_34 : decode cX8_isStill 34 = .ok (.if_icmp .ge 32, 3) := by decide +kernel
theorem dX8_isStill_37 : decode cX8_isStill 37 = .ok (.lload_n 3, 1) := by decide +kernel
theorem dX8_isStill_38 : decode cX8_isStill 38 = .ok (.aload_n 0, 1) := by decide +kernel
theorem dX8_isStill_39 : decode cX8_isStill 39 = .ok (.getfield 13, 3) := by decide +kernel
theorem dX8_isStill_42 : decode cX8_isStill 42 = .ok (.iconst 3, 1) := by decide +kernel
theorem dX8_isStill_43 : decode cX8_isStill 43 = .ok (.iload_n 2, 1) := by decide +kernel
theorem dX8_isStill_44 : decode cX8_isStill 44 = .ok (.imul, 1) := by decide +kernel
theorem dX8_isStill_45 : decode cX8_isStill 45 = .ok (.iload 5, 2) := by decide +kernel
theorem dX8_isStill_47 : decode cX8_isStill 47 = .ok (.iadd, 1) := by decide +kernel
theorem dX8_isStill_48 : decode cX8_isStill 48 = .ok (.iaload, 1) := by decide +kernel
theorem dX8_isStill_49 : decode cX8_isStill 49 = .ok (.i2l, 1) := by decide +kernel
theorem dX8_isStill_50 : decode cX8_isStill 50 = .ok (.aload_n 0, 1) := by decide +kernel
theorem dX8_isStill_51 : decode cX8_isStill 51 = .ok (.getfield 36, 3) := by decide +kernel
theorem dX8_isStill_54 : decode cX8_isStill 54 = .ok (.iload 5, 2) := by decide +kernel
theorem dX8_isStill_56 : decode cX8_isStill 56 = .ok (.laload, 1) := by decide +kernel
theorem dX8_isStill_57 : decode cX8_isStill 57 = .ok (.lmul, 1) := by decide +kernel
theorem dX8_isStill_58 : decode cX8_isStill 58 = .ok (.ladd, 1) := by decide +kernel
theorem dX8_isStill_59 : decode cX8_isStill 59 = .ok (.lstore_n 3, 1) := by decide +kernel
theorem dX8_isStill_60 : decode cX8_isStill 60 = .ok (.iinc 5 1, 3) := by decide +kernel
theorem dX8_isStill_63 : decode cX8_isStill 63 = .ok (.goto (-35), 3) := by decide +kernel
theorem dX8_isStill_66 : decode cX8_isStill 66 = .ok (.iconst 0, 1) := by decide +kernel
theorem dX8_isStill_67 : decode cX8_isStill 67 = .ok (.istore 5, 2) := by decide +kernel
theorem dX8_isStill_69 : decode cX8_isStill 69 = .ok (.iload 5, 2) := by decide +kernel
theorem dX8_isStill_71 : decode cX8_isStill 71 = .ok (.aload_n 0, 1) := by decide +kernel
theorem dX8_isStill_72 : decode cX8_isStill 72 = .ok (.getfield 88, 3) := by decide +kernel
theorem dX8_isStill_75 : decode cX8_isStill 75 = .ok (.if_icmp .ge 28, 3) := by decide +kernel
theorem dX8_isStill_78 : decode cX8_isStill 78 = .ok (.lload_n 3, 1) := by decide +kernel
theorem dX8_isStill_79 : decode cX8_isStill 79 = .ok (.aload_n 0, 1) := by decide +kernel
theorem dX8_isStill_80 : decode cX8_isStill 80 = .ok (.iload 5, 2) := by decide +kernel
theorem dX8_isStill_82 : decode cX8_isStill 82 = .ok (.iload_n 2, 1) := by decide +kernel
theorem dX8_isStill_83 : decode cX8_isStill 83 = .ok (.invokevirtual 129, 3) := by decide +kernel
theorem dX8_isStill_86 : decode cX8_isStill 86 = .ok (.i2l, 1) := by decide +kernel
theorem dX8_isStill_87 : decode cX8_isStill 87 = .ok (.aload_n 0, 1) := by decide +kernel
theorem dX8_isStill_88 : decode cX8_isStill 88 = .ok (.getfield 39, 3) := by decide +kernel
theorem dX8_isStill_91 : decode cX8_isStill 91 = .ok (.iload 5, 2) := by decide +kernel
theorem dX8_isStill_93 : decode cX8_isStill 93 = .ok (.laload, 1) := by decide +kernel
theorem dX8_isStill_94 : decode cX8_isStill 94 = .ok (.lmul, 1) := by decide +kernel
theorem dX8_isStill_95 : decode cX8_isStill 95 = .ok (.ladd, 1) := by decide +kernel
theorem dX8_isStill_96 : decode cX8_isStill 96 = .ok (.lstore_n 3, 1) := by decide +kernel
theorem dX8_isStill_97 : decode cX8_isStill 97 = .ok (.iinc 5 1, 3) := by decide +kernel
theorem dX8_isStill_100 : decode cX8_isStill 100 = .ok (.goto (-31), 3) := by decide +kernel
theorem dX8_isStill_103 : decode cX8_isStill 103 = .ok (.iload_n 1, 1) := by decide +kernel
theorem dX8_isStill_104 : decode cX8_isStill 104 = .ok (.lload_n 3, 1) := by decide +kernel
theorem dX8_isStill_105 : decode cX8_isStill 105 = .ok (.lconst 0, 1) := by decide +kernel
theorem dX8_isStill_106 : decode cX8_isStill 106 = .ok (.lcmp, 1) := by decide +kernel
theorem dX8_isStill_107 : decode cX8_isStill 107 = .ok (.ifCond .ne 7, 3) := by decide +kernel
theorem dX8_isStill_110 : decode cX8_isStill 110 = .ok (.iconst 1, 1) := by decide +kernel
theorem dX8_isStill_111 : decode cX8_isStill 111 = .ok (.goto 4, 3) := by decide +kernel
theorem dX8_isStill_114 : decode cX8_isStill 114 = .ok (.iconst 0, 1) := by decide +kernel
theorem dX8_isStill_115 : decode cX8_isStill 115 = .ok (.iand, 1) := by decide +kernel
theorem dX8_isStill_116 : decode cX8_isStill 116 = .ok (.istore_n 1, 1) := by decide +kernel
theorem dX8_isStill_117 : decode cX8_isStill 117 = .ok (.iinc 2 1, 3) := by decide +kernel
theorem dX8_isStill_120 : decode cX8_isStill 120 = .ok (.goto (-116), 3) := by decide +kernel
theorem dX8_isStill_123 : decode cX8_isStill 123 = .ok (.iload_n 1, 1) := by decide +kernel
theorem dX8_isStill_124 : decode cX8_isStill 124 = .ok (.ireturn, 1) := by decide +kernel
theorem dX8_check_0 : decode cX8_check 0 = .ok (.iload_n 1, 1) := by decide +kernel
theorem dX8_check_1 : decode cX8_check 1 = .ok (.invokestatic 251, 3) := by decide +kernel
theorem dX8_check_4 : decode cX8_check 4 = .ok (.ifCond .ne 6, 3) := by decide +kernel
theorem dX8_check_7 : decode cX8_check 7 = .ok (.bipush (-2), 2) := by decide +kernel
theorem dX8_check_9 : decode cX8_check 9 = .ok (.ireturn, 1) := by decide +kernel
theorem dX8_check_10 : decode cX8_check 10 = .ok (.aload_n 0, 1) := by decide +kernel
theorem dX8_check_11 : decode cX8_check 11 = .ok (.getfield 60, 3) := by decide +kernel
theorem dX8_check_14 : decode cX8_check 14 = .ok (.iload_n 1, 1) := by decide +kernel
theorem dX8_check_15 : decode cX8_check 15 = .ok (.iaload, 1) := by decide +kernel
theorem dX8_check_16 : decode cX8_check 16 = .ok (.ifCond .ge 6, 3) := by decide +kernel
theorem dX8_check_19 : decode cX8_check 19 = .ok (.bipush (-11), 2) := by decide +kernel
theorem dX8_check_21 : decode cX8_check 21 = .ok (.ireturn, 1) := by decide +kernel
theorem dX8_check_22 : decode cX8_check 22 = .ok (.aload_n 0, 1) := by decide +kernel
theorem dX8_check_23 : decode cX8_check 23 = .ok (.getfield 63, 3) := by decide +kernel
theorem dX8_check_26 : decode cX8_check 26 = .ok (.iload_n 1, 1) := by decide +kernel
theorem dX8_check_27 : decode cX8_check 27 = .ok (.iaload, 1) := by decide +kernel
theorem dX8_check_28 : decode cX8_check 28 = .ok (.aload_n 0, 1) := by decide +kernel
theorem dX8_check_29 : decode cX8_check 29 = .ok (.getfield 7, 3) := by decide +kernel
theorem dX8_check_32 : decode cX8_check 32 = .ok (.aload_n 0, 1) := by decide +kernel
theorem dX8_check_33 : decode cX8_check 33 = .ok (.getfield 88, 3) := by decide +kernel
theorem dX8_check_36 : decode cX8_check 36 = .ok (.iadd, 1) := by decide +kernel
theorem dX8_check_37 : decode cX8_check 37 = .ok (.iconst 1, 1) := by decide +kernel
theorem dX8_check_38 : decode cX8_check 38 = .ok (.iadd, 1) := by decide +kernel
theorem dX8_check_39 : decode cX8_check 39 = .ok (.if_icmp .eq 6, 3) := by decide +kernel
theorem dX8_check_42 : decode cX8_check 42 = .ok (.bipush (-14), 2) := by decide +kernel
theorem dX8_check_44 : decode cX8_check 44 = .ok (.ireturn, 1) := by decide +kernel
theorem dX8_check_45 : decode cX8_check 45 = .ok (.iconst 0, 1) := by decide +kernel
theorem dX8_check_46 : decode cX8_check 46 = .ok (.istore_n 2, 1) := by decide +kernel
theorem dX8_check_47 : decode cX8_check 47 = .ok (.iconst 0, 1) := by decide +kernel
theorem dX8_check_48 : decode cX8_check 48 = .ok (.istore_n 3, 1) := by decide +kernel
theorem dX8_check_49 : decode cX8_check 49 = .ok (.iload_n 3, 1) := by decide +kernel
theorem dX8_check_50 : decode cX8_check 50 = .ok (.aload_n 0, 1) := by decide +kernel
theorem dX8_check_51 : decode cX8_check 51 = .ok (.getfield 63, 3) := by decide +kernel
theorem dX8_check_54 : decode cX8_check 54 = .ok (.iload_n 1, 1) := by decide +kernel
theorem dX8_check_55 : decode cX8_check 55 = .ok (.iaload, 1) := by decide +kernel
theorem dX8_check_56 : decode cX8_check 56 = .ok (.if_icmp .ge 40, 3) := by decide +kernel
theorem dX8_check_59 : decode cX8_check 59 = .ok (.iload_n 2, 1) := by decide +kernel
theorem dX8_check_60 : decode cX8_check 60 = .ok (.aload_n 0, 1) := by decide +kernel
theorem dX8_check_61 : decode cX8_check 61 = .ok (.getfield 66, 3) := by decide +kernel
theorem dX8_check_64 : decode cX8_check 64 = .ok (.bipush 12, 2) := by decide +kernel
theorem dX8_check_66 : decode cX8_check 66 = .ok (.iload_n 1, 1) := by decide +kernel
theorem dX8_check_67 : decode cX8_check 67 = .ok (.imul, 1) := by decide +kernel
theorem dX8_check_68 : decode cX8_check 68 = .ok (.iload_n 3, 1) := by decide +kernel
theorem dX8_check_69 : decode cX8_check 69 = .ok (.iadd, 1) := by decide +kernel
theorem dX8_check_70 : decode cX8_check 70 = .ok (.laload, 1) := by decide +kernel
theorem dX8_check_71 : decode cX8_check 71 = .ok (.ldc2_w 258, 3) := by decide +kernel
theorem dX8_check_74 : decode cX8_check 74 = .ok (.ldc2_w 260, 3) := by decide +kernel
theorem dX8_check_77 : decode cX8_check 77 = .ok (.invokestatic 84, 3) := by decide +kernel
theorem dX8_check_80 : decode cX8_check 80 = .ok (.ifCond .ne 7, 3) := by decide +kernel
theorem dX8_check_83 : decode cX8_check 83 = .ok (.iconst 1, 1) := by decide +kernel
theorem dX8_check_84 : decode cX8_check 84 = .ok (.goto 4, 3) := by decide +kernel
theorem dX8_check_87 : decode cX8_check 87 = .ok (.iconst 0, 1) := by decide +kernel
theorem dX8_check_88 : decode cX8_check 88 = .ok (.ior, 1) := by decide +kernel
theorem dX8_check_89 : decode cX8_check 89 = .ok (.istore_n 2, 1) := by decide +kernel
theorem dX8_check_90 : decode cX8_check 90 = .ok (.iinc 3 1, 3) := by decide +kernel
theorem dX8_check_93 : decode cX8_check 93 = .ok (.goto (-44), 3) := by decide +kernel
theorem dX8_check_96 : decode cX8_check 96 = .ok (.iload_n 2, 1) := by decide +kernel
theorem dX8_check_97 : decode cX8_check 97 = .ok (.ifCond .eq 6, 3) := by decide +kernel
theorem dX8_check_100 : decode cX8_check 100 = .ok (.bipush (-5), 2) := by decide +kernel
theorem dX8_check_102 : decode cX8_check 102 = .ok (.ireturn, 1) := by decide +kernel
theorem dX8_check_103 : decode cX8_check 103 = .ok (.iconst 0, 1) := by decide +kernel
theorem dX8_check_104 : decode cX8_check 104 = .ok (.istore_n 3, 1) := by decide +kernel
theorem dX8_check_105 : decode cX8_check 105 = .ok (.iload_n 3, 1) := by decide +kernel
theorem dX8_check_106 : decode cX8_check 106 = .ok (.aload_n 0, 1) := by decide +kernel
theorem dX8_check_107 : decode cX8_check 107 = .ok (.getfield 7, 3) := by decide +kernel
theorem dX8_check_110 : decode cX8_check 110 = .ok (.if_icmp .ge 26, 3) := by decide +kernel
theorem dX8_check_113 : decode cX8_check 113 = .ok (.aload_n 0, 1) := by decide +kernel
theorem dX8_check_114 : decode cX8_check 114 = .ok (.getfield 36, 3) := by decide +kernel
theorem dX8_check_117 : decode cX8_check 117 = .ok (.iload_n 3, 1) := by decide +kernel
theorem dX8_check_118 : decode cX8_check 118 = .ok (.aload_n 0, 1) := by decide +kernel
theorem dX8_check_119 : decode cX8_check 119 = .ok (.getfield 66, 3) := by decide +kernel
theorem dX8_check_122 : decode cX8_check 122 = .ok (.bipush 12, 2) := by decide +kernel
theorem dX8_check_124 : decode cX8_check 124 = .ok (.iload_n 1, 1) := by decide +kernel
theorem dX8_check_125 : decode cX8_check 125 = .ok (.imul, 1) := by decide +kernel
theorem dX8_check_126 : decode cX8_check 126 = .ok (.iload_n 3, 1) := by decide +kernel
theorem dX8_check_127 : decode cX8_check 127 = .ok (.iadd, 1) := by decide +kernel
theorem dX8_check_128 : decode cX8_check 128 = .ok (.laload, 1) := by decide +kernel
theorem dX8_check_129 : decode cX8_check 129 = .ok (.lastore, 1) := by decide +kernel
theorem dX8_check_130 : decode cX8_check 130 = .ok (.iinc 3 1, 3) := by decide +kernel
theorem dX8_check_133 : decode cX8_check 133 = .ok (.goto (-28), 3) := by decide +kernel
theorem dX8_check_136 : decode cX8_check 136 = .ok (.iconst 0, 1) := by decide +kernel
theorem dX8_check_137 : decode cX8_check 137 = .ok (.istore_n 3, 1) := by decide +kernel
theorem dX8_check_138 : decode cX8_check 138 = .ok (.iload_n 3, 1) := by decide +kernel
theorem dX8_check_139 : decode cX8_check 139 = .ok (.bipush 6, 2) := by decide +kernel
theorem dX8_check_141 : decode cX8_check 141 = .ok (.if_icmp .ge 43, 3) := by decide +kernel
theorem dX8_check_144 : decode cX8_check 144 = .ok (.aload_n 0, 1) := by decide +kernel
theorem dX8_check_145 : decode cX8_check 145 = .ok (.getfield 39, 3) := by decide +kernel
theorem dX8_check_148 : decode cX8_check 148 = .ok (.iload_n 3, 1) := by decide +kernel
theorem dX8_check_149 : decode cX8_check 149 = .ok (.iload_n 3, 1) := by decide +kernel
theorem dX8_check_150 : decode cX8_check 150 = .ok (.aload_n 0, 1) := by decide +kernel
theorem dX8_check_151 : decode cX8_check 151 = .ok (.getfield 88, 3) := by decide +kernel
theorem dX8_check_154 : decode cX8_check 154 = .ok (.if_icmp .ge 22, 3) := by decide +kernel
theorem dX8_check_157 : decode cX8_check 157 = .ok (.aload_n 0, 1) := by decide +kernel
theorem dX8_check_158 : decode cX8_check 158 = .ok (.getfield 66, 3) := by decide +kernel
theorem dX8_check_161 : decode cX8_check 161 = .ok (.bipush 12, 2) := by decide +kernel
theorem dX8_check_163 : decode cX8_check 163 = .ok (.iload_n 1, 1) := by decide +kernel
theorem dX8_check_164 : decode cX8_check 164 = .ok (.imul, 1) := by decide +kernel
theorem dX8_check_165 : decode cX8_check 165 = .ok (.aload_n 0, 1) := by decide +kernel
theorem dX8_check_166 : decode cX8_check 166 = .ok (.getfield 7, 3) := by decide +kernel
theorem dX8_check_169 : decode cX8_check 169 = .ok (.iadd, 1) := by decide +kernel
theorem dX8_check_170 : decode cX8_check 170 = .ok (.iload_n 3, 1) := by decide +kernel
theorem dX8_check_171 : decode cX8_check 171 = .ok (.iadd, 1) := by decide +kernel
theorem dX8_check_172 : decode cX8_check 172 = .ok (.laload, 1) := by decide +kernel
theorem dX8_check_173 : decode cX8_check 173 = .ok (.goto 4, 3) := by decide +kernel
theorem dX8_check_176 : decode cX8_check 176 = .ok (.lconst 0, 1) := by decide +kernel
theorem dX8_check_177 : decode cX8_check 177 = .ok (.lastore, 1) := by decide +kernel
theorem dX8_check_178 : decode cX8_check 178 = .ok (.iinc 3 1, 3) := by decide +kernel
theorem dX8_check_181 : decode cX8_check 181 = .ok (.goto (-43), 3) := by decide +kernel
theorem dX8_check_184 : decode cX8_check 184 = .ok (.aload_n 0, 1) := by decide +kernel
theorem dX8_check_185 : decode cX8_check 185 = .ok (.aload_n 0, 1) := by decide +kernel
theorem dX8_check_186 : decode cX8_check 186 = .ok (.getfield 66, 3) := by decide +kernel
theorem dX8_check_189 : decode cX8_check 189 = .ok (.bipush 12, 2) := by decide +kernel
theorem dX8_check_191 : decode cX8_check 191 = .ok (.iload_n 1, 1) := by decide +kernel
theorem dX8_check_192 : decode cX8_check 192 = .ok (.imul, 1) := by decide +kernel
theorem dX8_check_193 : decode cX8_check 193 = .ok (.aload_n 0, 1) := by decide +kernel
theorem dX8_check_194 : decode cX8_check 194 = .ok (.getfield 7, 3) := by decide +kernel
theorem dX8_check_197 : decode cX8_check 197 = .ok (.iadd, 1) := by decide +kernel
theorem dX8_check_198 : decode cX8_check 198 = .ok (.aload_n 0, 1) := by decide +kernel
theorem dX8_check_199 : decode cX8_check 199 = .ok (.getfield 88, 3) := by decide +kernel
theorem dX8_check_202 : decode cX8_check 202 = .ok (.iadd, 1) := by decide +kernel
theorem dX8_check_203 : decode cX8_check 203 = .ok (.laload, 1) := by decide +kernel
theorem dX8_check_204 : decode cX8_check 204 = .ok (.putfield 161, 3) := by decide +kernel
theorem dX8_check_207 : decode cX8_check 207 = .ok (.iconst 1, 1) := by decide +kernel
theorem dX8_check_208 : decode cX8_check 208 = .ok (.istore_n 3, 1) := by decide +kernel
theorem dX8_check_209 : decode cX8_check 209 = .ok (.iconst 1, 1) := by decide +kernel
theorem dX8_check_210 : decode cX8_check 210 = .ok (.istore 4, 2) := by decide +kernel
theorem dX8_check_212 : decode cX8_check 212 = .ok (.iconst 0, 1) := by decide +kernel
theorem dX8_check_213 : decode cX8_check 213 = .ok (.istore 5, 2) := by decide +kernel
theorem dX8_check_215 : decode cX8_check 215 = .ok (.iload 5, 2) := by decide +kernel
theorem dX8_check_217 : decode cX8_check 217 = .ok (.aload_n 0, 1) := by decide +kernel
theorem dX8_check_218 : decode cX8_check 218 = .ok (.getfield 88, 3) := by decide +kernel
theorem dX8_check_221 : decode cX8_check 221 = .ok (.if_icmp .ge 71, 3) := by decide +kernel
theorem dX8_check_224 : decode cX8_check 224 = .ok (.iload_n 3, 1) := by decide +kernel
theorem dX8_check_225 : decode cX8_check 225 = .ok (.aload_n 0, 1) := by decide +kernel
theorem dX8_check_226 : decode cX8_check 226 = .ok (.iload 5, 2) := by decide +kernel
theorem dX8_check_228 : decode cX8_check 228 = .ok (.invokevirtual 175, 3) := by decide +kernel
theorem dX8_check_231 : decode cX8_check 231 = .ok (.ifCond .ne 15, 3) := by decide +kernel
theorem dX8_check_234 : decode cX8_check 234 = .ok (.aload_n 0, 1) := by decide +kernel
theorem dX8_check_235 : decode cX8_check 235 = .ok (.getfield 39, 3) := by decide +kernel
theorem dX8_check_238 : decode cX8_check 238 = .ok (.iload 5, 2) := by decide +kernel
theorem dX8_check_240 : decode cX8_check 240 = .ok (.laload, 1) := by decide +kernel
theorem dX8_check_241 : decode cX8_check 241 = .ok (.lconst 0, 1) := by decide +kernel
theorem dX8_check_242 : decode cX8_check 242 = .ok (.lcmp, 1) := by decide +kernel
theorem dX8_check_243 : decode cX8_check 243 = .ok (.ifCond .lt 7, 3) := by decide +kernel
theorem dX8_check_246 : decode cX8_check 246 = .ok (.iconst 1, 1) := by decide +kernel
theorem dX8_check_247 : decode cX8_check 247 = .ok (.goto 4, 3) := by decide +kernel
theorem dX8_check_250 : decode cX8_check 250 = .ok (.iconst 0, 1) := by decide +kernel
theorem dX8_check_251 : decode cX8_check 251 = .ok (.iand, 1) := by decide +kernel
theorem dX8_check_252 : decode cX8_check 252 = .ok (.istore_n 3, 1) := by decide +kernel
theorem dX8_check_253 : decode cX8_check 253 = .ok (.iload 4, 2) := by decide +kernel
theorem dX8_check_255 : decode cX8_check 255 = .ok (.aload_n 0, 1) := by decide +kernel
theorem dX8_check_256 : decode cX8_check 256 = .ok (.getfield 39, 3) := by decide +kernel
theorem dX8_check_259 : decode cX8_check 259 = .ok (.iload 5, 2) := by decide +kernel
theorem dX8_check_261 : decode cX8_check 261 = .ok (.laload, 1) := by decide +kernel
theorem dX8_check_262 : decode cX8_check 262 = .ok (.lconst 0, 1) := by decide +kernel
theorem dX8_check_263 : decode cX8_check 263 = .ok (.lcmp, 1) := by decide +kernel
theorem dX8_check_264 : decode cX8_check 264 = .ok (.ifCond .eq 14, 3) := by decide +kernel
theorem dX8_check_267 : decode cX8_check 267 = .ok (.aload_n 0, 1) := by decide +kernel
theorem dX8_check_268 : decode cX8_check 268 = .ok (.iload 5, 2) := by decide +kernel
theorem dX8_check_270 : decode cX8_check 270 = .ok (.invokevirtual 172, 3) := by decide +kernel
theorem dX8_check_273 : decode cX8_check 273 = .ok (.lconst 0, 1) := by decide +kernel
theorem dX8_check_274 : decode cX8_check 274 = .ok (.lcmp, 1) := by decide +kernel
theorem dX8_check_275 : decode cX8_check 275 = .ok (.ifCond .ne 7, 3) := by decide +kernel
theorem dX8_check_278 : decode cX8_check 278 = .ok (.iconst 1, 1) := by decide +kernel
theorem dX8_check_279 : decode cX8_check 279 = .ok (.goto 4, 3) := by decide +kernel
theorem dX8_check_282 : decode cX8_check 282 = .ok (.iconst 0, 1) := by decide +kernel
theorem dX8_check_283 : decode cX8_check 283 = .ok (.iand, 1) := by decide +kernel
theorem dX8_check_284 : decode cX8_check 284 = .ok (.istore 4, 2) := by decide +kernel
theorem dX8_check_286 : decode cX8_check 286 = .ok (.iinc 5 1, 3) := by decide +kernel
theorem dX8_check_289 : decode cX8_check 289 = .ok (.goto (-74), 3) := by decide +kernel
theorem dX8_check_292 : decode cX8_check 292 = .ok (.aload_n 0, 1) := by decide +kernel
theorem dX8_check_293 : decode cX8_check 293 = .ok (.getfield 161, 3) := by decide +kernel
theorem dX8_check_296 : decode cX8_check 296 = .ok (.lconst 1, 1) := by decide +kernel
theorem dX8_check_297 : decode cX8_check 297 = .ok (.lcmp, 1) := by decide +kernel
theorem dX8_check_298 : decode cX8_check 298 = .ok (.ifCond .ge 7, 3) := by decide +kernel
theorem dX8_check_301 : decode cX8_check 301 = .ok (.iconst 1, 1) := by decide +kernel
theorem dX8_check_302 : decode cX8_check 302 = .ok (.goto 47, 3) := by decide +kernel
theorem dX8_check_305 : decode cX8_check 305 = .ok (.aload_n 0, 1) := by decide +kernel
theorem dX8_check_306 : decode cX8_check 306 = .ok (.invokevirtual 262, 3) := by decide +kernel
theorem dX8_check_309 : decode cX8_check 309 = .ok (.ifCond .ne 7, 3) := by decide +kernel
theorem dX8_check_312 : decode cX8_check 312 = .ok (.iconst 2, 1) := by decide +kernel
theorem dX8_check_313 : decode cX8_check 313 = .ok (.goto 36, 3) := by decide +kernel
theorem dX8_check_316 : decode cX8_check 316 = .ok (.iload_n 3, 1) := by decide +kernel
theorem dX8_check_317 : decode cX8_check 317 = .ok (.ifCond .ne 7, 3) := by decide +kernel
theorem dX8_check_320 : decode cX8_check 320 = .ok (.iconst 3, 1) := by decide +kernel
theorem dX8_check_321 : decode cX8_check 321 = .ok (.goto 28, 3) := by decide +kernel
theorem dX8_check_324 : decode cX8_check 324 = .ok (.aload_n 0, 1) := by decide +kernel
theorem dX8_check_325 : decode cX8_check 325 = .ok (.invokevirtual 210, 3) := by decide +kernel
theorem dX8_check_328 : decode cX8_check 328 = .ok (.aload_n 0, 1) := by decide +kernel
theorem dX8_check_329 : decode cX8_check 329 = .ok (.invokevirtual 220, 3) := by decide +kernel
theorem dX8_check_332 : decode cX8_check 332 = .ok (.if_icmp .eq 7, 3) := by decide +kernel
theorem dX8_check_335 : decode cX8_check 335 = .ok (.iconst 4, 1) := by decide +kernel
theorem dX8_check_336 : decode cX8_check 336 = .ok (.goto 13, 3) := by decide +kernel
theorem dX8_check_339 : decode cX8_check 339 = .ok (.iload 4, 2) := by decide +kernel
theorem dX8_check_341 : decode cX8_check 341 = .ok (.ifCond .ne 7, 3) := by decide +kernel
theorem dX8_check_344 : decode cX8_check 344 = .ok (.iconst 5, 1) := by decide +kernel
theorem dX8_check_345 : decode cX8_check 345 = .ok (.goto 4, 3) := by decide +kernel
theorem dX8_check_348 : decode cX8_check 348 = .ok (.iconst 0, 1) := by decide +kernel
theorem dX8_check_349 : decode cX8_check 349 = .ok (.ireturn, 1) := by decide +kernel
theorem dX8_solve_0 : decode cX8_solve 0 = .ok (.aload_n 0, 1) := by decide +kernel
theorem dX8_solve_1 : decode cX8_solve 1 = .ok (.invokevirtual 146, 3) := by decide +kernel
theorem dX8_solve_4 : decode cX8_solve 4 = .ok (.ifCond .ne 6, 3) := by decide +kernel
theorem dX8_solve_7 : decode cX8_solve 7 = .ok (.bipush (-3), 2) := by decide +kernel
theorem dX8_solve_9 : decode cX8_solve 9 = .ok (.ireturn, 1) := by decide +kernel
theorem dX8_solve_10 : decode cX8_solve 10 = .ok (.aload_n 0, 1) := by decide +kernel
theorem dX8_solve_11 : decode cX8_solve 11 = .ok (.aload_n 0, 1) := by decide +kernel
theorem dX8_solve_12 : decode cX8_solve 12 = .ok (.invokevirtual 220, 3) := by decide +kernel
theorem dX8_solve_15 : decode cX8_solve 15 = .ok (.invokevirtual 190, 3) := by decide +kernel
theorem dX8_solve_18 : decode cX8_solve 18 = .ok (.istore_n 1, 1) := by decide +kernel
theorem dX8_solve_19 : decode cX8_solve 19 = .ok (.iload_n 1, 1) := by decide +kernel
theorem dX8_solve_20 : decode cX8_solve 20 = .ok (.iconst (-1), 1) := by decide +kernel
theorem dX8_solve_21 : decode cX8_solve 21 = .ok (.if_icmp .eq 57, 3) := by decide +kernel
theorem dX8_solve_24 : decode cX8_solve 24 = .ok (.aload_n 0, 1) := by decide +kernel
theorem dX8_solve_25 : decode cX8_solve 25 = .ok (.invokevirtual 207, 3) := by decide +kernel
theorem dX8_solve_28 : decode cX8_solve 28 = .ok (.lstore_n 2, 1) := by decide +kernel
theorem dX8_solve_29 : decode cX8_solve 29 = .ok (.aload_n 0, 1) := by decide +kernel
theorem dX8_solve_30 : decode cX8_solve 30 = .ok (.getfield 265, 3) := by decide +kernel
theorem dX8_solve_33 : decode cX8_solve 33 = .ok (.lconst 0, 1) := by decide +kernel
theorem dX8_solve_34 : decode cX8_solve 34 = .ok (.lcmp, 1) := by decide +kernel
theorem dX8_solve_35 : decode cX8_solve 35 = .ok (.ifCond .eq 26, 3) := by decide +kernel
theorem dX8_solve_38 : decode cX8_solve 38 = .ok (.lload_n 2, 1) := by decide +kernel
theorem dX8_solve_39 : decode cX8_solve 39 = .ok (.ldc2_w 117, 3) := by decide +kernel
theorem dX8_solve_42 : decode cX8_solve 42 = .ok (.aload_n 0, 1) := by decide +kernel
theorem dX8_solve_43 : decode cX8_solve 43 = .ok (.getfield 161, 3) := by decide +kernel
theorem dX8_solve_46 : decode cX8_solve 46 = .ok (.lmul, 1) := by decide +kernel
theorem dX8_solve_47 : decode cX8_solve 47 = .ok (.aload_n 0, 1) := by decide +kernel
theorem dX8_solve_48 : decode cX8_solve 48 = .ok (.getfield 268, 3) := by decide +kernel
theorem dX8_solve_51 : decode cX8_solve 51 = .ok (.aload_n 0, 1) := by decide +kernel
theorem dX8_solve_52 : decode cX8_solve 52 = .ok (.getfield 265, 3) := by decide +kernel
theorem dX8_solve_55 : decode cX8_solve 55 = .ok (.invokestatic 80, 3) := by decide +kernel
theorem dX8_solve_58 : decode cX8_solve 58 = .ok (.ifCond .eq 20, 3) := by decide +kernel
theorem dX8_solve_61 : decode cX8_solve 61 = .ok (.aload_n 0, 1) := by decide +kernel
theorem dX8_solve_62 : decode cX8_solve 62 = .ok (.lload_n 2, 1) := by decide +kernel
theorem dX8_solve_63 : decode cX8_solve 63 = .ok (.putfield 268, 3) := by decide +kernel
theorem dX8_solve_66 : decode cX8_solve 66 = .ok (.aload_n 0, 1) := by decide +kernel
theorem dX8_solve_67 : decode cX8_solve 67 = .ok (.ldc2_w 117, 3) := by decide +kernel
theorem dX8_solve_70 : decode cX8_solve 70 = .ok (.aload_n 0, 1) := by decide +kernel
theorem dX8_solve_71 : decode cX8_solve 71 = .ok (.getfield 161, 3) := by decide +kernel
theorem dX8_solve_74 : decode cX8_solve 74 = .ok (.lmul, 1) := by decide +kernel
theorem dX8_solve_75 : decode cX8_solve 75 = .ok (.putfield 265, 3) := by decide +kernel
theorem dX8_solve_78 : decode cX8_solve 78 = .ok (.bipush 7, 2) := by decide +kernel
theorem dX8_solve_80 : decode cX8_solve 80 = .ok (.istore_n 2, 1) := by decide +kernel
theorem dX8_solve_81 : decode cX8_solve 81 = .ok (.iload_n 2, 1) := by decide +kernel
theorem dX8_solve_82 : decode cX8_solve 82 = .ok (.ifCond .le 23, 3) := by decide +kernel
theorem dX8_solve_85 : decode cX8_solve 85 = .ok (.aload_n 0, 1) := by decide +kernel
theorem dX8_solve_86 : decode cX8_solve 86 = .ok (.getfield 26, 3) := by decide +kernel
theorem dX8_solve_89 : decode cX8_solve 89 = .ok (.iload_n 2, 1) := by decide +kernel
theorem dX8_solve_90 : decode cX8_solve 90 = .ok (.aload_n 0, 1) := by decide +kernel
theorem dX8_solve_91 : decode cX8_solve 91 = .ok (.getfield 26, 3) := by decide +kernel
theorem dX8_solve_94 : decode cX8_solve 94 = .ok (.iload_n 2, 1) := by decide +kernel
theorem dX8_solve_95 : decode cX8_solve 95 = .ok (.iconst 1, 1) := by decide +kernel
theorem dX8_solve_96 : decode cX8_solve 96 = .ok (.isub, 1) := by decide +kernel
theorem dX8_solve_97 : decode cX8_solve 97 = .ok (.iaload, 1) := by decide +kernel
theorem dX8_solve_98 : decode cX8_solve 98 = .ok (.iastore, 1) := by decide +kernel
theorem dX8_solve_99 : decode cX8_solve 99 = .ok (.iinc 2 (-1), 3) := by decide +kernel
theorem dX8_solve_102 : decode cX8_solve 102 = .ok (.goto (-21), 3) := by decide +kernel
theorem dX8_solve_105 : decode cX8_solve 105 = .ok (.aload_n 0, 1) := by decide +kernel
theorem dX8_solve_106 : decode cX8_solve 106 = .ok (.getfield 26, 3) := by decide +kernel
theorem dX8_solve_109 : decode cX8_solve 109 = .ok (.iconst 0, 1) := by decide +kernel
theorem dX8_solve_110 : decode cX8_solve 110 = .ok (.iload_n 1, 1) := by decide +kernel
theorem dX8_solve_111 : decode cX8_solve 111 = .ok (.iastore, 1) := by decide +kernel
theorem dX8_solve_112 : decode cX8_solve 112 = .ok (.aload_n 0, 1) := by decide +kernel
theorem dX8_solve_113 : decode cX8_solve 113 = .ok (.aload_n 0, 1) := by decide +kernel
theorem dX8_solve_114 : decode cX8_solve 114 = .ok (.getfield 271, 3) := by decide +kernel
theorem dX8_solve_117 : decode cX8_solve 117 = .ok (.ldc2_w 274, 3) := by decide +kernel
theorem dX8_solve_120 : decode cX8_solve 120 = .ok (.lmul, 1) := by decide +kernel
theorem dX8_solve_121 : decode cX8_solve 121 = .ok (.iload_n 1, 1) := by decide +kernel
theorem dX8_solve_122 : decode cX8_solve 122 = .ok (.i2l, 1) := by decide +kernel
theorem dX8_solve_123 : decode cX8_solve 123 = .ok (.ladd, 1) := by decide +kernel
theorem dX8_solve_124 : decode cX8_solve 124 = .ok (.putfield 271, 3) := by decide +kernel
theorem dX8_solve_127 : decode cX8_solve 127 = .ok (.aload_n 0, 1) := by decide +kernel
theorem dX8_solve_128 : decode cX8_solve 128 = .ok (.dup, 1) := by decide +kernel
theorem dX8_solve_129 : decode cX8_solve 129 = .ok (.getfield 276, 3) := by decide +kernel
theorem dX8_solve_132 : decode cX8_solve 132 = .ok (.iconst 1, 1) := by decide +kernel
theorem dX8_solve_133 : decode cX8_solve 133 = .ok (.iadd, 1) := by decide +kernel
theorem dX8_solve_134 : decode cX8_solve 134 = .ok (.putfield 276, 3) := by decide +kernel
theorem dX8_solve_137 : decode cX8_solve 137 = .ok (.iload_n 1, 1) := by decide +kernel
theorem dX8_solve_138 : decode cX8_solve 138 = .ok (.ireturn, 1) := by decide +kernel
theorem dX8_notes_0 : decode cX8_notes 0 = .ok (.aload_n 0, 1) := by decide +kernel
theorem dX8_notes_1 : decode cX8_notes 1 = .ok (.getfield 276, 3) := by decide +kernel
theorem dX8_notes_4 : decode cX8_notes 4 = .ok (.ireturn, 1) := by decide +kernel
theorem dX8_mark_0 : decode cX8_mark 0 = .ok (.aload_n 0, 1) := by decide +kernel
theorem dX8_mark_1 : decode cX8_mark 1 = .ok (.getfield 271, 3) := by decide +kernel
theorem dX8_mark_4 : decode cX8_mark 4 = .ok (.lreturn, 1) := by decide +kernel
theorem dX8_trail_0 : decode cX8_trail 0 = .ok (.iload_n 1, 1) := by decide +kernel
theorem dX8_trail_1 : decode cX8_trail 1 = .ok (.i2l, 1) := by decide +kernel
theorem dX8_trail_2 : decode cX8_trail 2 = .ok (.lconst 0, 1) := by decide +kernel
theorem dX8_trail_3 : decode cX8_trail 3 = .ok (.ldc2_w 279, 3) := by decide +kernel
theorem dX8_trail_6 : decode cX8_trail 6 = .ok (.invokestatic 84, 3) := by decide +kernel
theorem dX8_trail_9 : decode cX8_trail 9 = .ok (.ifCond .eq 20, 3) := by decide +kernel
theorem dX8_trail_12 : decode cX8_trail 12 = .ok (.iload_n 1, 1) := by decide +kernel
theorem dX8_trail_13 : decode cX8_trail 13 = .ok (.aload_n 0, 1) := by decide +kernel
theorem dX8_trail_14 : decode cX8_trail 14 = .ok (.getfield 276, 3) := by decide +kernel
theorem dX8_trail_17 : decode cX8_trail 17 = .ok (.if_icmp .ge 12, 3) := by decide +kernel
theorem dX8_trail_20 : decode cX8_trail 20 = .ok (.aload_n 0, 1) := by decide +kernel
theorem dX8_trail_21 : decode cX8_trail 21 = .ok (.getfield 26, 3) := by decide +kernel
theorem dX8_trail_24 : decode cX8_trail 24 = .ok (.iload_n 1, 1) := by decide +kernel
theorem dX8_trail_25 : decode cX8_trail 25 = .ok (.iaload, 1) := by decide +kernel
theorem dX8_trail_26 : decode cX8_trail 26 = .ok (.goto 5, 3) := by decide +kernel
theorem dX8_trail_29 : decode cX8_trail 29 = .ok (.bipush (-12), 2) := by decide +kernel
theorem dX8_trail_31 : decode cX8_trail 31 = .ok (.ireturn, 1) := by decide +kernel
theorem dX8_least_0 : decode cX8_least 0 = .ok (.iload_n 1, 1) := by decide +kernel
theorem dX8_least_1 : decode cX8_least 1 = .ok (.invokestatic 193, 3) := by decide +kernel
theorem dX8_least_4 : decode cX8_least 4 = .ok (.ifCond .ne 11, 3) := by decide +kernel
theorem dX8_least_7 : decode cX8_least 7 = .ok (.bipush (-2), 2) := by decide +kernel
theorem dX8_least_9 : decode cX8_least 9 = .ok (.invokestatic 200, 3) := by decide +kernel
theorem dX8_least_12 : decode cX8_least 12 = .ok (.goto 31, 3) := by decide +kernel
theorem dX8_least_15 : decode cX8_least 15 = .ok (.aload_n 0, 1) := by decide +kernel
theorem dX8_least_16 : decode cX8_least 16 = .ok (.getfield 265, 3) := by decide +kernel
theorem dX8_least_19 : decode cX8_least 19 = .ok (.lconst 0, 1) := by decide +kernel
theorem dX8_least_20 : decode cX8_least 20 = .ok (.lcmp, 1) := by decide +kernel
theorem dX8_least_21 : decode cX8_least 21 = .ok (.ifCond .ne 10, 3) := by decide +kernel
theorem dX8_least_24 : decode cX8_least 24 = .ok (.iconst (-1), 1) := by decide +kernel
theorem dX8_least_25 : decode cX8_least 25 = .ok (.invokestatic 200, 3) := by decide +kernel
theorem dX8_least_28 : decode cX8_least 28 = .ok (.goto 15, 3) := by decide +kernel
theorem dX8_least_31 : decode cX8_least 31 = .ok (.aload_n 0, 1) := by decide +kernel
theorem dX8_least_32 : decode cX8_least 32 = .ok (.getfield 268, 3) := by decide +kernel
theorem dX8_least_35 : decode cX8_least 35 = .ok (.aload_n 0, 1) := by decide +kernel
theorem dX8_least_36 : decode cX8_least 36 = .ok (.getfield 265, 3) := by decide +kernel
theorem dX8_least_39 : decode cX8_least 39 = .ok (.iload_n 1, 1) := by decide +kernel
theorem dX8_least_40 : decode cX8_least 40 = .ok (.invokestatic 203, 3) := by decide +kernel
theorem dX8_least_43 : decode cX8_least 43 = .ok (.lreturn, 1) := by decide +kernel
theorem dX8_isSheet_0 : decode cX8_isSheet 0 = .ok (.iload_n 0, 1) := by decide +kernel
theorem dX8_isSheet_1 : decode cX8_isSheet 1 = .ok (.i2l, 1) := by decide +kernel
theorem dX8_isSheet_2 : decode cX8_isSheet 2 = .ok (.lconst 0, 1) := by decide +kernel
theorem dX8_isSheet_3 : decode cX8_isSheet 3 = .ok (.ldc2_w 91, 3) := by decide +kernel
theorem dX8_isSheet_6 : decode cX8_isSheet 6 = .ok (.invokestatic 84, 3) := by decide +kernel
theorem dX8_isSheet_9 : decode cX8_isSheet 9 = .ok (.ireturn, 1) := by decide +kernel
theorem dX8_becomesRow_0 : decode cX8_becomesRow 0 = .ok (.aload_n 0, 1) := by decide +kernel
theorem dX8_becomesRow_1 : decode cX8_becomesRow 1 = .ok (.getfield 60, 3) := by decide +kernel
theorem dX8_becomesRow_4 : decode cX8_becomesRow 4 = .ok (.iload_n 1, 1) := by decide +kernel
theorem dX8_becomesRow_5 : decode cX8_becomesRow 5 = .ok (.iload_n 2, 1) := by decide +kernel
theorem dX8_becomesRow_6 : decode cX8_becomesRow 6 = .ok (.iastore, 1) := by decide +kernel
theorem dX8_becomesRow_7 : decode cX8_becomesRow 7 = .ok (.aload_n 0, 1) := by decide +kernel
theorem dX8_becomesRow_8 : decode cX8_becomesRow 8 = .ok (.getfield 63, 3) := by decide +kernel
theorem dX8_becomesRow_11 : decode cX8_becomesRow 11 = .ok (.iload_n 1, 1) := by decide +kernel
theorem dX8_becomesRow_12 : decode cX8_becomesRow 12 = .ok (.iload_n 2, 1) := by decide +kernel
theorem dX8_becomesRow_13 : decode cX8_becomesRow 13 = .ok (.ifCond .ge 7, 3) := by decide +kernel
theorem dX8_becomesRow_16 : decode cX8_becomesRow 16 = .ok (.iconst 0, 1) := by decide +kernel
theorem dX8_becomesRow_17 : decode cX8_becomesRow 17 = .ok (.goto 4, 3) := by decide +kernel
theorem dX8_becomesRow_20 : decode cX8_becomesRow 20 = .ok (.iload_n 3, 1) := by decide +kernel
theorem dX8_becomesRow_21 : decode cX8_becomesRow 21 = .ok (.iastore, 1) := by decide +kernel
theorem dX8_becomesRow_22 : decode cX8_becomesRow 22 = .ok (.iconst 0, 1) := by decide +kernel
theorem dX8_becomesRow_23 : decode cX8_becomesRow 23 = .ok (.istore 4, 2) := by decide +kernel
theorem dX8_becomesRow_25 : decode cX8_becomesRow 25 = .ok (.iload 4, 2) := by decide +kernel
theorem dX8_becomesRow_27 : decode cX8_becomesRow 27 = .ok (.bipush 12, 2) := by decide +kernel
theorem dX8_becomesRow_29 : decode cX8_becomesRow 29 = .ok (.if_icmp .ge 22, 3) := by decide +kernel
theorem dX8_becomesRow_32 : decode cX8_becomesRow 32 = .ok (.aload_n 0, 1) := by decide +kernel
theorem dX8_becomesRow_33 : decode cX8_becomesRow 33 = .ok (.getfield 66, 3) := by decide +kernel
theorem dX8_becomesRow_36 : decode cX8_becomesRow 36 = .ok (.bipush 12, 2) := by decide +kernel
theorem dX8_becomesRow_38 : decode cX8_becomesRow 38 = .ok (.iload_n 1, 1) := by decide +kernel
theorem dX8_becomesRow_39 : decode cX8_becomesRow 39 = .ok (.imul, 1) := by decide +kernel
theorem dX8_becomesRow_40 : decode cX8_becomesRow 40 = .ok (.iload 4, 2) := by decide +kernel
theorem dX8_becomesRow_42 : decode cX8_becomesRow 42 = .ok (.iadd, 1) := by decide +kernel
theorem dX8_becomesRow_43 : decode cX8_becomesRow 43 = .ok (.lconst 0, 1) := by decide +kernel
theorem dX8_becomesRow_44 : decode cX8_becomesRow 44 = .ok (.lastore, 1) := by decide +kernel
theorem dX8_becomesRow_45 : decode cX8_becomesRow 45 = .ok (.iinc 4 1, 3) := by decide +kernel
theorem dX8_becomesRow_48 : decode cX8_becomesRow 48 = .ok (.goto (-23), 3) := by decide +kernel
theorem dX8_becomesRow_51 : decode cX8_becomesRow 51 = .ok (.return_, 1) := by decide +kernel
theorem dX8_sheet_0 : decode cX8_sheet 0 = .ok (.iload_n 1, 1) := by decide +kernel
theorem dX8_sheet_1 : decode cX8_sheet 1 = .ok (.invokestatic 251, 3) := by decide +kernel
theorem dX8_sheet_4 : decode cX8_sheet 4 = .ok (.ifCond .eq 25, 3) := by decide +kernel
theorem dX8_sheet_7 : decode cX8_sheet 7 = .ok (.iload_n 2, 1) := by decide +kernel
theorem dX8_sheet_8 : decode cX8_sheet 8 = .ok (.i2l, 1) := by decide +kernel
theorem dX8_sheet_9 : decode cX8_sheet 9 = .ok (.ldc2_w 281, 3) := by decide +kernel
theorem dX8_sheet_12 : decode cX8_sheet 12 = .ok (.lconst 1, 1) := by decide +kernel
theorem dX8_sheet_13 : decode cX8_sheet 13 = .ok (.invokestatic 84, 3) := by decide +kernel
theorem dX8_sheet_16 : decode cX8_sheet 16 = .ok (.ifCond .eq 13, 3) := by decide +kernel
theorem dX8_sheet_19 : decode cX8_sheet 19 = .ok (.iload_n 2, 1) := by decide +kernel
theorem dX8_sheet_20 : decode cX8_sheet 20 = .ok (.ifCond .lt 12, 3) := by decide +kernel
theorem dX8_sheet_23 : decode cX8_sheet 23 = .ok (.iload_n 3, 1) := by decide +kernel
theorem dX8_sheet_24 : decode cX8_sheet 24 = .ok (.bipush 12, 2) := by decide +kernel
theorem dX8_sheet_26 : decode cX8_sheet 26 = .ok (.if_icmp .le 6, 3) := by decide +kernel
theorem dX8_sheet_29 : decode cX8_sheet 29 = .ok (.bipush (-2), 2) := by decide +kernel
theorem dX8_sheet_31 : decode cX8_sheet 31 = .ok (.ireturn, 1) := by decide +kernel
theorem dX8_sheet_32 : decode cX8_sheet 32 = .ok (.iload_n 2, 1) := by decide +kernel
theorem dX8_sheet_33 : decode cX8_sheet 33 = .ok (.ifCond .lt 10, 3) := by decide +kernel
theorem dX8_sheet_36 : decode cX8_sheet 36 = .ok (.iload_n 3, 1) := by decide +kernel
theorem dX8_sheet_37 : decode cX8_sheet 37 = .ok (.ifCond .ge 6, 3) := by decide +kernel
theorem dX8_sheet_40 : decode cX8_sheet 40 = .ok (.bipush (-14), 2) := by decide +kernel
theorem dX8_sheet_42 : decode cX8_sheet 42 = .ok (.ireturn, 1) := by decide +kernel
theorem dX8_sheet_43 : decode cX8_sheet 43 = .ok (.aload_n 0, 1) := by decide +kernel
theorem dX8_sheet_44 : decode cX8_sheet 44 = .ok (.iload_n 1, 1) := by decide +kernel
theorem dX8_sheet_45 : decode cX8_sheet 45 = .ok (.iload_n 2, 1) := by decide +kernel
theorem dX8_sheet_46 : decode cX8_sheet 46 = .ok (.iload_n 3, 1) := by decide +kernel
theorem dX8_sheet_47 : decode cX8_sheet 47 = .ok (.invokevirtual 254, 3) := by decide +kernel
theorem dX8_sheet_50 : decode cX8_sheet 50 = .ok (.iconst 1, 1) := by decide +kernel
theorem dX8_sheet_51 : decode cX8_sheet 51 = .ok (.ireturn, 1) := by decide +kernel
theorem dX8_wrong_0 : decode cX8_wrong 0 = .ok (.iload_n 1, 1) := by decide +kernel
theorem dX8_wrong_1 : decode cX8_wrong 1 = .ok (.invokestatic 251, 3) := by decide +kernel
theorem dX8_wrong_4 : decode cX8_wrong 4 = .ok (.ifCond .ne 8, 3) := by decide +kernel
theorem dX8_wrong_7 : decode cX8_wrong 7 = .ok (.bipush (-2), 2) := by decide +kernel
theorem dX8_wrong_9 : decode cX8_wrong 9 = .ok (.goto 41, 3) := by decide +kernel
theorem dX8_wrong_12 : decode cX8_wrong 12 = .ok (.aload_n 0, 1) := by decide +kernel
theorem dX8_wrong_13 : decode cX8_wrong 13 = .ok (.getfield 60, 3) := by decide +kernel
theorem dX8_wrong_16 : decode cX8_wrong 16 = .ok (.iload_n 1, 1) := by decide +kernel
theorem dX8_wrong_17 : decode cX8_wrong 17 = .ok (.iaload, 1) := by decide +kernel
theorem dX8_wrong_18 : decode cX8_wrong 18 = .ok (.ifCond .ge 8, 3) := by decide +kernel
theorem dX8_wrong_21 : decode cX8_wrong 21 = .ok (.bipush (-11), 2) := by decide +kernel
theorem dX8_wrong_23 : decode cX8_wrong 23 = .ok (.goto 27, 3) := by decide +kernel
theorem dX8_wrong_26 : decode cX8_wrong 26 = .ok (.iload_n 2, 1) := by decide +kernel
theorem dX8_wrong_27 : decode cX8_wrong 27 = .ok (.i2l, 1) := by decide +kernel
theorem dX8_wrong_28 : decode cX8_wrong 28 = .ok (.lconst 0, 1) := by decide +kernel
theorem dX8_wrong_29 : decode cX8_wrong 29 = .ok (.aload_n 0, 1) := by decide +kernel
theorem dX8_wrong_30 : decode cX8_wrong 30 = .ok (.getfield 63, 3) := by decide +kernel
theorem dX8_wrong_33 : decode cX8_wrong 33 = .ok (.iload_n 1, 1) := by decide +kernel
theorem dX8_wrong_34 : decode cX8_wrong 34 = .ok (.iaload, 1) := by decide +kernel
theorem dX8_wrong_35 : decode cX8_wrong 35 = .ok (.iconst 1, 1) := by decide +kernel
theorem dX8_wrong_36 : decode cX8_wrong 36 = .ok (.isub, 1) := by decide +kernel
theorem dX8_wrong_37 : decode cX8_wrong 37 = .ok (.i2l, 1) := by decide +kernel
theorem dX8_wrong_38 : decode cX8_wrong 38 = .ok (.invokestatic 84, 3) := by decide +kernel
theorem dX8_wrong_41 : decode cX8_wrong 41 = .ok (.ifCond .eq 7, 3) := by decide +kernel
theorem dX8_wrong_44 : decode cX8_wrong 44 = .ok (.iconst 0, 1) := by decide +kernel
theorem dX8_wrong_45 : decode cX8_wrong 45 = .ok (.goto 5, 3) := by decide +kernel
theorem dX8_wrong_48 : decode cX8_wrong 48 = .ok (.bipush (-12), 2) := by decide +kernel
theorem dX8_wrong_50 : decode cX8_wrong 50 = .ok (.ireturn, 1) := by decide +kernel
theorem dX8_cell_0 : decode cX8_cell 0 = .ok (.aload_n 0, 1) := by decide +kernel
theorem dX8_cell_1 : decode cX8_cell 1 = .ok (.iload_n 1, 1) := by decide +kernel
theorem dX8_cell_2 : decode cX8_cell 2 = .ok (.iload_n 2, 1) := by decide +kernel
theorem dX8_cell_3 : decode cX8_cell 3 = .ok (.invokevirtual 283, 3) := by decide +kernel
theorem dX8_cell_6 : decode cX8_cell 6 = .ok (.istore 5, 2) := by decide +kernel
theorem dX8_cell_8 : decode cX8_cell 8 = .ok (.iload 5, 2) := by decide +kernel
theorem dX8_cell_10 : decode cX8_cell 10 = .ok (.ifCond .eq 6, 3) := by decide +kernel
theorem dX8_cell_13 : decode cX8_cell 13 = .ok (.iload 5, 2) := by decide +kernel
theorem dX8_cell_15 : decode cX8_cell 15 = .ok (.ireturn, 1) := by decide +kernel
theorem dX8_cell_16 : decode cX8_cell 16 = .ok (.aload_n 0, 1) := by decide +kernel
theorem dX8_cell_17 : decode cX8_cell 17 = .ok (.getfield 60, 3) := by decide +kernel
theorem dX8_cell_20 : decode cX8_cell 20 = .ok (.iload_n 1, 1) := by decide +kernel
theorem dX8_cell_21 : decode cX8_cell 21 = .ok (.iaload, 1) := by decide +kernel
theorem dX8_cell_22 : decode cX8_cell 22 = .ok (.ifCond .ne 14, 3) := by decide +kernel
theorem dX8_cell_25 : decode cX8_cell 25 = .ok (.lload_n 3, 1) := by decide +kernel
theorem dX8_cell_26 : decode cX8_cell 26 = .ok (.lload_n 3, 1) := by decide +kernel
theorem dX8_cell_27 : decode cX8_cell 27 = .ok (.l2i, 1) := by decide +kernel
theorem dX8_cell_28 : decode cX8_cell 28 = .ok (.i2l, 1) := by decide +kernel
theorem dX8_cell_29 : decode cX8_cell 29 = .ok (.lcmp, 1) := by decide +kernel
theorem dX8_cell_30 : decode cX8_cell 30 = .ok (.ifCond .eq 6, 3) := by decide +kernel
theorem dX8_cell_33 : decode cX8_cell 33 = .ok (.bipush (-5), 2) := by decide +kernel
theorem dX8_cell_35 : decode cX8_cell 35 = .ok (.ireturn, 1) := by decide +kernel
theorem dX8_cell_36 : decode cX8_cell 36 = .ok (.aload_n 0, 1) := by decide +kernel
theorem dX8_cell_37 : decode cX8_cell 37 = .ok (.getfield 66, 3) := by decide +kernel
theorem dX8_cell_40 : decode cX8_cell 40 = .ok (.bipush 12, 2) := by decide +kernel
theorem dX8_cell_42 : decode cX8_cell 42 = .ok (.iload_n 1, 1) := by decide +kernel
theorem dX8_cell_43 : decode cX8_cell 43 = .ok (.imul, 1) := by decide +kernel
theorem dX8_cell_44 : decode cX8_cell 44 = .ok (.iload_n 2, 1) := by decide +kernel
theorem dX8_cell_45 : decode cX8_cell 45 = .ok (.iadd, 1) := by decide +kernel
theorem dX8_cell_46 : decode cX8_cell 46 = .ok (.lload_n 3, 1) := by decide +kernel
theorem dX8_cell_47 : decode cX8_cell 47 = .ok (.lastore, 1) := by decide +kernel
theorem dX8_cell_48 : decode cX8_cell 48 = .ok (.iconst 1, 1) := by decide +kernel
theorem dX8_cell_49 : decode cX8_cell 49 = .ok (.ireturn, 1) := by decide +kernel
theorem dX8_read_0 : decode cX8_read 0 = .ok (.aload_n 0, 1) := by decide +kernel
theorem dX8_read_1 : decode cX8_read 1 = .ok (.iload_n 1, 1) := by decide +kernel
theorem dX8_read_2 : decode cX8_read 2 = .ok (.iload_n 2, 1) := by decide +kernel
theorem dX8_read_3 : decode cX8_read 3 = .ok (.invokevirtual 283, 3) := by decide +kernel
theorem dX8_read_6 : decode cX8_read 6 = .ok (.istore_n 3, 1) := by decide +kernel
theorem dX8_read_7 : decode cX8_read 7 = .ok (.iload_n 3, 1) := by decide +kernel
theorem dX8_read_8 : decode cX8_read 8 = .ok (.ifCond .eq 10, 3) := by decide +kernel
theorem dX8_read_11 : decode cX8_read 11 = .ok (.iload_n 3, 1) := by decide +kernel
theorem dX8_read_12 : decode cX8_read 12 = .ok (.invokestatic 200, 3) := by decide +kernel
theorem dX8_read_15 : decode cX8_read 15 = .ok (.goto 14, 3) := by decide +kernel
theorem dX8_read_18 : decode cX8_read 18 = .ok (.aload_n 0, 1) := by decide +kernel
theorem dX8_read_19 : decode cX8_read 19 = .ok (.getfield 66, 3) := by decide +kernel
theorem dX8_read_22 : decode cX8_read 22 = .ok (.bipush 12, 2) := by decide +kernel
theorem dX8_read_24 : decode cX8_read 24 = .ok (.iload_n 1, 1) := by decide +kernel
theorem dX8_read_25 : decode cX8_read 25 = .ok (.imul, 1) := by decide +kernel
theorem dX8_read_26 : decode cX8_read 26 = .ok (.iload_n 2, 1) := by decide +kernel
theorem dX8_read_27 : decode cX8_read 27 = .ok (.iadd, 1) := by decide +kernel
theorem dX8_read_28 : decode cX8_read 28 = .ok (.laload, 1) := by decide +kernel
theorem dX8_read_29 : decode cX8_read 29 = .ok (.lreturn, 1) := by decide +kernel
theorem dX8_copy_0 : decode cX8_copy 0 = .ok (.iload_n 1, 1) := by decide +kernel
theorem dX8_copy_1 : decode cX8_copy 1 = .ok (.invokestatic 251, 3) := by decide +kernel
theorem dX8_copy_4 : decode cX8_copy 4 = .ok (.ifCond .eq 10, 3) := by decide +kernel
theorem dX8_copy_7 : decode cX8_copy 7 = .ok (.iload_n 3, 1) := by decide +kernel
theorem dX8_copy_8 : decode cX8_copy 8 = .ok (.invokestatic 251, 3) := by decide +kernel
theorem dX8_copy_11 : decode cX8_copy 11 = .ok (.ifCond .ne 6, 3) := by decide +kernel
theorem dX8_copy_14 : decode cX8_copy 14 = .ok (.bipush (-2), 2) := by decide +kernel
theorem dX8_copy_16 : decode cX8_copy 16 = .ok (.ireturn, 1) := by decide +kernel
theorem dX8_copy_17 : decode cX8_copy 17 = .ok (.aload_n 0, 1) := by decide +kernel
theorem dX8_copy_18 : decode cX8_copy 18 = .ok (.getfield 60, 3) := by decide +kernel
theorem dX8_copy_21 : decode cX8_copy 21 = .ok (.iload_n 1, 1) := by decide +kernel
theorem dX8_copy_22 : decode cX8_copy 22 = .ok (.iaload, 1) := by decide +kernel
theorem dX8_copy_23 : decode cX8_copy 23 = .ok (.ifCond .lt 12, 3) := by decide +kernel
theorem dX8_copy_26 : decode cX8_copy 26 = .ok (.aload_n 0, 1) := by decide +kernel
theorem dX8_copy_27 : decode cX8_copy 27 = .ok (.getfield 60, 3) := by decide +kernel
theorem dX8_copy_30 : decode cX8_copy 30 = .ok (.iload_n 3, 1) := by decide +kernel
theorem dX8_copy_31 : decode cX8_copy 31 = .ok (.iaload, 1) := by decide +kernel
theorem dX8_copy_32 : decode cX8_copy 32 = .ok (.ifCond .ge 6, 3) := by decide +kernel
theorem dX8_copy_35 : decode cX8_copy 35 = .ok (.bipush (-11), 2) := by decide +kernel
theorem dX8_copy_37 : decode cX8_copy 37 = .ok (.ireturn, 1) := by decide +kernel
theorem dX8_copy_38 : decode cX8_copy 38 = .ok (.aload_n 0, 1) := by decide +kernel
theorem dX8_copy_39 : decode cX8_copy 39 = .ok (.getfield 60, 3) := by decide +kernel
theorem dX8_copy_42 : decode cX8_copy 42 = .ok (.iload_n 1, 1) := by decide +kernel
theorem dX8_copy_43 : decode cX8_copy 43 = .ok (.iaload, 1) := by decide +kernel
theorem dX8_copy_44 : decode cX8_copy 44 = .ok (.aload_n 0, 1) := by decide +kernel
theorem dX8_copy_45 : decode cX8_copy 45 = .ok (.getfield 60, 3) := by decide +kernel
theorem dX8_copy_48 : decode cX8_copy 48 = .ok (.iload_n 3, 1) := by decide +kernel
theorem dX8_copy_49 : decode cX8_copy 49 = .ok (.iaload, 1) := by decide +kernel
theorem dX8_copy_50 : decode cX8_copy 50 = .ok (.if_icmp .eq 6, 3) := by decide +kernel
theorem dX8_copy_53 : decode cX8_copy 53 = .ok (.bipush (-13), 2) := by decide +kernel
theorem dX8_copy_55 : decode cX8_copy 55 = .ok (.ireturn, 1) := by decide +kernel
theorem dX8_copy_56 : decode cX8_copy 56 = .ok (.iload 5, 2) := by decide +kernel
theorem dX8_copy_58 : decode cX8_copy 58 = .ok (.ifCond .lt 39, 3) := by decide +kernel
theorem dX8_copy_61 : decode cX8_copy 61 = .ok (.iload_n 2, 1) := by decide +kernel
theorem dX8_copy_62 : decode cX8_copy 62 = .ok (.ifCond .lt 35, 3) := by decide +kernel
theorem dX8_copy_65 : decode cX8_copy 65 = .ok (.iload 4, 2) := by decide +kernel
theorem dX8_copy_67 : decode cX8_copy 67 = .ok (.ifCond .lt 30, 3) := by decide +kernel
theorem dX8_copy_70 : decode cX8_copy 70 = .ok (.iload 5, 2) := by decide +kernel
theorem dX8_copy_72 : decode cX8_copy 72 = .ok (.aload_n 0, 1) := by decide +kernel
theorem dX8_copy_73 : decode cX8_copy 73 = .ok (.getfield 63, 3) := by decide +kernel
theorem dX8_copy_76 : decode cX8_copy 76 = .ok (.iload_n 1, 1) := by decide +kernel
theorem dX8_copy_77 : decode cX8_copy 77 = .ok (.iaload, 1) := by decide +kernel
theorem dX8_copy_78 : decode cX8_copy 78 = .ok (.iload_n 2, 1) := by decide +kernel
theorem dX8_copy_79 : decode cX8_copy 79 = .ok (.isub, 1) := by decide +kernel
theorem dX8_copy_80 : decode cX8_copy 80 = .ok (.if_icmp .gt 17, 3) := by decide +kernel
theorem dX8_copy_83 : decode cX8_copy 83 = .ok (.iload 5, 2) := by decide +kernel
theorem dX8_copy_85 : decode cX8_copy 85 = .ok (.aload_n 0, 1) := by decide +kernel
theorem dX8_copy_86 : decode cX8_copy 86 = .ok (.getfield 63, 3) := by decide +kernel
theorem dX8_copy_89 : decode cX8_copy 89 = .ok (.iload_n 3, 1) := by decide +kernel
theorem dX8_copy_90 : decode cX8_copy 90 = .ok (.iaload, 1) := by decide +kernel
theorem dX8_copy_91 : decode cX8_copy 91 = .ok (.iload 4, 2) := by decide +kernel
theorem dX8_copy_93 : decode cX8_copy 93 = .ok (.isub, 1) := by decide +kernel
theorem dX8_copy_94 : decode cX8_copy 94 = .ok (.if_icmp .le 6, 3) := by decide +kernel
theorem dX8_copy_97 : decode cX8_copy 97 = .ok (.bipush (-12), 2) := by decide +kernel
theorem dX8_copy_99 : decode cX8_copy 99 = .ok (.ireturn, 1) := by decide +kernel
theorem dX8_copy_100 : decode cX8_copy 100 = .ok (.iconst 0, 1) := by decide +kernel
theorem dX8_copy_101 : decode cX8_copy 101 = .ok (.istore 6, 2) := by decide +kernel
theorem dX8_copy_103 : decode cX8_copy 103 = .ok (.iload 6, 2) := by decide +kernel
theorem dX8_copy_105 : decode cX8_copy 105 = .ok (.iload 5, 2) := by decide +kernel
theorem dX8_copy_107 : decode cX8_copy 107 = .ok (.if_icmp .ge 58, 3) := by decide +kernel
theorem dX8_copy_110 : decode cX8_copy 110 = .ok (.iload_n 2, 1) := by decide +kernel
theorem dX8_copy_111 : decode cX8_copy 111 = .ok (.iload 4, 2) := by decide +kernel
theorem dX8_copy_113 : decode cX8_copy 113 = .ok (.if_icmp .le 8, 3) := by decide +kernel
theorem dX8_copy_116 : decode cX8_copy 116 = .ok (.iload 6, 2) := by decide +kernel
theorem dX8_copy_118 : decode cX8_copy 118 = .ok (.goto 10, 3) := by decide +kernel
theorem dX8_copy_121 : decode cX8_copy 121 = .ok (.iload 5, 2) := by decide +kernel
theorem dX8_copy_123 : decode cX8_copy 123 = .ok (.iconst 1, 1) := by decide +kernel
theorem dX8_copy_124 : decode cX8_copy 124 = .ok (.isub, 1) := by decide +kernel
theorem dX8_copy_125 : decode cX8_copy 125 = .ok (.iload 6, 2) := by decide +kernel
theorem dX8_copy_127 : decode cX8_copy 127 = .ok (.isub, 1) := by decide +kernel
theorem dX8_copy_128 : decode cX8_copy 128 = .ok (.istore 7, 2) := by decide +kernel
theorem dX8_copy_130 : decode cX8_copy 130 = .ok (.aload_n 0, 1) := by decide +kernel
theorem dX8_copy_131 : decode cX8_copy 131 = .ok (.getfield 66, 3) := by decide +kernel
theorem dX8_copy_134 : decode cX8_copy 134 = .ok (.bipush 12, 2) := by decide +kernel
theorem dX8_copy_136 : decode cX8_copy 136 = .ok (.iload_n 3, 1) := by decide +kernel
theorem dX8_copy_137 : decode cX8_copy 137 = .ok (.imul, 1) := by decide +kernel
theorem dX8_copy_138 : decode cX8_copy 138 = .ok (.iload 4, 2) := by decide +kernel
theorem dX8_copy_140 : decode cX8_copy 140 = .ok (.iadd, 1) := by decide +kernel
theorem dX8_copy_141 : decode cX8_copy 141 = .ok (.iload 7, 2) := by decide +kernel
theorem dX8_copy_143 : decode cX8_copy 143 = .ok (.iadd, 1) := by decide +kernel
theorem dX8_copy_144 : decode cX8_copy 144 = .ok (.aload_n 0, 1) := by decide +kernel
theorem dX8_copy_145 : decode cX8_copy 145 = .ok (.getfield 66, 3) := by decide +kernel
theorem dX8_copy_148 : decode cX8_copy 148 = .ok (.bipush 12, 2) := by decide +kernel
theorem dX8_copy_150 : decode cX8_copy 150 = .ok (.iload_n 1, 1) := by decide +kernel
theorem dX8_copy_151 : decode cX8_copy 151 = .ok (.imul, 1) := by decide +kernel
theorem dX8_copy_152 : decode cX8_copy 152 = .ok (.iload_n 2, 1) := by decide +kernel
theorem dX8_copy_153 : decode cX8_copy 153 = .ok (.iadd, 1) := by decide +kernel
theorem dX8_copy_154 : decode cX8_copy 154 = .ok (.iload 7, 2) := by decide +kernel
theorem dX8_copy_156 : decode cX8_copy 156 = .ok (.iadd, 1) := by decide +kernel
theorem dX8_copy_157 : decode cX8_copy 157 = .ok (.laload, 1) := by decide +kernel
theorem dX8_copy_158 : decode cX8_copy 158 = .ok (.lastore, 1) := by decide +kernel
theorem dX8_copy_159 : decode cX8_copy 159 = .ok (.iinc 6 1, 3) := by decide +kernel
theorem dX8_copy_162 : decode cX8_copy 162 = .ok (.goto (-59), 3) := by decide +kernel
theorem dX8_copy_165 : decode cX8_copy 165 = .ok (.iload 5, 2) := by decide +kernel
theorem dX8_copy_167 : decode cX8_copy 167 = .ok (.ireturn, 1) := by decide +kernel
theorem dX8_image_0 : decode cX8_image 0 = .ok (.aload_n 0, 1) := by decide +kernel
theorem dX8_image_1 : decode cX8_image 1 = .ok (.iconst 1, 1) := by decide +kernel
theorem dX8_image_2 : decode cX8_image 2 = .ok (.putfield 286, 3) := by decide +kernel
theorem dX8_image_5 : decode cX8_image 5 = .ok (.aload_n 0, 1) := by decide +kernel
theorem dX8_image_6 : decode cX8_image 6 = .ok (.getfield 23, 3) := by decide +kernel
theorem dX8_image_9 : decode cX8_image 9 = .ok (.iconst 0, 1) := by decide +kernel
theorem dX8_image_10 : decode cX8_image 10 = .ok (.aload_n 0, 1) := by decide +kernel
theorem dX8_image_11 : decode cX8_image 11 = .ok (.getfield 7, 3) := by decide +kernel
theorem dX8_image_14 : decode cX8_image 14 = .ok (.iastore, 1) := by decide +kernel
theorem dX8_image_15 : decode cX8_image 15 = .ok (.aload_n 0, 1) := by decide +kernel
theorem dX8_image_16 : decode cX8_image 16 = .ok (.getfield 23, 3) := by decide +kernel
theorem dX8_image_19 : decode cX8_image 19 = .ok (.iconst 1, 1) := by decide +kernel
theorem dX8_image_20 : decode cX8_image 20 = .ok (.aload_n 0, 1) := by decide +kernel
theorem dX8_image_21 : decode cX8_image 21 = .ok (.getfield 93, 3) := by decide +kernel
theorem dX8_image_24 : decode cX8_image 24 = .ok (.iastore, 1) := by decide +kernel
theorem dX8_image_25 : decode cX8_image 25 = .ok (.aload_n 0, 1) := by decide +kernel
theorem dX8_image_26 : decode cX8_image 26 = .ok (.getfield 23, 3) := by decide +kernel
theorem dX8_image_29 : decode cX8_image 29 = .ok (.iconst 2, 1) := by decide +kernel
theorem dX8_image_30 : decode cX8_image 30 = .ok (.aload_n 0, 1) := by decide +kernel
theorem dX8_image_31 : decode cX8_image 31 = .ok (.getfield 88, 3) := by decide +kernel
theorem dX8_image_34 : decode cX8_image 34 = .ok (.iastore, 1) := by decide +kernel
theorem dX8_image_35 : decode cX8_image 35 = .ok (.iconst 0, 1) := by decide +kernel
theorem dX8_image_36 : decode cX8_image 36 = .ok (.istore_n 1, 1) := by decide +kernel
theorem dX8_image_37 : decode cX8_image 37 = .ok (.iload_n 1, 1) := by decide +kernel
theorem dX8_image_38 : decode cX8_image 38 = .ok (.bipush 9, 2) := by decide +kernel
theorem dX8_image_40 : decode cX8_image 40 = .ok (.if_icmp .ge 23, 3) := by decide +kernel
theorem dX8_image_43 : decode cX8_image 43 = .ok (.aload_n 0, 1) := by decide +kernel
theorem dX8_image_44 : decode cX8_image 44 = .ok (.getfield 23, 3) := by decide +kernel
theorem dX8_image_47 : decode cX8_image 47 = .ok (.iconst 3, 1) := by decide +kernel
theorem dX8_image_48 : decode cX8_image 48 = .ok (.iload_n 1, 1) := by decide +kernel
theorem dX8_image_49 : decode cX8_image 49 = .ok (.iadd, 1) := by decide +kernel
theorem dX8_image_50 : decode cX8_image 50 = .ok (.aload_n 0, 1) := by decide +kernel
theorem dX8_image_51 : decode cX8_image 51 = .ok (.getfield 13, 3) := by decide +kernel
theorem dX8_image_54 : decode cX8_image 54 = .ok (.iload_n 1, 1) := by decide +kernel
theorem dX8_image_55 : decode cX8_image 55 = .ok (.iaload, 1) := by decide +kernel
theorem dX8_image_56 : decode cX8_image 56 = .ok (.iastore, 1) := by decide +kernel
theorem dX8_image_57 : decode cX8_image 57 = .ok (.iinc 1 1, 3) := by decide +kernel
theorem dX8_image_60 : decode cX8_image 60 = .ok (.goto (-23), 3) := by decide +kernel
theorem dX8_image_63 : decode cX8_image 63 = .ok (.iconst 0, 1) := by decide +kernel
theorem dX8_image_64 : decode cX8_image 64 = .ok (.istore_n 1, 1) := by decide +kernel
theorem dX8_image_65 : decode cX8_image 65 = .ok (.iload_n 1, 1) := by decide +kernel
theorem dX8_image_66 : decode cX8_image 66 = .ok (.iconst 3, 1) := by decide +kernel
theorem dX8_image_67 : decode cX8_image 67 = .ok (.if_icmp .ge 24, 3) := by decide +kernel
theorem dX8_image_70 : decode cX8_image 70 = .ok (.aload_n 0, 1) := by decide +kernel
theorem dX8_image_71 : decode cX8_image 71 = .ok (.getfield 23, 3) := by decide +kernel
theorem dX8_image_74 : decode cX8_image 74 = .ok (.bipush 12, 2) := by decide +kernel
theorem dX8_image_76 : decode cX8_image 76 = .ok (.iload_n 1, 1) := by decide +kernel
theorem dX8_image_77 : decode cX8_image 77 = .ok (.iadd, 1) := by decide +kernel
theorem dX8_image_78 : decode cX8_image 78 = .ok (.aload_n 0, 1) := by decide +kernel
theorem dX8_image_79 : decode cX8_image 79 = .ok (.getfield 17, 3) := by decide +kernel
theorem dX8_image_82 : decode cX8_image 82 = .ok (.iload_n 1, 1) := by decide +kernel
theorem dX8_image_83 : decode cX8_image 83 = .ok (.iaload, 1) := by decide +kernel
theorem dX8_image_84 : decode cX8_image 84 = .ok (.iastore, 1) := by decide +kernel
theorem dX8_image_85 : decode cX8_image 85 = .ok (.iinc 1 1, 3) := by decide +kernel
theorem dX8_image_88 : decode cX8_image 88 = .ok (.goto (-23), 3) := by decide +kernel
theorem dX8_image_91 : decode cX8_image 91 = .ok (.iconst 0, 1) := by decide +kernel
theorem dX8_image_92 : decode cX8_image 92 = .ok (.istore_n 1, 1) := by decide +kernel
theorem dX8_image_93 : decode cX8_image 93 = .ok (.iload_n 1, 1) := by decide +kernel
theorem dX8_image_94 : decode cX8_image 94 = .ok (.bipush 36, 2) := by decide +kernel
theorem dX8_image_96 : decode cX8_image 96 = .ok (.if_icmp .ge 24, 3) := by decide +kernel
theorem dX8_image_99 : decode cX8_image 99 = .ok (.aload_n 0, 1) := by decide +kernel
theorem dX8_image_100 : decode cX8_image 100 = .ok (.getfield 23, 3) := by decide +kernel
theorem dX8_image_103 : decode cX8_image 103 = .ok (.bipush 15, 2) := by decide +kernel
theorem dX8_image_105 : decode cX8_image 105 = .ok (.iload_n 1, 1) := by decide +kernel
theorem dX8_image_106 : decode cX8_image 106 = .ok (.iadd, 1) := by decide +kernel
theorem dX8_image_107 : decode cX8_image 107 = .ok (.aload_n 0, 1) := by decide +kernel
theorem dX8_image_108 : decode cX8_image 108 = .ok (.getfield 20, 3) := by decide +kernel
theorem dX8_image_111 : decode cX8_image 111 = .ok (.iload_n 1, 1) := by decide +kernel
theorem dX8_image_112 : decode cX8_image 112 = .ok (.iaload, 1) := by decide +kernel
theorem dX8_image_113 : decode cX8_image 113 = .ok (.iastore, 1) := by decide +kernel
theorem dX8_image_114 : decode cX8_image 114 = .ok (.iinc 1 1, 3) := by decide +kernel
theorem dX8_image_117 : decode cX8_image 117 = .ok (.goto (-24), 3) := by decide +kernel
theorem dX8_image_120 : decode cX8_image 120 = .ok (.aload_n 0, 1) := by decide +kernel
theorem dX8_image_121 : decode cX8_image 121 = .ok (.getfield 88, 3) := by decide +kernel
theorem dX8_image_124 : decode cX8_image 124 = .ok (.ireturn, 1) := by decide +kernel
theorem dX8_back_0 : decode cX8_back 0 = .ok (.aload_n 0, 1) := by decide +kernel
theorem dX8_back_1 : decode cX8_back 1 = .ok (.getfield 286, 3) := by decide +kernel
theorem dX8_back_4 : decode cX8_back 4 = .ok (.ifCond .ne 6, 3) := by decide +kernel
theorem dX8_back_7 : decode cX8_back 7 = .ok (.bipush (-3), 2) := by decide +kernel
theorem dX8_back_9 : decode cX8_back 9 = .ok (.ireturn, 1) := by decide +kernel
theorem dX8_back_10 : decode cX8_back 10 = .ok (.aload_n 0, 1) := by decide +kernel
theorem dX8_back_11 : decode cX8_back 11 = .ok (.aload_n 0, 1) := by decide +kernel
theorem dX8_back_12 : decode cX8_back 12 = .ok (.getfield 23, 3) := by decide +kernel
theorem dX8_back_15 : decode cX8_back 15 = .ok (.iconst 0, 1) := by decide +kernel
theorem dX8_back_16 : decode cX8_back 16 = .ok (.iaload, 1) := by decide +kernel
theorem dX8_back_17 : decode cX8_back 17 = .ok (.putfield 7, 3) := by decide +kernel
theorem dX8_back_20 : decode cX8_back 20 = .ok (.aload_n 0, 1) := by decide +kernel
theorem dX8_back_21 : decode cX8_back 21 = .ok (.aload_n 0, 1) := by decide +kernel
theorem dX8_back_22 : decode cX8_back 22 = .ok (.getfield 23, 3) := by decide +kernel
theorem dX8_back_25 : decode cX8_back 25 = .ok (.iconst 1, 1) := by decide +kernel
theorem dX8_back_26 : decode cX8_back 26 = .ok (.iaload, 1) := by decide +kernel
theorem dX8_back_27 : decode cX8_back 27 = .ok (.putfield 93, 3) := by decide +kernel
theorem dX8_back_30 : decode cX8_back 30 = .ok (.aload_n 0, 1) := by decide +kernel
theorem dX8_back_31 : decode cX8_back 31 = .ok (.aload_n 0, 1) := by decide +kernel
theorem dX8_back_32 : decode cX8_back 32 = .ok (.getfield 23, 3) := by decide +kernel
theorem dX8_back_35 : decode cX8_back 35 = .ok (.iconst 2, 1) := by decide +kernel
theorem dX8_back_36 : decode cX8_back 36 = .ok (.iaload, 1) := by decide +kernel
theorem dX8_back_37 : decode cX8_back 37 = .ok (.putfield 88, 3) := by decide +kernel
theorem dX8_back_40 : decode cX8_back 40 = .ok (.iconst 0, 1) := by decide +kernel
theorem dX8_back_41 : decode cX8_back 41 = .ok (.istore_n 1, 1) := by decide +kernel
theorem dX8_back_42 : decode cX8_back 42 = .ok (.iload_n 1, 1) := by decide +kernel
theorem dX8_back_43 : decode cX8_back 43 = .ok (.bipush 9, 2) := by decide +kernel
theorem dX8_back_45 : decode cX8_back 45 = .ok (.if_icmp .ge 23, 3) := by decide +kernel
theorem dX8_back_48 : decode cX8_back 48 = .ok (.aload_n 0, 1) := by decide +kernel
theorem dX8_back_49 : decode cX8_back 49 = .ok (.getfield 13, 3) := by decide +kernel
theorem dX8_back_52 : decode cX8_back 52 = .ok (.iload_n 1, 1) := by decide +kernel
theorem dX8_back_53 : decode cX8_back 53 = .ok (.aload_n 0, 1) := by decide +kernel
theorem dX8_back_54 : decode cX8_back 54 = .ok (.getfield 23, 3) := by decide +kernel
theorem dX8_back_57 : decode cX8_back 57 = .ok (.iconst 3, 1) := by decide +kernel
theorem dX8_back_58 : decode cX8_back 58 = .ok (.iload_n 1, 1) := by decide +kernel
theorem dX8_back_59 : decode cX8_back 59 = .ok (.iadd, 1) := by decide +kernel
theorem dX8_back_60 : decode cX8_back 60 = .ok (.iaload, 1) := by decide +kernel
theorem dX8_back_61 : decode cX8_back 61 = .ok (.iastore, 1) := by decide +kernel
theorem dX8_back_62 : decode cX8_back 62 = .ok (.iinc 1 1, 3) := by decide +kernel
theorem dX8_back_65 : decode cX8_back 65 = .ok (.goto (-23), 3) := by decide +kernel
theorem dX8_back_68 : decode cX8_back 68 = .ok (.iconst 0, 1) := by decide +kernel
theorem dX8_back_69 : decode cX8_back 69 = .ok (.istore_n 1, 1) := by decide +kernel
theorem dX8_back_70 : decode cX8_back 70 = .ok (.iload_n 1, 1) := by decide +kernel
theorem dX8_back_71 : decode cX8_back 71 = .ok (.iconst 3, 1) := by decide +kernel
theorem dX8_back_72 : decode cX8_back 72 = .ok (.if_icmp .ge 24, 3) := by decide +kernel
theorem dX8_back_75 : decode cX8_back 75 = .ok (.aload_n 0, 1) := by decide +kernel
theorem dX8_back_76 : decode cX8_back 76 = .ok (.getfield 17, 3) := by decide +kernel
theorem dX8_back_79 : decode cX8_back 79 = .ok (.iload_n 1, 1) := by decide +kernel
theorem dX8_back_80 : decode cX8_back 80 = .ok (.aload_n 0, 1) := by decide +kernel
theorem dX8_back_81 : decode cX8_back 81 = .ok (.getfield 23, 3) := by decide +kernel
theorem dX8_back_84 : decode cX8_back 84 = .ok (.bipush 12, 2) := by decide +kernel
theorem dX8_back_86 : decode cX8_back 86 = .ok (.iload_n 1, 1) := by decide +kernel
theorem dX8_back_87 : decode cX8_back 87 = .ok (.iadd, 1) := by decide +kernel
theorem dX8_back_88 : decode cX8_back 88 = .ok (.iaload, 1) := by decide +kernel
theorem dX8_back_89 : decode cX8_back 89 = .ok (.iastore, 1) := by decide +kernel
theorem dX8_back_90 : decode cX8_back 90 = .ok (.iinc 1 1, 3) := by decide +kernel
theorem dX8_back_93 : decode cX8_back 93 = .ok (.goto (-23), 3) := by decide +kernel
theorem dX8_back_96 : decode cX8_back 96 = .ok (.iconst 0, 1) := by decide +kernel
theorem dX8_back_97 : decode cX8_back 97 = .ok (.istore_n 1, 1) := by decide +kernel
theorem dX8_back_98 : decode cX8_back 98 = .ok (.iload_n 1, 1) := by decide +kernel
theorem dX8_back_99 : decode cX8_back 99 = .ok (.bipush 36, 2) := by decide +kernel
theorem dX8_back_101 : decode cX8_back 101 = .ok (.if_icmp .ge 24, 3) := by decide +kernel
theorem dX8_back_104 : decode cX8_back 104 = .ok (.aload_n 0, 1) := by decide +kernel
theorem dX8_back_105 : decode cX8_back 105 = .ok (.getfield 20, 3) := by decide +kernel
theorem dX8_back_108 : decode cX8_back 108 = .ok (.iload_n 1, 1) := by decide +kernel
theorem dX8_back_109 : decode cX8_back 109 = .ok (.aload_n 0, 1) := by decide +kernel
theorem dX8_back_110 : decode cX8_back 110 = .ok (.getfield 23, 3) := by decide +kernel
theorem dX8_back_113 : decode cX8_back 113 = .ok (.bipush 15, 2) := by decide +kernel
theorem dX8_back_115 : decode cX8_back 115 = .ok (.iload_n 1, 1) := by decide +kernel
theorem dX8_back_116 : decode cX8_back 116 = .ok (.iadd, 1) := by decide +kernel
theorem dX8_back_117 : decode cX8_back 117 = .ok (.iaload, 1) := by decide +kernel
theorem dX8_back_118 : decode cX8_back 118 = .ok (.iastore, 1) := by decide +kernel
theorem dX8_back_119 : decode cX8_back 119 = .ok (.iinc 1 1, 3) := by decide +kernel
theorem dX8_back_122 : decode cX8_back 122 = .ok (.goto (-24), 3) := by decide +kernel
theorem dX8_back_125 : decode cX8_back 125 = .ok (.aload_n 0, 1) := by decide +kernel
theorem dX8_back_126 : decode cX8_back 126 = .ok (.getfield 88, 3) := by decide +kernel
theorem dX8_back_129 : decode cX8_back 129 = .ok (.ireturn, 1) := by decide +kernel
theorem dX8_count_0 : decode cX8_count 0 = .ok (.iconst 0, 1) := by decide +kernel
theorem dX8_count_1 : decode cX8_count 1 = .ok (.istore_n 2, 1) := by decide +kernel
theorem dX8_count_2 : decode cX8_count 2 = .ok (.iconst 0, 1) := by decide +kernel
theorem dX8_count_3 : decode cX8_count 3 = .ok (.istore_n 3, 1) := by decide +kernel
theorem dX8_count_4 : decode cX8_count 4 = .ok (.iload_n 3, 1) := by decide +kernel
theorem dX8_count_5 : decode cX8_count 5 = .ok (.aload_n 0, 1) := by decide +kernel
theorem dX8_count_6 : decode cX8_count 6 = .ok (.getfield 88, 3) := by decide +kernel
theorem dX8_count_9 : decode cX8_count 9 = .ok (.if_icmp .ge 25, 3) := by decide +kernel
theorem dX8_count_12 : decode cX8_count 12 = .ok (.iload_n 2, 1) := by decide +kernel
theorem dX8_count_13 : decode cX8_count 13 = .ok (.aload_n 0, 1) := by decide +kernel
theorem dX8_count_14 : decode cX8_count 14 = .ok (.iload_n 3, 1) := by decide +kernel
theorem dX8_count_15 : decode cX8_count 15 = .ok (.invokevirtual 175, 3) := by decide +kernel
theorem dX8_count_18 : decode cX8_count 18 = .ok (.ifCond .eq 7, 3) := by decide +kernel
theorem dX8_count_21 : decode cX8_count 21 = .ok (.iconst 1, 1) := by decide +kernel
theorem dX8_count_22 : decode cX8_count 22 = .ok (.goto 4, 3) := by decide +kernel
theorem dX8_count_25 : decode cX8_count 25 = .ok (.iconst 0, 1) := by decide +kernel
theorem dX8_count_26 : decode cX8_count 26 = .ok (.iadd, 1) := by decide +kernel
theorem dX8_count_27 : decode cX8_count 27 = .ok (.istore_n 2, 1) := by decide +kernel
theorem dX8_count_28 : decode cX8_count 28 = .ok (.iinc 3 1, 3) := by decide +kernel
theorem dX8_count_31 : decode cX8_count 31 = .ok (.goto (-27), 3) := by decide +kernel
theorem dX8_count_34 : decode cX8_count 34 = .ok (.iload_n 1, 1) := by decide +kernel
theorem dX8_count_35 : decode cX8_count 35 = .ok (.ifCond .ne 10, 3) := by decide +kernel
theorem dX8_count_38 : decode cX8_count 38 = .ok (.aload_n 0, 1) := by decide +kernel
theorem dX8_count_39 : decode cX8_count 39 = .ok (.getfield 7, 3) := by decide +kernel
theorem dX8_count_42 : decode cX8_count 42 = .ok (.goto 38, 3) := by decide +kernel
theorem dX8_count_45 : decode cX8_count 45 = .ok (.iload_n 1, 1) := by decide +kernel
theorem dX8_count_46 : decode cX8_count 46 = .ok (.iconst 1, 1) := by decide +kernel
theorem dX8_count_47 : decode cX8_count 47 = .ok (.if_icmp .ne 10, 3) := by decide +kernel
theorem dX8_count_50 : decode cX8_count 50 = .ok (.aload_n 0, 1) := by decide +kernel
theorem dX8_count_51 : decode cX8_count 51 = .ok (.getfield 88, 3) := by decide +kernel
theorem dX8_count_54 : decode cX8_count 54 = .ok (.goto 26, 3) := by decide +kernel
theorem dX8_count_57 : decode cX8_count 57 = .ok (.iload_n 1, 1) := by decide +kernel
theorem dX8_count_58 : decode cX8_count 58 = .ok (.iconst 2, 1) := by decide +kernel
theorem dX8_count_59 : decode cX8_count 59 = .ok (.if_icmp .ne 10, 3) := by decide +kernel
theorem dX8_count_62 : decode cX8_count 62 = .ok (.aload_n 0, 1) := by decide +kernel
theorem dX8_count_63 : decode cX8_count 63 = .ok (.getfield 93, 3) := by decide +kernel
theorem dX8_count_66 : decode cX8_count 66 = .ok (.goto 14, 3) := by decide +kernel
theorem dX8_count_69 : decode cX8_count 69 = .ok (.iload_n 1, 1) := by decide +kernel
theorem dX8_count_70 : decode cX8_count 70 = .ok (.iconst 3, 1) := by decide +kernel
theorem dX8_count_71 : decode cX8_count 71 = .ok (.if_icmp .ne 7, 3) := by decide +kernel
theorem dX8_count_74 : decode cX8_count 74 = .ok (.iload_n 2, 1) := by decide +kernel
theorem dX8_count_75 : decode cX8_count 75 = .ok (.goto 5, 3) := by decide +kernel
theorem dX8_count_78 : decode cX8_count 78 = .ok (.bipush (-2), 2) := by decide +kernel
theorem dX8_count_80 : decode cX8_count 80 = .ok (.ireturn, 1) := by decide +kernel
