theorem dS_init_0 : decode cS_init 0 = .ok (.aload_n 0, 1) := by decide +kernel
theorem dS_init_1 : decode cS_init 1 = .ok (.invokespecial 1, 3) := by decide +kernel
theorem dS_init_4 : decode cS_init 4 = .ok (.aload_n 0, 1) := by decide +kernel
theorem dS_init_5 : decode cS_init 5 = .ok (.iconst 0, 1) := by decide +kernel
theorem dS_init_6 : decode cS_init 6 = .ok (.putfield 7, 3) := by decide +kernel
theorem dS_init_9 : decode cS_init 9 = .ok (.aload_n 0, 1) := by decide +kernel
theorem dS_init_10 : decode cS_init 10 = .ok (.iconst 1, 1) := by decide +kernel
theorem dS_init_11 : decode cS_init 11 = .ok (.putfield 13, 3) := by decide +kernel
theorem dS_init_14 : decode cS_init 14 = .ok (.aload_n 0, 1) := by decide +kernel
theorem dS_init_15 : decode cS_init 15 = .ok (.iconst 0, 1) := by decide +kernel
theorem dS_init_16 : decode cS_init 16 = .ok (.putfield 17, 3) := by decide +kernel
theorem dS_init_19 : decode cS_init 19 = .ok (.aload_n 0, 1) := by decide +kernel
theorem dS_init_20 : decode cS_init 20 = .ok (.iload_n 1, 1) := by decide +kernel
theorem dS_init_21 : decode cS_init 21 = .ok (.putfield 20, 3) := by decide +kernel
theorem dS_init_24 : decode cS_init 24 = .ok (.aload_n 0, 1) := by decide +kernel
theorem dS_init_25 : decode cS_init 25 = .ok (.iload_n 1, 1) := by decide +kernel
theorem dS_init_26 : decode cS_init 26 = .ok (.putfield 23, 3) := by decide +kernel
theorem dS_init_29 : decode cS_init 29 = .ok (.return_, 1) := by decide +kernel
theorem dS_raiseBound_0 : decode cS_raiseBound 0 = .ok (.aload_n 0, 1) := by decide +kernel
theorem dS_raiseBound_1 : decode cS_raiseBound 1 = .ok (.aload_n 0, 1) := by decide +kernel
theorem dS_raiseBound_2 : decode cS_raiseBound 2 = .ok (.getfield 17, 3) := by decide +kernel
theorem dS_raiseBound_5 : decode cS_raiseBound 5 = .ok (.iload_n 1, 1) := by decide +kernel
theorem dS_raiseBound_6 : decode cS_raiseBound 6 = .ok (.invokestatic 26, 3) := by decide +kernel
theorem dS_raiseBound_9 : decode cS_raiseBound 9 = .ok (.putfield 17, 3) := by decide +kernel
theorem dS_raiseBound_12 : decode cS_raiseBound 12 = .ok (.return_, 1) := by decide +kernel
theorem dK_init_0 : decode cK_init 0 = .ok (.aload_n 0, 1) := by decide +kernel
theorem dK_init_1 : decode cK_init 1 = .ok (.invokespecial 3, 3) := by decide +kernel
theorem dK_init_4 : decode cK_init 4 = .ok (.aload_n 0, 1) := by decide +kernel
theorem dK_init_5 : decode cK_init 5 = .ok (.iconst 4, 1) := by decide +kernel
theorem dK_init_6 : decode cK_init 6 = .ok (.newarray .int, 2) := by decide +kernel
theorem dK_init_8 : decode cK_init 8 = .ok (.putfield 9, 3) := by decide +kernel
theorem dK_init_11 : decode cK_init 11 = .ok (.aload_n 0, 1) := by decide +kernel
theorem dK_init_12 : decode cK_init 12 = .ok (.iconst 4, 1) := by decide +kernel
theorem dK_init_13 : decode cK_init 13 = .ok (.newarray .int, 2) := by decide +kernel
theorem dK_init_15 : decode cK_init 15 = .ok (.putfield 15, 3) := by decide +kernel
theorem dK_init_18 : decode cK_init 18 = .ok (.aload_n 0, 1) := by decide +kernel
theorem dK_init_19 : decode cK_init 19 = .ok (.iconst 1, 1) := by decide +kernel
theorem dK_init_20 : decode cK_init 20 = .ok (.putfield 18, 3) := by decide +kernel
theorem dK_init_23 : decode cK_init 23 = .ok (.return_, 1) := by decide +kernel
theorem dK_add_0 : decode cK_add 0 = .ok (.iconst 3, 1) := by decide +kernel
theorem dK_add_1 : decode cK_add 1 = .ok (.istore_n 3, 1) := by decide +kernel
theorem dK_add_2 : decode cK_add 2 = .ok (.iload_n 3, 1) := by decide +kernel
theorem dK_add_3 : decode cK_add 3 = .ok (.ifCond .le 37, 3) := by decide +kernel
theorem dK_add_6 : decode cK_add 6 = .ok (.aload_n 0, 1) := by decide +kernel
theorem dK_add_7 : decode cK_add 7 = .ok (.getfield 9, 3) := by decide +kernel
theorem dK_add_10 : decode cK_add 10 = .ok (.iload_n 3, 1) := by decide +kernel
theorem dK_add_11 : decode cK_add 11 = .ok (.aload_n 0, 1) := by decide +kernel
theorem dK_add_12 : decode cK_add 12 = .ok (.getfield 9, 3) := by decide +kernel
theorem dK_add_15 : decode cK_add 15 = .ok (.iload_n 3, 1) := by decide +kernel
theorem dK_add_16 : decode cK_add 16 = .ok (.iconst 1, 1) := by decide +kernel
theorem dK_add_17 : decode cK_add 17 = .ok (.isub, 1) := by decide +kernel
theorem dK_add_18 : decode cK_add 18 = .ok (.iaload, 1) := by decide +kernel
theorem dK_add_19 : decode cK_add 19 = .ok (.iastore, 1) := by decide +kernel
theorem dK_add_20 : decode cK_add 20 = .ok (.aload_n 0, 1) := by decide +kernel
theorem dK_add_21 : decode cK_add 21 = .ok (.getfield 15, 3) := by decide +kernel
theorem dK_add_24 : decode cK_add 24 = .ok (.iload_n 3, 1) := by decide +kernel
theorem dK_add_25 : decode cK_add 25 = .ok (.aload_n 0, 1) := by decide +kernel
theorem dK_add_26 : decode cK_add 26 = .ok (.getfield 15, 3) := by decide +kernel
theorem dK_add_29 : decode cK_add 29 = .ok (.iload_n 3, 1) := by decide +kernel
theorem dK_add_30 : decode cK_add 30 = .ok (.iconst 1, 1) := by decide +kernel
theorem dK_add_31 : decode cK_add 31 = .ok (.isub, 1) := by decide +kernel
theorem dK_add_32 : decode cK_add 32 = .ok (.iaload, 1) := by decide +kernel
theorem dK_add_33 : decode cK_add 33 = .ok (.iastore, 1) := by decide +kernel
theorem dK_add_34 : decode cK_add 34 = .ok (.iinc 3 (-1), 3) := by decide +kernel
theorem dK_add_37 : decode cK_add 37 = .ok (.goto (-35), 3) := by decide +kernel
theorem dK_add_40 : decode cK_add 40 = .ok (.aload_n 0, 1) := by decide +kernel
theorem dK_add_41 : decode cK_add 41 = .ok (.getfield 9, 3) := by decide +kernel
theorem dK_add_44 : decode cK_add 44 = .ok (.iconst 0, 1) := by decide +kernel
theorem dK_add_45 : decode cK_add 45 = .ok (.iload_n 1, 1) := by decide +kernel
theorem dK_add_46 : decode cK_add 46 = .ok (.iastore, 1) := by decide +kernel
theorem dK_add_47 : decode cK_add 47 = .ok (.aload_n 0, 1) := by decide +kernel
theorem dK_add_48 : decode cK_add 48 = .ok (.getfield 15, 3) := by decide +kernel
theorem dK_add_51 : decode cK_add 51 = .ok (.iconst 0, 1) := by decide +kernel
theorem dK_add_52 : decode cK_add 52 = .ok (.iload_n 2, 1) := by decide +kernel
theorem dK_add_53 : decode cK_add 53 = .ok (.iastore, 1) := by decide +kernel
theorem dK_add_54 : decode cK_add 54 = .ok (.aload_n 0, 1) := by decide +kernel
theorem dK_add_55 : decode cK_add 55 = .ok (.aload_n 0, 1) := by decide +kernel
theorem dK_add_56 : decode cK_add 56 = .ok (.getfield 18, 3) := by decide +kernel
theorem dK_add_59 : decode cK_add 59 = .ok (.iconst 1, 1) := by decide +kernel
theorem dK_add_60 : decode cK_add 60 = .ok (.iadd, 1) := by decide +kernel
theorem dK_add_61 : decode cK_add 61 = .ok (.iconst 4, 1) := by decide +kernel
theorem dK_add_62 : decode cK_add 62 = .ok (.invokestatic 22, 3) := by decide +kernel
theorem dK_add_65 : decode cK_add 65 = .ok (.putfield 18, 3) := by decide +kernel
theorem dK_add_68 : decode cK_add 68 = .ok (.return_, 1) := by decide +kernel
theorem dK_valueAt_0 : decode cK_valueAt 0 = .ok (.iconst 0, 1) := by decide +kernel
theorem dK_valueAt_1 : decode cK_valueAt 1 = .ok (.istore_n 2, 1) := by decide +kernel
theorem dK_valueAt_2 : decode cK_valueAt 2 = .ok (.iload_n 2, 1) := by decide +kernel
theorem dK_valueAt_3 : decode cK_valueAt 3 = .ok (.aload_n 0, 1) := by decide +kernel
theorem dK_valueAt_4 : decode cK_valueAt 4 = .ok (.getfield 18, 3) := by decide +kernel
theorem dK_valueAt_7 : decode cK_valueAt 7 = .ok (.if_icmp .ge 27, 3) := by decide +kernel
theorem dK_valueAt_10 : decode cK_valueAt 10 = .ok (.aload_n 0, 1) := by decide +kernel
theorem dK_valueAt_11 : decode cK_valueAt 11 = .ok (.getfield 15, 3) := by decide +kernel
theorem dK_valueAt_14 : decode cK_valueAt 14 = .ok (.iload_n 2, 1) := by decide +kernel
theorem dK_valueAt_15 : decode cK_valueAt 15 = .ok (.iaload, 1) := by decide +kernel
theorem dK_valueAt_16 : decode cK_valueAt 16 = .ok (.iload_n 1, 1) := by decide +kernel
theorem dK_valueAt_17 : decode cK_valueAt 17 = .ok (.if_icmp .gt 11, 3) := by decide +kernel
theorem dK_valueAt_20 : decode cK_valueAt 20 = .ok (.aload_n 0, 1) := by decide +kernel
theorem dK_valueAt_21 : decode cK_valueAt 21 = .ok (.getfield 9, 3) := by decide +kernel
theorem dK_valueAt_24 : decode cK_valueAt 24 = .ok (.iload_n 2, 1) := by decide +kernel
theorem dK_valueAt_25 : decode cK_valueAt 25 = .ok (.iaload, 1) := by decide +kernel
theorem dK_valueAt_26 : decode cK_valueAt 26 = .ok (.i2l, 1) := by decide +kernel
theorem dK_valueAt_27 : decode cK_valueAt 27 = .ok (.lreturn, 1) := by decide +kernel
theorem dK_valueAt_28 : decode cK_valueAt 28 = .ok (.iinc 2 1, 3) := by decide +kernel
theorem dK_valueAt_31 : decode cK_valueAt 31 = .ok (.goto (-29), 3) := by decide +kernel
theorem dK_valueAt_34 : decode cK_valueAt 34 = .ok (.ldc2_w 28, 3) := by decide +kernel
theorem dK_valueAt_37 : decode cK_valueAt 37 = .ok (.lreturn, 1) := by decide +kernel
theorem dT_init_0 : decode cT_init 0 = .ok (.aload_n 0, 1) := by decide +kernel
theorem dT_init_1 : decode cT_init 1 = .ok (.invokespecial 3, 3) := by decide +kernel
theorem dT_init_4 : decode cT_init 4 = .ok (.aload_n 0, 1) := by decide +kernel
theorem dT_init_5 : decode cT_init 5 = .ok (.iconst 0, 1) := by decide +kernel
theorem dT_init_6 : decode cT_init 6 = .ok (.putfield 9, 3) := by decide +kernel
theorem dT_init_9 : decode cT_init 9 = .ok (.aload_n 0, 1) := by decide +kernel
theorem dT_init_10 : decode cT_init 10 = .ok (.iconst 0, 1) := by decide +kernel
theorem dT_init_11 : decode cT_init 11 = .ok (.putfield 15, 3) := by decide +kernel
theorem dT_init_14 : decode cT_init 14 = .ok (.aload_n 0, 1) := by decide +kernel
theorem dT_init_15 : decode cT_init 15 = .ok (.iconst 0, 1) := by decide +kernel
theorem dT_init_16 : decode cT_init 16 = .ok (.putfield 18, 3) := by decide +kernel
theorem dT_init_19 : decode cT_init 19 = .ok (.aload_n 0, 1) := by decide +kernel
theorem dT_init_20 : decode cT_init 20 = .ok (.iconst 0, 1) := by decide +kernel
theorem dT_init_21 : decode cT_init 21 = .ok (.putfield 21, 3) := by decide +kernel
theorem dT_init_24 : decode cT_init 24 = .ok (.aload_n 0, 1) := by decide +kernel
theorem dT_init_25 : decode cT_init 25 = .ok (.iconst 0, 1) := by decide +kernel
theorem dT_init_26 : decode cT_init 26 = .ok (.putfield 24, 3) := by decide +kernel
theorem dT_init_29 : decode cT_init 29 = .ok (.aload_n 0, 1) := by decide +kernel
theorem dT_init_30 : decode cT_init 30 = .ok (.iconst 0, 1) := by decide +kernel
theorem dT_init_31 : decode cT_init 31 = .ok (.putfield 27, 3) := by decide +kernel
theorem dT_init_34 : decode cT_init 34 = .ok (.aload_n 0, 1) := by decide +kernel
theorem dT_init_35 : decode cT_init 35 = .ok (.iconst 0, 1) := by decide +kernel
theorem dT_init_36 : decode cT_init 36 = .ok (.putfield 30, 3) := by decide +kernel
theorem dT_init_39 : decode cT_init 39 = .ok (.aload_n 0, 1) := by decide +kernel
theorem dT_init_40 : decode cT_init 40 = .ok (.bipush 9, 2) := by decide +kernel
theorem dT_init_42 : decode cT_init 42 = .ok (.newarray .int, 2) := by decide +kernel
theorem dT_init_44 : decode cT_init 44 = .ok (.putfield 33, 3) := by decide +kernel
theorem dT_init_47 : decode cT_init 47 = .ok (.aload_n 0, 1) := by decide +kernel
theorem dT_init_48 : decode cT_init 48 = .ok (.bipush 9, 2) := by decide +kernel
theorem dT_init_50 : decode cT_init 50 = .ok (.newarray .int, 2) := by decide +kernel
theorem dT_init_52 : decode cT_init 52 = .ok (.putfield 37, 3) := by decide +kernel
theorem dT_init_55 : decode cT_init 55 = .ok (.aload_n 0, 1) := by decide +kernel
theorem dT_init_56 : decode cT_init 56 = .ok (.iconst 3, 1) := by decide +kernel
theorem dT_init_57 : decode cT_init 57 = .ok (.newarray .int, 2) := by decide +kernel
theorem dT_init_59 : decode cT_init 59 = .ok (.putfield 40, 3) := by decide +kernel
theorem dT_init_62 : decode cT_init 62 = .ok (.return_, 1) := by decide +kernel
theorem dT_holdsAt_0 : decode cT_holdsAt 0 = .ok (.iload_n 1, 1) := by decide +kernel
theorem dT_holdsAt_1 : decode cT_holdsAt 1 = .ok (.istore_n 2, 1) := by decide +kernel
theorem dT_holdsAt_2 : decode cT_holdsAt 2 = .ok (.iload_n 2, 1) := by decide +kernel
theorem dT_holdsAt_3 : decode cT_holdsAt 3 = .ok (.bipush 9, 2) := by decide +kernel
theorem dT_holdsAt_5 : decode cT_holdsAt 5 = .ok (.if_icmp .ge 20, 3) := by decide +kernel
theorem dT_holdsAt_8 : decode cT_holdsAt 8 = .ok (.aload_n 0, 1) := by decide +kernel
theorem dT_holdsAt_9 : decode cT_holdsAt 9 = .ok (.getfield 33, 3) := by decide +kernel
theorem dT_holdsAt_12 : decode cT_holdsAt 12 = .ok (.iload_n 2, 1) := by decide +kernel
theorem dT_holdsAt_13 : decode cT_holdsAt 13 = .ok (.iaload, 1) := by decide +kernel
theorem dT_holdsAt_14 : decode cT_holdsAt 14 = .ok (.ifCond .eq 5, 3) := by decide +kernel
theorem dT_holdsAt_17 : decode cT_holdsAt 17 = .ok (.iconst 1, 1) := by decide +kernel
theorem dT_holdsAt_18 : decode cT_holdsAt 18 = .ok (.ireturn, 1) := by decide +kernel
theorem dT_holdsAt_19 : decode cT_holdsAt 19 = .ok (.iinc 2 3, 3) := by decide +kernel
theorem dT_holdsAt_22 : decode cT_holdsAt 22 = .ok (.goto (-20), 3) := by decide +kernel
theorem dT_holdsAt_25 : decode cT_holdsAt 25 = .ok (.iconst 0, 1) := by decide +kernel
theorem dT_holdsAt_26 : decode cT_holdsAt 26 = .ok (.ireturn, 1) := by decide +kernel
theorem dT_leastParticipant_0 : decode cT_leastParticipant 0 = .ok (.iconst 0, 1) := by decide +kernel
theorem dT_leastParticipant_1 : decode cT_leastParticipant 1 = .ok (.istore_n 1, 1) := by decide +kernel
theorem dT_leastParticipant_2 : decode cT_leastParticipant 2 = .ok (.iload_n 1, 1) := by decide +kernel
theorem dT_leastParticipant_3 : decode cT_leastParticipant 3 = .ok (.iconst 3, 1) := by decide +kernel
theorem dT_leastParticipant_4 : decode cT_leastParticipant 4 = .ok (.if_icmp .ge 19, 3) := by decide +kernel
theorem dT_leastParticipant_7 : decode cT_leastParticipant 7 = .ok (.aload_n 0, 1) := by decide +kernel
theorem dT_leastParticipant_8 : decode cT_leastParticipant 8 = .ok (.iload_n 1, 1) := by decide +kernel
theorem dT_leastParticipant_9 : decode cT_leastParticipant 9 = .ok (.invokevirtual 43, 3) := by decide +kernel
theorem dT_leastParticipant_12 : decode cT_leastParticipant 12 = .ok (.ifCond .eq 5, 3) := by decide +kernel
theorem dT_leastParticipant_15 : decode cT_leastParticipant 15 = .ok (.iload_n 1, 1) := by decide +kernel
theorem dT_leastParticipant_16 : decode cT_leastParticipant 16 = .ok (.ireturn, 1) := by decide +kernel
theorem dT_leastParticipant_17 : decode cT_leastParticipant 17 = .ok (.iinc 1 1, 3) := by decide +kernel
theorem dT_leastParticipant_20 : decode cT_leastParticipant 20 = .ok (.goto (-18), 3) := by decide +kernel
theorem dT_leastParticipant_23 : decode cT_leastParticipant 23 = .ok (.iconst (-1), 1) := by decide +kernel
theorem dT_leastParticipant_24 : decode cT_leastParticipant 24 = .ok (.ireturn, 1) := by decide +kernel
theorem dT_unlockAt_0 : decode cT_unlockAt 0 = .ok (.iload_n 1, 1) := by decide +kernel
theorem dT_unlockAt_1 : decode cT_unlockAt 1 = .ok (.istore_n 2, 1) := by decide +kernel
theorem dT_unlockAt_2 : decode cT_unlockAt 2 = .ok (.iload_n 2, 1) := by decide +kernel
theorem dT_unlockAt_3 : decode cT_unlockAt 3 = .ok (.bipush 9, 2) := by decide +kernel
theorem dT_unlockAt_5 : decode cT_unlockAt 5 = .ok (.if_icmp .ge 16, 3) := by decide +kernel
theorem dT_unlockAt_8 : decode cT_unlockAt 8 = .ok (.aload_n 0, 1) := by decide +kernel
theorem dT_unlockAt_9 : decode cT_unlockAt 9 = .ok (.getfield 33, 3) := by decide +kernel
theorem dT_unlockAt_12 : decode cT_unlockAt 12 = .ok (.iload_n 2, 1) := by decide +kernel
theorem dT_unlockAt_13 : decode cT_unlockAt 13 = .ok (.iconst 0, 1) := by decide +kernel
theorem dT_unlockAt_14 : decode cT_unlockAt 14 = .ok (.iastore, 1) := by decide +kernel
theorem dT_unlockAt_15 : decode cT_unlockAt 15 = .ok (.iinc 2 3, 3) := by decide +kernel
theorem dT_unlockAt_18 : decode cT_unlockAt 18 = .ok (.goto (-16), 3) := by decide +kernel
theorem dT_unlockAt_21 : decode cT_unlockAt 21 = .ok (.return_, 1) := by decide +kernel
theorem dT_giveUp_0 : decode cT_giveUp 0 = .ok (.iconst 0, 1) := by decide +kernel
theorem dT_giveUp_1 : decode cT_giveUp 1 = .ok (.istore_n 1, 1) := by decide +kernel
theorem dT_giveUp_2 : decode cT_giveUp 2 = .ok (.iload_n 1, 1) := by decide +kernel
theorem dT_giveUp_3 : decode cT_giveUp 3 = .ok (.iconst 3, 1) := by decide +kernel
theorem dT_giveUp_4 : decode cT_giveUp 4 = .ok (.if_icmp .ge 14, 3) := by decide +kernel
theorem dT_giveUp_7 : decode cT_giveUp 7 = .ok (.aload_n 0, 1) := by decide +kernel
theorem dT_giveUp_8 : decode cT_giveUp 8 = .ok (.iload_n 1, 1) := by decide +kernel
theorem dT_giveUp_9 : decode cT_giveUp 9 = .ok (.invokevirtual 47, 3) := by decide +kernel
theorem dT_giveUp_12 : decode cT_giveUp 12 = .ok (.iinc 1 1, 3) := by decide +kernel
theorem dT_giveUp_15 : decode cT_giveUp 15 = .ok (.goto (-13), 3) := by decide +kernel
theorem dT_giveUp_18 : decode cT_giveUp 18 = .ok (.aload_n 0, 1) := by decide +kernel
theorem dT_giveUp_19 : decode cT_giveUp 19 = .ok (.iconst 5, 1) := by decide +kernel
theorem dT_giveUp_20 : decode cT_giveUp 20 = .ok (.putfield 9, 3) := by decide +kernel
theorem dT_giveUp_23 : decode cT_giveUp 23 = .ok (.return_, 1) := by decide +kernel
theorem dT_greatestMark_0 : decode cT_greatestMark 0 = .ok (.iconst 0, 1) := by decide +kernel
theorem dT_greatestMark_1 : decode cT_greatestMark 1 = .ok (.istore_n 1, 1) := by decide +kernel
theorem dT_greatestMark_2 : decode cT_greatestMark 2 = .ok (.iconst 0, 1) := by decide +kernel
theorem dT_greatestMark_3 : decode cT_greatestMark 3 = .ok (.istore_n 2, 1) := by decide +kernel
theorem dT_greatestMark_4 : decode cT_greatestMark 4 = .ok (.iload_n 2, 1) := by decide +kernel
theorem dT_greatestMark_5 : decode cT_greatestMark 5 = .ok (.iconst 3, 1) := by decide +kernel
theorem dT_greatestMark_6 : decode cT_greatestMark 6 = .ok (.if_icmp .ge 20, 3) := by decide +kernel
theorem dT_greatestMark_9 : decode cT_greatestMark 9 = .ok (.iload_n 1, 1) := by decide +kernel
theorem dT_greatestMark_10 : decode cT_greatestMark 10 = .ok (.aload_n 0, 1) := by decide +kernel
theorem dT_greatestMark_11 : decode cT_greatestMark 11 = .ok (.getfield 40, 3) := by decide +kernel
theorem dT_greatestMark_14 : decode cT_greatestMark 14 = .ok (.iload_n 2, 1) := by decide +kernel
theorem dT_greatestMark_15 : decode cT_greatestMark 15 = .ok (.iaload, 1) := by decide +kernel
theorem dT_greatestMark_16 : decode cT_greatestMark 16 = .ok (.invokestatic 51, 3) := by decide +kernel
theorem dT_greatestMark_19 : decode cT_greatestMark 19 = .ok (.istore_n 1, 1) := by decide +kernel
theorem dT_greatestMark_20 : decode cT_greatestMark 20 = .ok (.iinc 2 1, 3) := by decide +kernel
theorem dT_greatestMark_23 : decode cT_greatestMark 23 = .ok (.goto (-19), 3) := by decide +kernel
theorem dT_greatestMark_26 : decode cT_greatestMark 26 = .ok (.iload_n 1, 1) := by decide +kernel
theorem dT_greatestMark_27 : decode cT_greatestMark 27 = .ok (.ireturn, 1) := by decide +kernel
theorem dG_init_0 : decode cG_init 0 = .ok (.aload_n 0, 1) := by decide +kernel
theorem dG_init_1 : decode cG_init 1 = .ok (.invokespecial 3, 3) := by decide +kernel
theorem dG_init_4 : decode cG_init 4 = .ok (.aload_n 0, 1) := by decide +kernel
theorem dG_init_5 : decode cG_init 5 = .ok (.iconst 0, 1) := by decide +kernel
theorem dG_init_6 : decode cG_init 6 = .ok (.putfield 9, 3) := by decide +kernel
theorem dG_init_9 : decode cG_init 9 = .ok (.aload_n 0, 1) := by decide +kernel
theorem dG_init_10 : decode cG_init 10 = .ok (.iconst 0, 1) := by decide +kernel
theorem dG_init_11 : decode cG_init 11 = .ok (.putfield 15, 3) := by decide +kernel
theorem dG_init_14 : decode cG_init 14 = .ok (.aload_n 0, 1) := by decide +kernel
theorem dG_init_15 : decode cG_init 15 = .ok (.iconst 0, 1) := by decide +kernel
theorem dG_init_16 : decode cG_init 16 = .ok (.putfield 18, 3) := by decide +kernel
theorem dG_init_19 : decode cG_init 19 = .ok (.aload_n 0, 1) := by decide +kernel
theorem dG_init_20 : decode cG_init 20 = .ok (.iconst 0, 1) := by decide +kernel
theorem dG_init_21 : decode cG_init 21 = .ok (.putfield 21, 3) := by decide +kernel
theorem dG_init_24 : decode cG_init 24 = .ok (.aload_n 0, 1) := by decide +kernel
theorem dG_init_25 : decode cG_init 25 = .ok (.iload_n 1, 1) := by decide +kernel
theorem dG_init_26 : decode cG_init 26 = .ok (.putfield 24, 3) := by decide +kernel
theorem dG_init_29 : decode cG_init 29 = .ok (.aload_n 0, 1) := by decide +kernel
theorem dG_init_30 : decode cG_init 30 = .ok (.iload_n 2, 1) := by decide +kernel
theorem dG_init_31 : decode cG_init 31 = .ok (.putfield 27, 3) := by decide +kernel
theorem dG_init_34 : decode cG_init 34 = .ok (.return_, 1) := by decide +kernel
theorem dG_comesBefore_0 : decode cG_comesBefore 0 = .ok (.aload_n 0, 1) := by decide +kernel
theorem dG_comesBefore_1 : decode cG_comesBefore 1 = .ok (.getfield 18, 3) := by decide +kernel
theorem dG_comesBefore_4 : decode cG_comesBefore 4 = .ok (.aload_n 1, 1) := by decide +kernel
theorem dG_comesBefore_5 : decode cG_comesBefore 5 = .ok (.getfield 18, 3) := by decide +kernel
theorem dG_comesBefore_8 : decode cG_comesBefore 8 = .ok (.if_icmp .lt 25, 3) := by decide +kernel
theorem dG_comesBefore_11 : decode cG_comesBefore 11 = .ok (.aload_n 0, 1) := by decide +kernel
theorem dG_comesBefore_12 : decode cG_comesBefore 12 = .ok (.getfield 18, 3) := by decide +kernel
theorem dG_comesBefore_15 : decode cG_comesBefore 15 = .ok (.aload_n 1, 1) := by decide +kernel
theorem dG_comesBefore_16 : decode cG_comesBefore 16 = .ok (.getfield 18, 3) := by decide +kernel
theorem dG_comesBefore_19 : decode cG_comesBefore 19 = .ok (.if_icmp .ne 18, 3) := by decide +kernel
theorem dG_comesBefore_22 : decode cG_comesBefore 22 = .ok (.aload_n 0, 1) := by decide +kernel
theorem dG_comesBefore_23 : decode cG_comesBefore 23 = .ok (.getfield 21, 3) := by decide +kernel
theorem dG_comesBefore_26 : decode cG_comesBefore 26 = .ok (.aload_n 1, 1) := by decide +kernel
theorem dG_comesBefore_27 : decode cG_comesBefore 27 = .ok (.getfield 21, 3) := by decide +kernel
theorem dG_comesBefore_30 : decode cG_comesBefore 30 = .ok (.if_icmp .ge 7, 3) := by decide +kernel
theorem dG_comesBefore_33 : decode cG_comesBefore 33 = .ok (.iconst 1, 1) := by decide +kernel
theorem dG_comesBefore_34 : decode cG_comesBefore 34 = .ok (.goto 4, 3) := by decide +kernel
theorem dG_comesBefore_37 : decode cG_comesBefore 37 = .ok (.iconst 0, 1) := by decide +kernel
theorem dG_comesBefore_38 : decode cG_comesBefore 38 = .ok (.ireturn, 1) := by decide +kernel
