theorem dX0_init_0 : decode cX0_init 0 = .ok (.aload_n 0, 1) := by decide +kernel
theorem dX0_init_1 : decode cX0_init 1 = .ok (.invokespecial 3, 3) := by decide +kernel
theorem dX0_init_4 : decode cX0_init 4 = .ok (.aload_n 0, 1) := by decide +kernel
theorem dX0_init_5 : decode cX0_init 5 = .ok (.bipush 8, 2) := by decide +kernel
theorem dX0_init_7 : decode cX0_init 7 = .ok (.newarray .int, 2) := by decide +kernel
theorem dX0_init_9 : decode cX0_init 9 = .ok (.putfield 9, 3) := by decide +kernel
theorem dX0_init_12 : decode cX0_init 12 = .ok (.aload_n 0, 1) := by decide +kernel
theorem dX0_init_13 : decode cX0_init 13 = .ok (.iconst 0, 1) := by decide +kernel
theorem dX0_init_14 : decode cX0_init 14 = .ok (.putfield 15, 3) := by decide +kernel
theorem dX0_init_17 : decode cX0_init 17 = .ok (.aload_n 0, 1) := by decide +kernel
theorem dX0_init_18 : decode cX0_init 18 = .ok (.iconst (-1), 1) := by decide +kernel
theorem dX0_init_19 : decode cX0_init 19 = .ok (.putfield 19, 3) := by decide +kernel
theorem dX0_init_22 : decode cX0_init 22 = .ok (.aload_n 0, 1) := by decide +kernel
theorem dX0_init_23 : decode cX0_init 23 = .ok (.iconst 0, 1) := by decide +kernel
theorem dX0_init_24 : decode cX0_init 24 = .ok (.putfield 22, 3) := by decide +kernel
theorem dX0_init_27 : decode cX0_init 27 = .ok (.aload_n 0, 1) := by decide +kernel
theorem dX0_init_28 : decode cX0_init 28 = .ok (.iconst 0, 1) := by decide +kernel
theorem dX0_init_29 : decode cX0_init 29 = .ok (.putfield 26, 3) := by decide +kernel
theorem dX0_init_32 : decode cX0_init 32 = .ok (.aload_n 0, 1) := by decide +kernel
theorem dX0_init_33 : decode cX0_init 33 = .ok (.iconst 0, 1) := by decide +kernel
theorem dX0_init_34 : decode cX0_init 34 = .ok (.putfield 29, 3) := by decide +kernel
theorem dX0_init_37 : decode cX0_init 37 = .ok (.aload_n 0, 1) := by decide +kernel
theorem dX0_init_38 : decode cX0_init 38 = .ok (.iconst 0, 1) := by decide +kernel
theorem dX0_init_39 : decode cX0_init 39 = .ok (.putfield 32, 3) := by decide +kernel
theorem dX0_init_42 : decode cX0_init 42 = .ok (.aload_n 0, 1) := by decide +kernel
theorem dX0_init_43 : decode cX0_init 43 = .ok (.iconst 0, 1) := by decide +kernel
theorem dX0_init_44 : decode cX0_init 44 = .ok (.putfield 35, 3) := by decide +kernel
theorem dX0_init_47 : decode cX0_init 47 = .ok (.return_, 1) := by decide +kernel
theorem dX0_restart_0 : decode cX0_restart 0 = .ok (.aload_n 0, 1) := by decide +kernel
theorem dX0_restart_1 : decode cX0_restart 1 = .ok (.iconst 0, 1) := by decide +kernel
theorem dX0_restart_2 : decode cX0_restart 2 = .ok (.putfield 15, 3) := by decide +kernel
theorem dX0_restart_5 : decode cX0_restart 5 = .ok (.aload_n 0, 1) := by decide +kernel
theorem dX0_restart_6 : decode cX0_restart 6 = .ok (.iconst (-1), 1) := by decide +kernel
theorem dX0_restart_7 : decode cX0_restart 7 = .ok (.putfield 19, 3) := by decide +kernel
theorem dX0_restart_10 : decode cX0_restart 10 = .ok (.aload_n 0, 1) := by decide +kernel
theorem dX0_restart_11 : decode cX0_restart 11 = .ok (.iconst 0, 1) := by decide +kernel
theorem dX0_restart_12 : decode cX0_restart 12 = .ok (.putfield 22, 3) := by decide +kernel
theorem dX0_restart_15 : decode cX0_restart 15 = .ok (.aload_n 0, 1) := by decide +kernel
theorem dX0_restart_16 : decode cX0_restart 16 = .ok (.iconst 0, 1) := by decide +kernel
theorem dX0_restart_17 : decode cX0_restart 17 = .ok (.putfield 26, 3) := by decide +kernel
theorem dX0_restart_20 : decode cX0_restart 20 = .ok (.aload_n 0, 1) := by decide +kernel
theorem dX0_restart_21 : decode cX0_restart 21 = .ok (.iconst 0, 1) := by decide +kernel
theorem dX0_restart_22 : decode cX0_restart 22 = .ok (.putfield 29, 3) := by decide +kernel
theorem dX0_restart_25 : decode cX0_restart 25 = .ok (.aload_n 0, 1) := by decide +kernel
theorem dX0_restart_26 : decode cX0_restart 26 = .ok (.iconst 0, 1) := by decide +kernel
theorem dX0_restart_27 : decode cX0_restart 27 = .ok (.putfield 32, 3) := by decide +kernel
theorem dX0_restart_30 : decode cX0_restart 30 = .ok (.aload_n 0, 1) := by decide +kernel
theorem dX0_restart_31 : decode cX0_restart 31 = .ok (.iconst 0, 1) := by decide +kernel
theorem dX0_restart_32 : decode cX0_restart 32 = .ok (.putfield 35, 3) := by decide +kernel
theorem dX0_restart_35 : decode cX0_restart 35 = .ok (.return_, 1) := by decide +kernel
theorem dX0_hold_0 : decode cX0_hold 0 = .ok (.aload_n 0, 1) := by decide +kernel
theorem dX0_hold_1 : decode cX0_hold 1 = .ok (.getfield 15, 3) := by decide +kernel
theorem dX0_hold_4 : decode cX0_hold 4 = .ok (.bipush 8, 2) := by decide +kernel
theorem dX0_hold_6 : decode cX0_hold 6 = .ok (.if_icmp .lt 15, 3) := by decide +kernel
theorem dX0_hold_9 : decode cX0_hold 9 = .ok (.aload_n 0, 1) := by decide +kernel
theorem dX0_hold_10 : decode cX0_hold 10 = .ok (.dup, 1) := by decide +kernel
theorem dX0_hold_11 : decode cX0_hold 11 = .ok (.getfield 32, 3) := by decide +kernel
theorem dX0_hold_14 : decode cX0_hold 14 = .ok (.iconst 1, 1) := by decide +kernel
theorem dX0_hold_15 : decode cX0_hold 15 = .ok (.iadd, 1) := by decide +kernel
theorem dX0_hold_16 : decode cX0_hold 16 = .ok (.putfield 32, 3) := by decide +kernel
theorem dX0_hold_19 : decode cX0_hold 19 = .ok (.iconst 0, 1) := by decide +kernel
theorem dX0_hold_20 : decode cX0_hold 20 = .ok (.ireturn, 1) := by decide +kernel
theorem dX0_hold_21 : decode cX0_hold 21 = .ok (.aload_n 0, 1) := by decide +kernel
theorem dX0_hold_22 : decode cX0_hold 22 = .ok (.getfield 9, 3) := by decide +kernel
theorem dX0_hold_25 : decode cX0_hold 25 = .ok (.aload_n 0, 1) := by decide +kernel
theorem dX0_hold_26 : decode cX0_hold 26 = .ok (.getfield 15, 3) := by decide +kernel
theorem dX0_hold_29 : decode cX0_hold 29 = .ok (.iload_n 1, 1) := by decide +kernel
theorem dX0_hold_30 : decode cX0_hold 30 = .ok (.iastore, 1) := by decide +kernel
theorem dX0_hold_31 : decode cX0_hold 31 = .ok (.aload_n 0, 1) := by decide +kernel
theorem dX0_hold_32 : decode cX0_hold 32 = .ok (.dup, 1) := by decide +kernel
theorem dX0_hold_33 : decode cX0_hold 33 = .ok (.getfield 15, 3) := by decide +kernel
theorem dX0_hold_36 : decode cX0_hold 36 = .ok (.iconst 1, 1) := by decide +kernel
theorem dX0_hold_37 : decode cX0_hold 37 = .ok (.iadd, 1) := by decide +kernel
theorem dX0_hold_38 : decode cX0_hold 38 = .ok (.putfield 15, 3) := by decide +kernel
theorem dX0_hold_41 : decode cX0_hold 41 = .ok (.iconst 1, 1) := by decide +kernel
theorem dX0_hold_42 : decode cX0_hold 42 = .ok (.ireturn, 1) := by decide +kernel
theorem dX1_init_0 : decode cX1_init 0 = .ok (.aload_n 0, 1) := by decide +kernel
theorem dX1_init_1 : decode cX1_init 1 = .ok (.invokespecial 3, 3) := by decide +kernel
theorem dX1_init_4 : decode cX1_init 4 = .ok (.aload_n 0, 1) := by decide +kernel
theorem dX1_init_5 : decode cX1_init 5 = .ok (.bipush 17, 2) := by decide +kernel
theorem dX1_init_7 : decode cX1_init 7 = .ok (.newarray .int, 2) := by decide +kernel
theorem dX1_init_9 : decode cX1_init 9 = .ok (.putfield 9, 3) := by decide +kernel
theorem dX1_init_12 : decode cX1_init 12 = .ok (.aload_n 0, 1) := by decide +kernel
theorem dX1_init_13 : decode cX1_init 13 = .ok (.iconst 0, 1) := by decide +kernel
theorem dX1_init_14 : decode cX1_init 14 = .ok (.putfield 15, 3) := by decide +kernel
theorem dX1_init_17 : decode cX1_init 17 = .ok (.return_, 1) := by decide +kernel
theorem dX1_append_0 : decode cX1_append 0 = .ok (.aload_n 0, 1) := by decide +kernel
theorem dX1_append_1 : decode cX1_append 1 = .ok (.getfield 15, 3) := by decide +kernel
theorem dX1_append_4 : decode cX1_append 4 = .ok (.bipush 17, 2) := by decide +kernel
theorem dX1_append_6 : decode cX1_append 6 = .ok (.if_icmp .lt 5, 3) := by decide +kernel
theorem dX1_append_9 : decode cX1_append 9 = .ok (.iconst 0, 1) := by decide +kernel
theorem dX1_append_10 : decode cX1_append 10 = .ok (.ireturn, 1) := by decide +kernel
theorem dX1_append_11 : decode cX1_append 11 = .ok (.aload_n 0, 1) := by decide +kernel
theorem dX1_append_12 : decode cX1_append 12 = .ok (.getfield 9, 3) := by decide +kernel
theorem dX1_append_15 : decode cX1_append 15 = .ok (.aload_n 0, 1) := by decide +kernel
theorem dX1_append_16 : decode cX1_append 16 = .ok (.getfield 15, 3) := by decide +kernel
theorem dX1_append_19 : decode cX1_append 19 = .ok (.iload_n 1, 1) := by decide +kernel
theorem dX1_append_20 : decode cX1_append 20 = .ok (.iastore, 1) := by decide +kernel
theorem dX1_append_21 : decode cX1_append 21 = .ok (.aload_n 0, 1) := by decide +kernel
theorem dX1_append_22 : decode cX1_append 22 = .ok (.dup, 1) := by decide +kernel
theorem dX1_append_23 : decode cX1_append 23 = .ok (.getfield 15, 3) := by decide +kernel
theorem dX1_append_26 : decode cX1_append 26 = .ok (.iconst 1, 1) := by decide +kernel
theorem dX1_append_27 : decode cX1_append 27 = .ok (.iadd, 1) := by decide +kernel
theorem dX1_append_28 : decode cX1_append 28 = .ok (.putfield 15, 3) := by decide +kernel
theorem dX1_append_31 : decode cX1_append 31 = .ok (.iconst 1, 1) := by decide +kernel
theorem dX1_append_32 : decode cX1_append 32 = .ok (.ireturn, 1) := by decide +kernel
theorem dX1_codeAt_0 : decode cX1_codeAt 0 = .ok (.iload_n 1, 1) := by decide +kernel
theorem dX1_codeAt_1 : decode cX1_codeAt 1 = .ok (.ifCond .lt 20, 3) := by decide +kernel
theorem dX1_codeAt_4 : decode cX1_codeAt 4 = .ok (.iload_n 1, 1) := by decide +kernel
theorem dX1_codeAt_5 : decode cX1_codeAt 5 = .ok (.aload_n 0, 1) := by decide +kernel
theorem dX1_codeAt_6 : decode cX1_codeAt 6 = .ok (.getfield 15, 3) := by decide +kernel
theorem dX1_codeAt_9 : decode cX1_codeAt 9 = .ok (.if_icmp .ge 12, 3) := by decide +kernel
theorem dX1_codeAt_12 : decode cX1_codeAt 12 = .ok (.aload_n 0, 1) := by decide +kernel
theorem dX1_codeAt_13 : decode cX1_codeAt 13 = .ok (.getfield 9, 3) := by decide +kernel
theorem dX1_codeAt_16 : decode cX1_codeAt 16 = .ok (.iload_n 1, 1) := by decide +kernel
theorem dX1_codeAt_17 : decode cX1_codeAt 17 = .ok (.iaload, 1) := by decide +kernel
theorem dX1_codeAt_18 : decode cX1_codeAt 18 = .ok (.goto 4, 3) := by decide +kernel
theorem dX1_codeAt_21 : decode cX1_codeAt 21 = .ok (.iconst (-1), 1) := by decide +kernel
theorem dX1_codeAt_22 : decode cX1_codeAt 22 = .ok (.ireturn, 1) := by decide +kernel
theorem dX1_firstWrong_0 : decode cX1_firstWrong 0 = .ok (.iconst 0, 1) := by decide +kernel
theorem dX1_firstWrong_1 : decode cX1_firstWrong 1 = .ok (.istore_n 1, 1) := by decide +kernel
theorem dX1_firstWrong_2 : decode cX1_firstWrong 2 = .ok (.iload_n 1, 1) := by decide +kernel
theorem dX1_firstWrong_3 : decode cX1_firstWrong 3 = .ok (.aload_n 0, 1) := by decide +kernel
theorem dX1_firstWrong_4 : decode cX1_firstWrong 4 = .ok (.getfield 15, 3) := by decide +kernel
theorem dX1_firstWrong_7 : decode cX1_firstWrong 7 = .ok (.if_icmp .ge 19, 3) := by decide +kernel
theorem dX1_firstWrong_10 : decode cX1_firstWrong 10 = .ok (.aload_n 0, 1) := by decide +kernel
theorem dX1_firstWrong_11 : decode cX1_firstWrong 11 = .ok (.iload_n 1, 1) := by decide +kernel
theorem dX1_firstWrong_12 : decode cX1_firstWrong 12 = .ok (.invokevirtual 19, 3) := by decide +kernel
theorem dX1_firstWrong_15 : decode cX1_firstWrong 15 = .ok (.ifCond .ne 5, 3) := by decide +kernel
theorem dX1_firstWrong_18 : decode cX1_firstWrong 18 = .ok (.iload_n 1, 1) := by decide +kernel
theorem dX1_firstWrong_19 : decode cX1_firstWrong 19 = .ok (.ireturn, 1) := by decide +kernel
theorem dX1_firstWrong_20 : decode cX1_firstWrong 20 = .ok (.iinc 1 1, 3) := by decide +kernel
theorem dX1_firstWrong_23 : decode cX1_firstWrong 23 = .ok (.goto (-21), 3) := by decide +kernel
theorem dX1_firstWrong_26 : decode cX1_firstWrong 26 = .ok (.aload_n 0, 1) := by decide +kernel
theorem dX1_firstWrong_27 : decode cX1_firstWrong 27 = .ok (.getfield 15, 3) := by decide +kernel
theorem dX1_firstWrong_30 : decode cX1_firstWrong 30 = .ok (.ireturn, 1) := by decide +kernel
theorem dX1_fits_0 : decode cX1_fits 0 = .ok (.aload_n 0, 1) := by decide +kernel
theorem dX1_fits_1 : decode cX1_fits 1 = .ok (.iload_n 1, 1) := by decide +kernel
theorem dX1_fits_2 : decode cX1_fits 2 = .ok (.invokevirtual 23, 3) := by decide +kernel
theorem dX1_fits_5 : decode cX1_fits 5 = .ok (.istore_n 2, 1) := by decide +kernel
theorem dX1_fits_6 : decode cX1_fits 6 = .ok (.iload_n 1, 1) := by decide +kernel
theorem dX1_fits_7 : decode cX1_fits 7 = .ok (.iconst 3, 1) := by decide +kernel
theorem dX1_fits_8 : decode cX1_fits 8 = .ok (.irem, 1) := by decide +kernel
theorem dX1_fits_9 : decode cX1_fits 9 = .ok (.lookupswitch 63 #[(0, 27), (1, 45)], 27) := by decide +kernel
theorem dX1_fits_36 : decode cX1_fits 36 = .ok (.iload_n 2, 1) := by decide +kernel
theorem dX1_fits_37 : decode cX1_fits 37 = .ok (.bipush 48, 2) := by decide +kernel
theorem dX1_fits_39 : decode cX1_fits 39 = .ok (.if_icmp .lt 13, 3) := by decide +kernel
theorem dX1_fits_42 : decode cX1_fits 42 = .ok (.iload_n 2, 1) := by decide +kernel
theorem dX1_fits_43 : decode cX1_fits 43 = .ok (.bipush 52, 2) := by decide +kernel
theorem dX1_fits_45 : decode cX1_fits 45 = .ok (.if_icmp .ge 7, 3) := by decide +kernel
theorem dX1_fits_48 : decode cX1_fits 48 = .ok (.iconst 1, 1) := by decide +kernel
theorem dX1_fits_49 : decode cX1_fits 49 = .ok (.goto 4, 3) := by decide +kernel
theorem dX1_fits_52 : decode cX1_fits 52 = .ok (.iconst 0, 1) := by decide +kernel
theorem dX1_fits_53 : decode cX1_fits 53 = .ok (.ireturn, 1) := by decide +kernel
theorem dX1_fits_54 : decode cX1_fits 54 = .ok (.iload_n 2, 1) := by decide +kernel
theorem dX1_fits_55 : decode cX1_fits 55 = .ok (.bipush 48, 2) := by decide +kernel
theorem dX1_fits_57 : decode cX1_fits 57 = .ok (.if_icmp .lt 13, 3) := by decide +kernel
theorem dX1_fits_60 : decode cX1_fits 60 = .ok (.iload_n 2, 1) := by decide +kernel
theorem dX1_fits_61 : decode cX1_fits 61 = .ok (.bipush 57, 2) := by decide +kernel
theorem dX1_fits_63 : decode cX1_fits 63 = .ok (.if_icmp .gt 7, 3) := by decide +kernel
theorem dX1_fits_66 : decode cX1_fits 66 = .ok (.iconst 1, 1) := by decide +kernel
theorem dX1_fits_67 : decode cX1_fits 67 = .ok (.goto 4, 3) := by decide +kernel
theorem dX1_fits_70 : decode cX1_fits 70 = .ok (.iconst 0, 1) := by decide +kernel
theorem dX1_fits_71 : decode cX1_fits 71 = .ok (.ireturn, 1) := by decide +kernel
theorem dX1_fits_72 : decode cX1_fits 72 = .ok (.iload_n 2, 1) := by decide +kernel
theorem dX1_fits_73 : decode cX1_fits 73 = .ok (.bipush 44, 2) := by decide +kernel
theorem dX1_fits_75 : decode cX1_fits 75 = .ok (.if_icmp .ne 7, 3) := by decide +kernel
theorem dX1_fits_78 : decode cX1_fits 78 = .ok (.iconst 1, 1) := by decide +kernel
theorem dX1_fits_79 : decode cX1_fits 79 = .ok (.goto 4, 3) := by decide +kernel
theorem dX1_fits_82 : decode cX1_fits 82 = .ok (.iconst 0, 1) := by decide +kernel
theorem dX1_fits_83 : decode cX1_fits 83 = .ok (.ireturn, 1) := by decide +kernel
theorem dX1_isBoard_0 : decode cX1_isBoard 0 = .ok (.aload_n 0, 1) := by decide +kernel
theorem dX1_isBoard_1 : decode cX1_isBoard 1 = .ok (.getfield 15, 3) := by decide +kernel
theorem dX1_isBoard_4 : decode cX1_isBoard 4 = .ok (.iconst 3, 1) := by decide +kernel
theorem dX1_isBoard_5 : decode cX1_isBoard 5 = .ok (.irem, 1) := by decide +kernel
theorem dX1_isBoard_6 : decode cX1_isBoard 6 = .ok (.iconst 2, 1) := by decide +kernel
theorem dX1_isBoard_7 : decode cX1_isBoard 7 = .ok (.if_icmp .ne 18, 3) := by decide +kernel
theorem dX1_isBoard_10 : decode cX1_isBoard 10 = .ok (.aload_n 0, 1) := by decide +kernel
theorem dX1_isBoard_11 : decode cX1_isBoard 11 = .ok (.invokevirtual 27, 3) := by decide +kernel
theorem dX1_isBoard_14 : decode cX1_isBoard 14 = .ok (.aload_n 0, 1) := by decide +kernel
theorem dX1_isBoard_15 : decode cX1_isBoard 15 = .ok (.getfield 15, 3) := by decide +kernel
theorem dX1_isBoard_18 : decode cX1_isBoard 18 = .ok (.if_icmp .ne 7, 3) := by decide +kernel
theorem dX1_isBoard_21 : decode cX1_isBoard 21 = .ok (.iconst 1, 1) := by decide +kernel
theorem dX1_isBoard_22 : decode cX1_isBoard 22 = .ok (.goto 4, 3) := by decide +kernel
theorem dX1_isBoard_25 : decode cX1_isBoard 25 = .ok (.iconst 0, 1) := by decide +kernel
theorem dX1_isBoard_26 : decode cX1_isBoard 26 = .ok (.ireturn, 1) := by decide +kernel
theorem dX1_portsWritten_0 : decode cX1_portsWritten 0 = .ok (.aload_n 0, 1) := by decide +kernel
theorem dX1_portsWritten_1 : decode cX1_portsWritten 1 = .ok (.getfield 15, 3) := by decide +kernel
theorem dX1_portsWritten_4 : decode cX1_portsWritten 4 = .ok (.iconst 1, 1) := by decide +kernel
theorem dX1_portsWritten_5 : decode cX1_portsWritten 5 = .ok (.iadd, 1) := by decide +kernel
theorem dX1_portsWritten_6 : decode cX1_portsWritten 6 = .ok (.iconst 3, 1) := by decide +kernel
theorem dX1_portsWritten_7 : decode cX1_portsWritten 7 = .ok (.idiv, 1) := by decide +kernel
theorem dX1_portsWritten_8 : decode cX1_portsWritten 8 = .ok (.ireturn, 1) := by decide +kernel
theorem dX1_keyOfPort_0 : decode cX1_keyOfPort 0 = .ok (.aload_n 0, 1) := by decide +kernel
theorem dX1_keyOfPort_1 : decode cX1_keyOfPort 1 = .ok (.iconst 3, 1) := by decide +kernel
theorem dX1_keyOfPort_2 : decode cX1_keyOfPort 2 = .ok (.iload_n 1, 1) := by decide +kernel
theorem dX1_keyOfPort_3 : decode cX1_keyOfPort 3 = .ok (.imul, 1) := by decide +kernel
theorem dX1_keyOfPort_4 : decode cX1_keyOfPort 4 = .ok (.invokevirtual 23, 3) := by decide +kernel
theorem dX1_keyOfPort_7 : decode cX1_keyOfPort 7 = .ok (.bipush 48, 2) := by decide +kernel
theorem dX1_keyOfPort_9 : decode cX1_keyOfPort 9 = .ok (.isub, 1) := by decide +kernel
theorem dX1_keyOfPort_10 : decode cX1_keyOfPort 10 = .ok (.ireturn, 1) := by decide +kernel
theorem dX1_rankOfPort_0 : decode cX1_rankOfPort 0 = .ok (.aload_n 0, 1) := by decide +kernel
theorem dX1_rankOfPort_1 : decode cX1_rankOfPort 1 = .ok (.iconst 3, 1) := by decide +kernel
theorem dX1_rankOfPort_2 : decode cX1_rankOfPort 2 = .ok (.iload_n 1, 1) := by decide +kernel
theorem dX1_rankOfPort_3 : decode cX1_rankOfPort 3 = .ok (.imul, 1) := by decide +kernel
theorem dX1_rankOfPort_4 : decode cX1_rankOfPort 4 = .ok (.iconst 1, 1) := by decide +kernel
theorem dX1_rankOfPort_5 : decode cX1_rankOfPort 5 = .ok (.iadd, 1) := by decide +kernel
theorem dX1_rankOfPort_6 : decode cX1_rankOfPort 6 = .ok (.invokevirtual 23, 3) := by decide +kernel
theorem dX1_rankOfPort_9 : decode cX1_rankOfPort 9 = .ok (.bipush 48, 2) := by decide +kernel
theorem dX1_rankOfPort_11 : decode cX1_rankOfPort 11 = .ok (.isub, 1) := by decide +kernel
theorem dX1_rankOfPort_12 : decode cX1_rankOfPort 12 = .ok (.ireturn, 1) := by decide +kernel
theorem dX2_init_0 : decode cX2_init 0 = .ok (.aload_n 0, 1) := by decide +kernel
theorem dX2_init_1 : decode cX2_init 1 = .ok (.invokespecial 3, 3) := by decide +kernel
theorem dX2_init_4 : decode cX2_init 4 = .ok (.aload_n 0, 1) := by decide +kernel
theorem dX2_init_5 : decode cX2_init 5 = .ok (.new 9, 3) := by decide +kernel
theorem dX2_init_8 : decode cX2_init 8 = .ok (.dup, 1) := by decide +kernel
theorem dX2_init_9 : decode cX2_init 9 = .ok (.invokespecial 11, 3) := by decide +kernel
theorem dX2_init_12 : decode cX2_init 12 = .ok (.putfield 12, 3) := by decide +kernel
theorem dX2_init_15 : decode cX2_init 15 = .ok (.aload_n 0, 1) := by decide +kernel
theorem dX2_init_16 : decode cX2_init 16 = .ok (.iconst 0, 1) := by decide +kernel
theorem dX2_init_17 : decode cX2_init 17 = .ok (.putfield 18, 3) := by decide +kernel
theorem dX2_init_20 : decode cX2_init 20 = .ok (.aload_n 0, 1) := by decide +kernel
theorem dX2_init_21 : decode cX2_init 21 = .ok (.iconst 0, 1) := by decide +kernel
theorem dX2_init_22 : decode cX2_init 22 = .ok (.putfield 22, 3) := by decide +kernel
theorem dX2_init_25 : decode cX2_init 25 = .ok (.aload_n 0, 1) := by decide +kernel
theorem dX2_init_26 : decode cX2_init 26 = .ok (.iconst 0, 1) := by decide +kernel
theorem dX2_init_27 : decode cX2_init 27 = .ok (.putfield 25, 3) := by decide +kernel
theorem dX2_init_30 : decode cX2_init 30 = .ok (.aload_n 0, 1) := by decide +kernel
theorem dX2_init_31 : decode cX2_init 31 = .ok (.iconst 0, 1) := by decide +kernel
theorem dX2_init_32 : decode cX2_init 32 = .ok (.putfield 29, 3) := by decide +kernel
theorem dX2_init_35 : decode cX2_init 35 = .ok (.aload_n 0, 1) := by decide +kernel
theorem dX2_init_36 : decode cX2_init 36 = .ok (.iconst 0, 1) := by decide +kernel
theorem dX2_init_37 : decode cX2_init 37 = .ok (.putfield 32, 3) := by decide +kernel
theorem dX2_init_40 : decode cX2_init 40 = .ok (.aload_n 0, 1) := by decide +kernel
theorem dX2_init_41 : decode cX2_init 41 = .ok (.iconst 0, 1) := by decide +kernel
theorem dX2_init_42 : decode cX2_init 42 = .ok (.putfield 35, 3) := by decide +kernel
theorem dX2_init_45 : decode cX2_init 45 = .ok (.aload_n 0, 1) := by decide +kernel
theorem dX2_init_46 : decode cX2_init 46 = .ok (.iconst 0, 1) := by decide +kernel
theorem dX2_init_47 : decode cX2_init 47 = .ok (.putfield 38, 3) := by decide +kernel
theorem dX2_init_50 : decode cX2_init 50 = .ok (.aload_n 0, 1) := by decide +kernel
theorem dX2_init_51 : decode cX2_init 51 = .ok (.iconst 0, 1) := by decide +kernel
theorem dX2_init_52 : decode cX2_init 52 = .ok (.putfield 41, 3) := by decide +kernel
theorem dX2_init_55 : decode cX2_init 55 = .ok (.aload_n 0, 1) := by decide +kernel
theorem dX2_init_56 : decode cX2_init 56 = .ok (.iconst 0, 1) := by decide +kernel
theorem dX2_init_57 : decode cX2_init 57 = .ok (.putfield 44, 3) := by decide +kernel
theorem dX2_init_60 : decode cX2_init 60 = .ok (.aload_n 0, 1) := by decide +kernel
theorem dX2_init_61 : decode cX2_init 61 = .ok (.iconst 0, 1) := by decide +kernel
theorem dX2_init_62 : decode cX2_init 62 = .ok (.putfield 47, 3) := by decide +kernel
theorem dX2_init_65 : decode cX2_init 65 = .ok (.return_, 1) := by decide +kernel
theorem dX2_restart_0 : decode cX2_restart 0 = .ok (.aload_n 0, 1) := by decide +kernel
theorem dX2_restart_1 : decode cX2_restart 1 = .ok (.iload_n 1, 1) := by decide +kernel
theorem dX2_restart_2 : decode cX2_restart 2 = .ok (.putfield 18, 3) := by decide +kernel
theorem dX2_restart_5 : decode cX2_restart 5 = .ok (.aload_n 0, 1) := by decide +kernel
theorem dX2_restart_6 : decode cX2_restart 6 = .ok (.iload_n 2, 1) := by decide +kernel
theorem dX2_restart_7 : decode cX2_restart 7 = .ok (.putfield 22, 3) := by decide +kernel
theorem dX2_restart_10 : decode cX2_restart 10 = .ok (.aload_n 0, 1) := by decide +kernel
theorem dX2_restart_11 : decode cX2_restart 11 = .ok (.iconst 0, 1) := by decide +kernel
theorem dX2_restart_12 : decode cX2_restart 12 = .ok (.putfield 25, 3) := by decide +kernel
theorem dX2_restart_15 : decode cX2_restart 15 = .ok (.aload_n 0, 1) := by decide +kernel
theorem dX2_restart_16 : decode cX2_restart 16 = .ok (.iconst 0, 1) := by decide +kernel
theorem dX2_restart_17 : decode cX2_restart 17 = .ok (.putfield 29, 3) := by decide +kernel
theorem dX2_restart_20 : decode cX2_restart 20 = .ok (.aload_n 0, 1) := by decide +kernel
theorem dX2_restart_21 : decode cX2_restart 21 = .ok (.iconst 0, 1) := by decide +kernel
theorem dX2_restart_22 : decode cX2_restart 22 = .ok (.putfield 44, 3) := by decide +kernel
theorem dX2_restart_25 : decode cX2_restart 25 = .ok (.aload_n 0, 1) := by decide +kernel
theorem dX2_restart_26 : decode cX2_restart 26 = .ok (.iconst 0, 1) := by decide +kernel
theorem dX2_restart_27 : decode cX2_restart 27 = .ok (.putfield 47, 3) := by decide +kernel
theorem dX2_restart_30 : decode cX2_restart 30 = .ok (.aload_n 0, 1) := by decide +kernel
theorem dX2_restart_31 : decode cX2_restart 31 = .ok (.getfield 12, 3) := by decide +kernel
theorem dX2_restart_34 : decode cX2_restart 34 = .ok (.iconst 0, 1) := by decide +kernel
theorem dX2_restart_35 : decode cX2_restart 35 = .ok (.putfield 50, 3) := by decide +kernel
theorem dX2_restart_38 : decode cX2_restart 38 = .ok (.return_, 1) := by decide +kernel
theorem dX2_keepHeard_0 : decode cX2_keepHeard 0 = .ok (.aload_n 0, 1) := by decide +kernel
theorem dX2_keepHeard_1 : decode cX2_keepHeard 1 = .ok (.iconst 1, 1) := by decide +kernel
theorem dX2_keepHeard_2 : decode cX2_keepHeard 2 = .ok (.putfield 29, 3) := by decide +kernel
theorem dX2_keepHeard_5 : decode cX2_keepHeard 5 = .ok (.aload_n 0, 1) := by decide +kernel
theorem dX2_keepHeard_6 : decode cX2_keepHeard 6 = .ok (.iload_n 1, 1) := by decide +kernel
theorem dX2_keepHeard_7 : decode cX2_keepHeard 7 = .ok (.putfield 32, 3) := by decide +kernel
theorem dX2_keepHeard_10 : decode cX2_keepHeard 10 = .ok (.aload_n 0, 1) := by decide +kernel
theorem dX2_keepHeard_11 : decode cX2_keepHeard 11 = .ok (.iload_n 2, 1) := by decide +kernel
theorem dX2_keepHeard_12 : decode cX2_keepHeard 12 = .ok (.putfield 35, 3) := by decide +kernel
theorem dX2_keepHeard_15 : decode cX2_keepHeard 15 = .ok (.aload_n 0, 1) := by decide +kernel
theorem dX2_keepHeard_16 : decode cX2_keepHeard 16 = .ok (.iload_n 3, 1) := by decide +kernel
theorem dX2_keepHeard_17 : decode cX2_keepHeard 17 = .ok (.putfield 38, 3) := by decide +kernel
theorem dX2_keepHeard_20 : decode cX2_keepHeard 20 = .ok (.aload_n 0, 1) := by decide +kernel
theorem dX2_keepHeard_21 : decode cX2_keepHeard 21 = .ok (.iconst 0, 1) := by decide +kernel
theorem dX2_keepHeard_22 : decode cX2_keepHeard 22 = .ok (.putfield 41, 3) := by decide +kernel
theorem dX2_keepHeard_25 : decode cX2_keepHeard 25 = .ok (.return_, 1) := by decide +kernel
theorem dX2_growOlder_0 : decode cX2_growOlder 0 = .ok (.aload_n 0, 1) := by decide +kernel
theorem dX2_growOlder_1 : decode cX2_growOlder 1 = .ok (.getfield 29, 3) := by decide +kernel
theorem dX2_growOlder_4 : decode cX2_growOlder 4 = .ok (.ifCond .eq 30, 3) := by decide +kernel
theorem dX2_growOlder_7 : decode cX2_growOlder 7 = .ok (.aload_n 0, 1) := by decide +kernel
theorem dX2_growOlder_8 : decode cX2_growOlder 8 = .ok (.dup, 1) := by decide +kernel
theorem dX2_growOlder_9 : decode cX2_growOlder 9 = .ok (.getfield 41, 3) := by decide +kernel
theorem dX2_growOlder_12 : decode cX2_growOlder 12 = .ok (.iconst 1, 1) := by decide +kernel
theorem dX2_growOlder_13 : decode cX2_growOlder 13 = .ok (.iadd, 1) := by decide +kernel
theorem dX2_growOlder_14 : decode cX2_growOlder 14 = .ok (.putfield 41, 3) := by decide +kernel
theorem dX2_growOlder_17 : decode cX2_growOlder 17 = .ok (.aload_n 0, 1) := by decide +kernel
theorem dX2_growOlder_18 : decode cX2_growOlder 18 = .ok (.aload_n 0, 1) := by decide +kernel
theorem dX2_growOlder_19 : decode cX2_growOlder 19 = .ok (.getfield 41, 3) := by decide +kernel
theorem dX2_growOlder_22 : decode cX2_growOlder 22 = .ok (.iconst 4, 1) := by decide +kernel
theorem dX2_growOlder_23 : decode cX2_growOlder 23 = .ok (.if_icmp .ge 7, 3) := by decide +kernel
theorem dX2_growOlder_26 : decode cX2_growOlder 26 = .ok (.iconst 1, 1) := by decide +kernel
theorem dX2_growOlder_27 : decode cX2_growOlder 27 = .ok (.goto 4, 3) := by decide +kernel
theorem dX2_growOlder_30 : decode cX2_growOlder 30 = .ok (.iconst 0, 1) := by decide +kernel
theorem dX2_growOlder_31 : decode cX2_growOlder 31 = .ok (.putfield 29, 3) := by decide +kernel
theorem dX2_growOlder_34 : decode cX2_growOlder 34 = .ok (.return_, 1) := by decide +kernel
theorem dX2_isAlike_0 : decode cX2_isAlike 0 = .ok (.aload_n 0, 1) := by decide +kernel
theorem dX2_isAlike_1 : decode cX2_isAlike 1 = .ok (.getfield 29, 3) := by decide +kernel
theorem dX2_isAlike_4 : decode cX2_isAlike 4 = .ok (.ifCond .eq 47, 3) := by decide +kernel
theorem dX2_isAlike_7 : decode cX2_isAlike 7 = .ok (.aload_n 1, 1) := by decide +kernel
theorem dX2_isAlike_8 : decode cX2_isAlike 8 = .ok (.getfield 29, 3) := by decide +kernel
theorem dX2_isAlike_11 : decode cX2_isAlike 11 = .ok (.ifCond .eq 40, 3) := by decide +kernel
theorem dX2_isAlike_14 : decode cX2_isAlike 14 = .ok (.aload_n 0, 1) := by decide +kernel
theorem dX2_isAlike_15 : decode cX2_isAlike 15 = .ok (.getfield 18, 3) := by decide +kernel
theorem dX2_isAlike_18 : decode cX2_isAlike 18 = .ok (.aload_n 1, 1) := by decide +kernel
theorem dX2_isAlike_19 : decode cX2_isAlike 19 = .ok (.getfield 18, 3) := by decide +kernel
theorem dX2_isAlike_22 : decode cX2_isAlike 22 = .ok (.if_icmp .ne 29, 3) := by decide +kernel
theorem dX2_isAlike_25 : decode cX2_isAlike 25 = .ok (.aload_n 0, 1) := by decide +kernel
theorem dX2_isAlike_26 : decode cX2_isAlike 26 = .ok (.getfield 32, 3) := by decide +kernel
theorem dX2_isAlike_29 : decode cX2_isAlike 29 = .ok (.aload_n 1, 1) := by decide +kernel
theorem dX2_isAlike_30 : decode cX2_isAlike 30 = .ok (.getfield 32, 3) := by decide +kernel
theorem dX2_isAlike_33 : decode cX2_isAlike 33 = .ok (.if_icmp .ne 18, 3) := by decide +kernel
theorem dX2_isAlike_36 : decode cX2_isAlike 36 = .ok (.aload_n 0, 1) := by decide +kernel
theorem dX2_isAlike_37 : decode cX2_isAlike 37 = .ok (.getfield 35, 3) := by decide +kernel
theorem dX2_isAlike_40 : decode cX2_isAlike 40 = .ok (.aload_n 1, 1) := by decide +kernel
theorem dX2_isAlike_41 : decode cX2_isAlike 41 = .ok (.getfield 35, 3) := by decide +kernel
theorem dX2_isAlike_44 : decode cX2_isAlike 44 = .ok (.if_icmp .ne 7, 3) := by decide +kernel
theorem dX2_isAlike_47 : decode cX2_isAlike 47 = .ok (.iconst 1, 1) := by decide +kernel
theorem dX2_isAlike_48 : decode cX2_isAlike 48 = .ok (.goto 4, 3) := by decide +kernel
theorem dX2_isAlike_51 : decode cX2_isAlike 51 = .ok (.iconst 0, 1) := by decide +kernel
theorem dX2_isAlike_52 : decode cX2_isAlike 52 = .ok (.ireturn, 1) := by decide +kernel
theorem dX3_init_0 : decode cX3_init 0 = .ok (.aload_n 0, 1) := by decide +kernel
theorem dX3_init_1 : decode cX3_init 1 = .ok (.invokespecial 3, 3) := by decide +kernel
theorem dX3_init_4 : decode cX3_init 4 = .ok (.aload_n 0, 1) := by decide +kernel
theorem dX3_init_5 : decode cX3_init 5 = .ok (.bipush 20, 2) := by decide +kernel
theorem dX3_init_7 : decode cX3_init 7 = .ok (.newarray .int, 2) := by decide +kernel
theorem dX3_init_9 : decode cX3_init 9 = .ok (.putfield 11, 3) := by decide +kernel
theorem dX3_init_12 : decode cX3_init 12 = .ok (.aload_n 0, 1) := by decide +kernel
theorem dX3_init_13 : decode cX3_init 13 = .ok (.bipush 20, 2) := by decide +kernel
theorem dX3_init_15 : decode cX3_init 15 = .ok (.newarray .int, 2) := by decide +kernel
theorem dX3_init_17 : decode cX3_init 17 = .ok (.putfield 15, 3) := by decide +kernel
theorem dX3_init_20 : decode cX3_init 20 = .ok (.aload_n 0, 1) := by decide +kernel
theorem dX3_init_21 : decode cX3_init 21 = .ok (.iconst 0, 1) := by decide +kernel
theorem dX3_init_22 : decode cX3_init 22 = .ok (.putfield 18, 3) := by decide +kernel
theorem dX3_init_25 : decode cX3_init 25 = .ok (.return_, 1) := by decide +kernel
theorem dX3_has_0 : decode cX3_has 0 = .ok (.iload_n 1, 1) := by decide +kernel
theorem dX3_has_1 : decode cX3_has 1 = .ok (.ifCond .lt 15, 3) := by decide +kernel
theorem dX3_has_4 : decode cX3_has 4 = .ok (.iload_n 1, 1) := by decide +kernel
theorem dX3_has_5 : decode cX3_has 5 = .ok (.aload_n 0, 1) := by decide +kernel
theorem dX3_has_6 : decode cX3_has 6 = .ok (.getfield 18, 3) := by decide +kernel
theorem dX3_has_9 : decode cX3_has 9 = .ok (.if_icmp .ge 7, 3) := by decide +kernel
theorem dX3_has_12 : decode cX3_has 12 = .ok (.iconst 1, 1) := by decide +kernel
theorem dX3_has_13 : decode cX3_has 13 = .ok (.goto 4, 3) := by decide +kernel
theorem dX3_has_16 : decode cX3_has 16 = .ok (.iconst 0, 1) := by decide +kernel
theorem dX3_has_17 : decode cX3_has 17 = .ok (.ireturn, 1) := by decide +kernel
theorem dX3_append_0 : decode cX3_append 0 = .ok (.aload_n 0, 1) := by decide +kernel
theorem dX3_append_1 : decode cX3_append 1 = .ok (.getfield 18, 3) := by decide +kernel
theorem dX3_append_4 : decode cX3_append 4 = .ok (.bipush 20, 2) := by decide +kernel
theorem dX3_append_6 : decode cX3_append 6 = .ok (.if_icmp .ge 40, 3) := by decide +kernel
theorem dX3_append_9 : decode cX3_append 9 = .ok (.iload_n 1, 1) := by decide +kernel
theorem dX3_append_10 : decode cX3_append 10 = .ok (.invokestatic 22, 3) := by decide +kernel
theorem dX3_append_13 : decode cX3_append 13 = .ok (.ifCond .eq 33, 3) := by decide +kernel
theorem dX3_append_16 : decode cX3_append 16 = .ok (.aload_n 0, 1) := by decide +kernel
theorem dX3_append_17 : decode cX3_append 17 = .ok (.getfield 11, 3) := by decide +kernel
theorem dX3_append_20 : decode cX3_append 20 = .ok (.aload_n 0, 1) := by decide +kernel
theorem dX3_append_21 : decode cX3_append 21 = .ok (.getfield 18, 3) := by decide +kernel
theorem dX3_append_24 : decode cX3_append 24 = .ok (.iload_n 1, 1) := by decide +kernel
theorem dX3_append_25 : decode cX3_append 25 = .ok (.iastore, 1) := by decide +kernel
theorem dX3_append_26 : decode cX3_append 26 = .ok (.aload_n 0, 1) := by decide +kernel
theorem dX3_append_27 : decode cX3_append 27 = .ok (.getfield 15, 3) := by decide +kernel
theorem dX3_append_30 : decode cX3_append 30 = .ok (.aload_n 0, 1) := by decide +kernel
theorem dX3_append_31 : decode cX3_append 31 = .ok (.getfield 18, 3) := by decide +kernel
theorem dX3_append_34 : decode cX3_append 34 = .ok (.iload_n 2, 1) := by decide +kernel
theorem dX3_append_35 : decode cX3_append 35 = .ok (.iastore, 1) := by decide +kernel
theorem dX3_append_36 : decode cX3_append 36 = .ok (.aload_n 0, 1) := by decide +kernel
theorem dX3_append_37 : decode cX3_append 37 = .ok (.dup, 1) := by decide +kernel
theorem dX3_append_38 : decode cX3_append 38 = .ok (.getfield 18, 3) := by decide +kernel
theorem dX3_append_41 : decode cX3_append 41 = .ok (.iconst 1, 1) := by decide +kernel
theorem dX3_append_42 : decode cX3_append 42 = .ok (.iadd, 1) := by decide +kernel
theorem dX3_append_43 : decode cX3_append 43 = .ok (.putfield 18, 3) := by decide +kernel
theorem dX3_append_46 : decode cX3_append 46 = .ok (.return_, 1) := by decide +kernel
theorem dX3_appendMarker_0 : decode cX3_appendMarker 0 = .ok (.aload_n 0, 1) := by decide +kernel
theorem dX3_appendMarker_1 : decode cX3_appendMarker 1 = .ok (.iload_n 1, 1) := by decide +kernel
theorem dX3_appendMarker_2 : decode cX3_appendMarker 2 = .ok (.iconst 0, 1) := by decide +kernel
theorem dX3_appendMarker_3 : decode cX3_appendMarker 3 = .ok (.invokevirtual 26, 3) := by decide +kernel
theorem dX3_appendMarker_6 : decode cX3_appendMarker 6 = .ok (.return_, 1) := by decide +kernel
theorem dX3_removeFirst_0 : decode cX3_removeFirst 0 = .ok (.iconst 1, 1) := by decide +kernel
theorem dX3_removeFirst_1 : decode cX3_removeFirst 1 = .ok (.istore_n 1, 1) := by decide +kernel
theorem dX3_removeFirst_2 : decode cX3_removeFirst 2 = .ok (.iload_n 1, 1) := by decide +kernel
theorem dX3_removeFirst_3 : decode cX3_removeFirst 3 = .ok (.aload_n 0, 1) := by decide +kernel
theorem dX3_removeFirst_4 : decode cX3_removeFirst 4 = .ok (.getfield 18, 3) := by decide +kernel
theorem dX3_removeFirst_7 : decode cX3_removeFirst 7 = .ok (.if_icmp .ge 37, 3) := by decide +kernel
theorem dX3_removeFirst_10 : decode cX3_removeFirst 10 = .ok (.aload_n 0, 1) := by decide +kernel
theorem dX3_removeFirst_11 : decode cX3_removeFirst 11 = .ok (.getfield 11, 3) := by decide +kernel
theorem dX3_removeFirst_14 : decode cX3_removeFirst 14 = .ok (.iload_n 1, 1) := by decide +kernel
theorem dX3_removeFirst_15 : decode cX3_removeFirst 15 = .ok (.iconst 1, 1) := by decide +kernel
theorem dX3_removeFirst_16 : decode cX3_removeFirst 16 = .ok (.isub, 1) := by decide +kernel
theorem dX3_removeFirst_17 : decode cX3_removeFirst 17 = .ok (.aload_n 0, 1) := by decide +kernel
theorem dX3_removeFirst_18 : decode cX3_removeFirst 18 = .ok (.getfield 11, 3) := by decide +kernel
theorem dX3_removeFirst_21 : decode cX3_removeFirst 21 = .ok (.iload_n 1, 1) := by decide +kernel
theorem dX3_removeFirst_22 : decode cX3_removeFirst 22 = .ok (.iaload, 1) := by decide +kernel
theorem dX3_removeFirst_23 : decode cX3_removeFirst 23 = .ok (.iastore, 1) := by decide +kernel
theorem dX3_removeFirst_24 : decode cX3_removeFirst 24 = .ok (.aload_n 0, 1) := by decide +kernel
theorem dX3_removeFirst_25 : decode cX3_removeFirst 25 = .ok (.getfield 15, 3) := by decide +kernel
theorem dX3_removeFirst_28 : decode cX3_removeFirst 28 = .ok (.iload_n 1, 1) := by decide +kernel
theorem dX3_removeFirst_29 : decode cX3_removeFirst 29 = .ok (.iconst 1, 1) := by decide +kernel
theorem dX3_removeFirst_30 : decode cX3_removeFirst 30 = .ok (.isub, 1) := by decide +kernel
theorem dX3_removeFirst_31 : decode cX3_removeFirst 31 = .ok (.aload_n 0, 1) := by decide +kernel
theorem dX3_removeFirst_32 : decode cX3_removeFirst 32 = .ok (.getfield 15, 3) := by decide +kernel
theorem dX3_removeFirst_35 : decode cX3_removeFirst 35 = .ok (.iload_n 1, 1) := by decide +kernel
theorem dX3_removeFirst_36 : decode cX3_removeFirst 36 = .ok (.iaload, 1) := by decide +kernel
theorem dX3_removeFirst_37 : decode cX3_removeFirst 37 = .ok (.iastore, 1) := by decide +kernel
theorem dX3_removeFirst_38 : decode cX3_removeFirst 38 = .ok (.iinc 1 1, 3) := by decide +kernel
theorem dX3_removeFirst_41 : decode cX3_removeFirst 41 = .ok (.goto (-39), 3) := by decide +kernel
theorem dX3_removeFirst_44 : decode cX3_removeFirst 44 = .ok (.aload_n 0, 1) := by decide +kernel
theorem dX3_removeFirst_45 : decode cX3_removeFirst 45 = .ok (.getfield 18, 3) := by decide +kernel
theorem dX3_removeFirst_48 : decode cX3_removeFirst 48 = .ok (.ifCond .le 13, 3) := by decide +kernel
theorem dX3_removeFirst_51 : decode cX3_removeFirst 51 = .ok (.aload_n 0, 1) := by decide +kernel
theorem dX3_removeFirst_52 : decode cX3_removeFirst 52 = .ok (.dup, 1) := by decide +kernel
theorem dX3_removeFirst_53 : decode cX3_removeFirst 53 = .ok (.getfield 18, 3) := by decide +kernel
theorem dX3_removeFirst_56 : decode cX3_removeFirst 56 = .ok (.iconst 1, 1) := by decide +kernel
theorem dX3_removeFirst_57 : decode cX3_removeFirst 57 = .ok (.isub, 1) := by decide +kernel
theorem dX3_removeFirst_58 : decode cX3_removeFirst 58 = .ok (.putfield 18, 3) := by decide +kernel
theorem dX3_removeFirst_61 : decode cX3_removeFirst 61 = .ok (.return_, 1) := by decide +kernel
theorem dX3_flowAt_0 : decode cX3_flowAt 0 = .ok (.aload_n 0, 1) := by decide +kernel
theorem dX3_flowAt_1 : decode cX3_flowAt 1 = .ok (.iload_n 1, 1) := by decide +kernel
theorem dX3_flowAt_2 : decode cX3_flowAt 2 = .ok (.invokevirtual 30, 3) := by decide +kernel
theorem dX3_flowAt_5 : decode cX3_flowAt 5 = .ok (.ifCond .eq 12, 3) := by decide +kernel
theorem dX3_flowAt_8 : decode cX3_flowAt 8 = .ok (.aload_n 0, 1) := by decide +kernel
theorem dX3_flowAt_9 : decode cX3_flowAt 9 = .ok (.getfield 11, 3) := by decide +kernel
theorem dX3_flowAt_12 : decode cX3_flowAt 12 = .ok (.iload_n 1, 1) := by decide +kernel
theorem dX3_flowAt_13 : decode cX3_flowAt 13 = .ok (.iaload, 1) := by decide +kernel
theorem dX3_flowAt_14 : decode cX3_flowAt 14 = .ok (.goto 4, 3) := by decide +kernel
theorem dX3_flowAt_17 : decode cX3_flowAt 17 = .ok (.iconst 0, 1) := by decide +kernel
theorem dX3_flowAt_18 : decode cX3_flowAt 18 = .ok (.ireturn, 1) := by decide +kernel
theorem dX3_numberAt_0 : decode cX3_numberAt 0 = .ok (.aload_n 0, 1) := by decide +kernel
theorem dX3_numberAt_1 : decode cX3_numberAt 1 = .ok (.iload_n 1, 1) := by decide +kernel
theorem dX3_numberAt_2 : decode cX3_numberAt 2 = .ok (.invokevirtual 30, 3) := by decide +kernel
theorem dX3_numberAt_5 : decode cX3_numberAt 5 = .ok (.ifCond .eq 12, 3) := by decide +kernel
theorem dX3_numberAt_8 : decode cX3_numberAt 8 = .ok (.aload_n 0, 1) := by decide +kernel
theorem dX3_numberAt_9 : decode cX3_numberAt 9 = .ok (.getfield 15, 3) := by decide +kernel
theorem dX3_numberAt_12 : decode cX3_numberAt 12 = .ok (.iload_n 1, 1) := by decide +kernel
theorem dX3_numberAt_13 : decode cX3_numberAt 13 = .ok (.iaload, 1) := by decide +kernel
theorem dX3_numberAt_14 : decode cX3_numberAt 14 = .ok (.goto 4, 3) := by decide +kernel
theorem dX3_numberAt_17 : decode cX3_numberAt 17 = .ok (.iconst 0, 1) := by decide +kernel
theorem dX3_numberAt_18 : decode cX3_numberAt 18 = .ok (.ireturn, 1) := by decide +kernel
theorem dX3_isMarker_0 : decode cX3_isMarker 0 = .ok (.aload_n 0, 1) := by decide +kernel
theorem dX3_isMarker_1 : decode cX3_isMarker 1 = .ok (.iload_n 1, 1) := by decide +kernel
theorem dX3_isMarker_2 : decode cX3_isMarker 2 = .ok (.invokevirtual 30, 3) := by decide +kernel
theorem dX3_isMarker_5 : decode cX3_isMarker 5 = .ok (.ifCond .eq 16, 3) := by decide +kernel
theorem dX3_isMarker_8 : decode cX3_isMarker 8 = .ok (.aload_n 0, 1) := by decide +kernel
theorem dX3_isMarker_9 : decode cX3_isMarker 9 = .ok (.getfield 15, 3) := by decide +kernel
theorem dX3_isMarker_12 : decode cX3_isMarker 12 = .ok (.iload_n 1, 1) := by decide +kernel
theorem dX3_isMarker_13 : decode cX3_isMarker 13 = .ok (.iaload, 1) := by decide +kernel
theorem dX3_isMarker_14 : decode cX3_isMarker 14 = .ok (.ifCond .ne 7, 3) := by decide +kernel
theorem dX3_isMarker_17 : decode cX3_isMarker 17 = .ok (.iconst 1, 1) := by decide +kernel
theorem dX3_isMarker_18 : decode cX3_isMarker 18 = .ok (.goto 4, 3) := by decide +kernel
theorem dX3_isMarker_21 : decode cX3_isMarker 21 = .ok (.iconst 0, 1) := by decide +kernel
theorem dX3_isMarker_22 : decode cX3_isMarker 22 = .ok (.ireturn, 1) := by decide +kernel
theorem dX3_hasLetterOf_0 : decode cX3_hasLetterOf 0 = .ok (.iconst 0, 1) := by decide +kernel
theorem dX3_hasLetterOf_1 : decode cX3_hasLetterOf 1 = .ok (.istore_n 2, 1) := by decide +kernel
theorem dX3_hasLetterOf_2 : decode cX3_hasLetterOf 2 = .ok (.iload_n 2, 1) := by decide +kernel
theorem dX3_hasLetterOf_3 : decode cX3_hasLetterOf 3 = .ok (.aload_n 0, 1) := by decide +kernel
theorem dX3_hasLetterOf_4 : decode cX3_hasLetterOf 4 = .ok (.getfield 18, 3) := by decide +kernel
theorem dX3_hasLetterOf_7 : decode cX3_hasLetterOf 7 = .ok (.if_icmp .ge 30, 3) := by decide +kernel
theorem dX3_hasLetterOf_10 : decode cX3_hasLetterOf 10 = .ok (.aload_n 0, 1) := by decide +kernel
theorem dX3_hasLetterOf_11 : decode cX3_hasLetterOf 11 = .ok (.getfield 11, 3) := by decide +kernel
theorem dX3_hasLetterOf_14 : decode cX3_hasLetterOf 14 = .ok (.iload_n 2, 1) := by decide +kernel
theorem dX3_hasLetterOf_15 : decode cX3_hasLetterOf 15 = .ok (.iaload, 1) := by decide +kernel
theorem dX3_hasLetterOf_16 : decode cX3_hasLetterOf 16 = .ok (.iload_n 1, 1) := by decide +kernel
theorem dX3_hasLetterOf_17 : decode cX3_hasLetterOf 17 = .ok (.if_icmp .ne 14, 3) := by decide +kernel
theorem dX3_hasLetterOf_20 : decode cX3_hasLetterOf 20 = .ok (.aload_n 0, 1) := by decide +kernel
theorem dX3_hasLetterOf_21 : decode cX3_hasLetterOf 21 = .ok (.getfield 15, 3) := by decide +kernel
theorem dX3_hasLetterOf_24 : decode cX3_hasLetterOf 24 = .ok (.iload_n 2, 1) := by decide +kernel
theorem dX3_hasLetterOf_25 : decode cX3_hasLetterOf 25 = .ok (.iaload, 1) := by decide +kernel
theorem dX3_hasLetterOf_26 : decode cX3_hasLetterOf 26 = .ok (.ifCond .eq 5, 3) := by decide +kernel
theorem dX3_hasLetterOf_29 : decode cX3_hasLetterOf 29 = .ok (.iconst 1, 1) := by decide +kernel
theorem dX3_hasLetterOf_30 : decode cX3_hasLetterOf 30 = .ok (.ireturn, 1) := by decide +kernel
theorem dX3_hasLetterOf_31 : decode cX3_hasLetterOf 31 = .ok (.iinc 2 1, 3) := by decide +kernel
theorem dX3_hasLetterOf_34 : decode cX3_hasLetterOf 34 = .ok (.goto (-32), 3) := by decide +kernel
theorem dX3_hasLetterOf_37 : decode cX3_hasLetterOf 37 = .ok (.iconst 0, 1) := by decide +kernel
theorem dX3_hasLetterOf_38 : decode cX3_hasLetterOf 38 = .ok (.ireturn, 1) := by decide +kernel
theorem dX4_init_0 : decode cX4_init 0 = .ok (.aload_n 0, 1) := by decide +kernel
theorem dX4_init_1 : decode cX4_init 1 = .ok (.invokespecial 1, 3) := by decide +kernel
theorem dX4_init_4 : decode cX4_init 4 = .ok (.aload_n 0, 1) := by decide +kernel
theorem dX4_init_5 : decode cX4_init 5 = .ok (.new 7, 3) := by decide +kernel
theorem dX4_init_8 : decode cX4_init 8 = .ok (.dup, 1) := by decide +kernel
theorem dX4_init_9 : decode cX4_init 9 = .ok (.invokespecial 9, 3) := by decide +kernel
theorem dX4_init_12 : decode cX4_init 12 = .ok (.putfield 10, 3) := by decide +kernel
theorem dX4_init_15 : decode cX4_init 15 = .ok (.aload_n 0, 1) := by decide +kernel
theorem dX4_init_16 : decode cX4_init 16 = .ok (.bipush 6, 2) := by decide +kernel
theorem dX4_init_18 : decode cX4_init 18 = .ok (.anewarray 16, 3) := by decide +kernel
theorem dX4_init_21 : decode cX4_init 21 = .ok (.putfield 18, 3) := by decide +kernel
theorem dX4_init_24 : decode cX4_init 24 = .ok (.aload_n 0, 1) := by decide +kernel
theorem dX4_init_25 : decode cX4_init 25 = .ok (.bipush 12, 2) := by decide +kernel
theorem dX4_init_27 : decode cX4_init 27 = .ok (.anewarray 22, 3) := by decide +kernel
theorem dX4_init_30 : decode cX4_init 30 = .ok (.putfield 24, 3) := by decide +kernel
theorem dX4_init_33 : decode cX4_init 33 = .ok (.aload_n 0, 1) := by decide +kernel
theorem dX4_init_34 : decode cX4_init 34 = .ok (.iconst 0, 1) := by decide +kernel
theorem dX4_init_35 : decode cX4_init 35 = .ok (.putfield 28, 3) := by decide +kernel
theorem dX4_init_38 : decode cX4_init 38 = .ok (.aload_n 0, 1) := by decide +kernel
theorem dX4_init_39 : decode cX4_init 39 = .ok (.iconst 2, 1) := by decide +kernel
theorem dX4_init_40 : decode cX4_init 40 = .ok (.putfield 32, 3) := by decide +kernel
theorem dX4_init_43 : decode cX4_init 43 = .ok (.aload_n 0, 1) := by decide +kernel
theorem dX4_init_44 : decode cX4_init 44 = .ok (.iconst 2, 1) := by decide +kernel
theorem dX4_init_45 : decode cX4_init 45 = .ok (.putfield 35, 3) := by decide +kernel
theorem dX4_init_48 : decode cX4_init 48 = .ok (.aload_n 0, 1) := by decide +kernel
theorem dX4_init_49 : decode cX4_init 49 = .ok (.iconst 0, 1) := by decide +kernel
theorem dX4_init_50 : decode cX4_init 50 = .ok (.putfield 38, 3) := by decide +kernel
theorem dX4_init_53 : decode cX4_init 53 = .ok (.aload_n 0, 1) := by decide +kernel
theorem dX4_init_54 : decode cX4_init 54 = .ok (.iconst 0, 1) := by decide +kernel
theorem dX4_init_55 : decode cX4_init 55 = .ok (.putfield 41, 3) := by decide +kernel
theorem dX4_init_58 : decode cX4_init 58 = .ok (.aload_n 0, 1) := by decide +kernel
theorem dX4_init_59 : decode cX4_init 59 = .ok (.iconst 0, 1) := by decide +kernel
theorem dX4_init_60 : decode cX4_init 60 = .ok (.putfield 44, 3) := by decide +kernel
theorem dX4_init_63 : decode cX4_init 63 = .ok (.aload_n 0, 1) := by decide +kernel
theorem dX4_init_64 : decode cX4_init 64 = .ok (.iconst 0, 1) := by decide +kernel
theorem dX4_init_65 : decode cX4_init 65 = .ok (.putfield 47, 3) := by decide +kernel
theorem dX4_init_68 : decode cX4_init 68 = .ok (.iconst 0, 1) := by decide +kernel
theorem dX4_init_69 : decode cX4_init 69 = .ok (.istore_n 1, 1) := by decide +kernel
theorem dX4_init_70 : decode cX4_init 70 = .ok (.iload_n 1, 1) := by decide +kernel
theorem dX4_init_71 : decode cX4_init 71 = .ok (.bipush 6, 2) := by decide +kernel
theorem dX4_init_73 : decode cX4_init 73 = .ok (.if_icmp .ge 22, 3) := by decide +kernel
theorem dX4_init_76 : decode cX4_init 76 = .ok (.aload_n 0, 1) := by decide +kernel
theorem dX4_init_77 : decode cX4_init 77 = .ok (.getfield 18, 3) := by decide +kernel
theorem dX4_init_80 : decode cX4_init 80 = .ok (.iload_n 1, 1) := by decide +kernel
theorem dX4_init_81 : decode cX4_init 81 = .ok (.new 16, 3) := by decide +kernel
theorem dX4_init_84 : decode cX4_init 84 = .ok (.dup, 1) := by decide +kernel
theorem dX4_init_85 : decode cX4_init 85 = .ok (.invokespecial 50, 3) := by decide +kernel
theorem dX4_init_88 : decode cX4_init 88 = .ok (.aastore, 1) := by decide +kernel
theorem dX4_init_89 : decode cX4_init 89 = .ok (.iinc 1 1, 3) := by decide +kernel
theorem dX4_init_92 : decode cX4_init 92 = .ok (.goto (-22), 3) := by decide +kernel
theorem dX4_init_95 : decode cX4_init 95 = .ok (.iconst 0, 1) := by decide +kernel
theorem dX4_init_96 : decode cX4_init 96 = .ok (.istore_n 1, 1) := by decide +kernel
theorem dX4_init_97 : decode cX4_init 97 = .ok (.iload_n 1, 1) := by decide +kernel
theorem dX4_init_98 : decode cX4_init 98 = .ok (.bipush 12, 2) := by decide +kernel
theorem dX4_init_100 : decode cX4_init 100 = .ok (.if_icmp .ge 22, 3) := by decide +kernel
theorem dX4_init_103 : decode cX4_init 103 = .ok (.aload_n 0, 1) := by decide +kernel
theorem dX4_init_104 : decode cX4_init 104 = .ok (.getfield 24, 3) := by decide +kernel
theorem dX4_init_107 : decode cX4_init 107 = .ok (.iload_n 1, 1) := by decide +kernel
theorem dX4_init_108 : decode cX4_init 108 = .ok (.new 22, 3) := by decide +kernel
theorem dX4_init_111 : decode cX4_init 111 = .ok (.dup, 1) := by decide +kernel
theorem dX4_init_112 : decode cX4_init 112 = .ok (.invokespecial 51, 3) := by decide +kernel
theorem dX4_init_115 : decode cX4_init 115 = .ok (.aastore, 1) := by decide +kernel
theorem dX4_init_116 : decode cX4_init 116 = .ok (.iinc 1 1, 3) := by decide +kernel
theorem dX4_init_119 : decode cX4_init 119 = .ok (.goto (-22), 3) := by decide +kernel
theorem dX4_init_122 : decode cX4_init 122 = .ok (.return_, 1) := by decide +kernel
theorem dX4_letter_0 : decode cX4_letter 0 = .ok (.iload_n 1, 1) := by decide +kernel
theorem dX4_letter_1 : decode cX4_letter 1 = .ok (.bipush 32, 2) := by decide +kernel
theorem dX4_letter_3 : decode cX4_letter 3 = .ok (.if_icmp .lt 9, 3) := by decide +kernel
theorem dX4_letter_6 : decode cX4_letter 6 = .ok (.iload_n 1, 1) := by decide +kernel
theorem dX4_letter_7 : decode cX4_letter 7 = .ok (.bipush 126, 2) := by decide +kernel
theorem dX4_letter_9 : decode cX4_letter 9 = .ok (.if_icmp .le 7, 3) := by decide +kernel
theorem dX4_letter_12 : decode cX4_letter 12 = .ok (.sipush (-1002), 3) := by decide +kernel
theorem dX4_letter_15 : decode cX4_letter 15 = .ok (.ireturn, 1) := by decide +kernel
theorem dX4_letter_16 : decode cX4_letter 16 = .ok (.aload_n 0, 1) := by decide +kernel
theorem dX4_letter_17 : decode cX4_letter 17 = .ok (.getfield 10, 3) := by decide +kernel
theorem dX4_letter_20 : decode cX4_letter 20 = .ok (.iload_n 1, 1) := by decide +kernel
theorem dX4_letter_21 : decode cX4_letter 21 = .ok (.invokevirtual 52, 3) := by decide +kernel
theorem dX4_letter_24 : decode cX4_letter 24 = .ok (.ifCond .eq 13, 3) := by decide +kernel
theorem dX4_letter_27 : decode cX4_letter 27 = .ok (.aload_n 0, 1) := by decide +kernel
theorem dX4_letter_28 : decode cX4_letter 28 = .ok (.getfield 10, 3) := by decide +kernel
theorem dX4_letter_31 : decode cX4_letter 31 = .ok (.getfield 56, 3) := by decide +kernel
theorem dX4_letter_34 : decode cX4_letter 34 = .ok (.goto 6, 3) := by decide +kernel
theorem dX4_letter_37 : decode cX4_letter 37 = .ok (.sipush (-1004), 3) := by decide +kernel
theorem dX4_letter_40 : decode cX4_letter 40 = .ok (.ireturn, 1) := by decide +kernel
theorem dX4_blank_0 : decode cX4_blank 0 = .ok (.aload_n 0, 1) := by decide +kernel
theorem dX4_blank_1 : decode cX4_blank 1 = .ok (.getfield 10, 3) := by decide +kernel
theorem dX4_blank_4 : decode cX4_blank 4 = .ok (.getfield 56, 3) := by decide +kernel
theorem dX4_blank_7 : decode cX4_blank 7 = .ok (.istore_n 1, 1) := by decide +kernel
theorem dX4_blank_8 : decode cX4_blank 8 = .ok (.aload_n 0, 1) := by decide +kernel
theorem dX4_blank_9 : decode cX4_blank 9 = .ok (.getfield 10, 3) := by decide +kernel
theorem dX4_blank_12 : decode cX4_blank 12 = .ok (.iconst 0, 1) := by decide +kernel
theorem dX4_blank_13 : decode cX4_blank 13 = .ok (.putfield 56, 3) := by decide +kernel
theorem dX4_blank_16 : decode cX4_blank 16 = .ok (.iload_n 1, 1) := by decide +kernel
theorem dX4_blank_17 : decode cX4_blank 17 = .ok (.ireturn, 1) := by decide +kernel
theorem dX4_fault_0 : decode cX4_fault 0 = .ok (.aload_n 0, 1) := by decide +kernel
theorem dX4_fault_1 : decode cX4_fault 1 = .ok (.getfield 10, 3) := by decide +kernel
theorem dX4_fault_4 : decode cX4_fault 4 = .ok (.invokevirtual 59, 3) := by decide +kernel
theorem dX4_fault_7 : decode cX4_fault 7 = .ok (.ireturn, 1) := by decide +kernel
theorem dX4_board_0 : decode cX4_board 0 = .ok (.aload_n 0, 1) := by decide +kernel
theorem dX4_board_1 : decode cX4_board 1 = .ok (.getfield 10, 3) := by decide +kernel
theorem dX4_board_4 : decode cX4_board 4 = .ok (.invokevirtual 63, 3) := by decide +kernel
theorem dX4_board_7 : decode cX4_board 7 = .ok (.ifCond .ne 7, 3) := by decide +kernel
theorem dX4_board_10 : decode cX4_board 10 = .ok (.sipush (-1003), 3) := by decide +kernel
theorem dX4_board_13 : decode cX4_board 13 = .ok (.ireturn, 1) := by decide +kernel
theorem dX4_board_14 : decode cX4_board 14 = .ok (.aload_n 0, 1) := by decide +kernel
theorem dX4_board_15 : decode cX4_board 15 = .ok (.aload_n 0, 1) := by decide +kernel
theorem dX4_board_16 : decode cX4_board 16 = .ok (.getfield 10, 3) := by decide +kernel
theorem dX4_board_19 : decode cX4_board 19 = .ok (.invokevirtual 67, 3) := by decide +kernel
theorem dX4_board_22 : decode cX4_board 22 = .ok (.putfield 28, 3) := by decide +kernel
theorem dX4_board_25 : decode cX4_board 25 = .ok (.iconst 0, 1) := by decide +kernel
theorem dX4_board_26 : decode cX4_board 26 = .ok (.istore_n 1, 1) := by decide +kernel
theorem dX4_board_27 : decode cX4_board 27 = .ok (.iload_n 1, 1) := by decide +kernel
theorem dX4_board_28 : decode cX4_board 28 = .ok (.aload_n 0, 1) := by decide +kernel
theorem dX4_board_29 : decode cX4_board 29 = .ok (.getfield 28, 3) := by decide +kernel
theorem dX4_board_32 : decode cX4_board 32 = .ok (.if_icmp .ge 34, 3) := by decide +kernel
theorem dX4_board_35 : decode cX4_board 35 = .ok (.aload_n 0, 1) := by decide +kernel
theorem dX4_board_36 : decode cX4_board 36 = .ok (.getfield 18, 3) := by decide +kernel
theorem dX4_board_39 : decode cX4_board 39 = .ok (.iload_n 1, 1) := by decide +kernel
theorem dX4_board_40 : decode cX4_board 40 = .ok (.aaload, 1) := by decide +kernel
theorem dX4_board_41 : decode cX4_board 41 = .ok (.aload_n 0, 1) := by decide +kernel
theorem dX4_board_42 : decode cX4_board 42 = .ok (.getfield 10, 3) := by decide +kernel
theorem dX4_board_45 : decode cX4_board 45 = .ok (.iload_n 1, 1) := by decide +kernel
theorem dX4_board_46 : decode cX4_board 46 = .ok (.invokevirtual 70, 3) := by decide +kernel
theorem dX4_board_49 : decode cX4_board 49 = .ok (.aload_n 0, 1) := by decide +kernel
theorem dX4_board_50 : decode cX4_board 50 = .ok (.getfield 10, 3) := by decide +kernel
theorem dX4_board_53 : decode cX4_board 53 = .ok (.iload_n 1, 1) := by decide +kernel
theorem dX4_board_54 : decode cX4_board 54 = .ok (.invokevirtual 74, 3) := by decide +kernel
theorem dX4_board_57 : decode cX4_board 57 = .ok (.invokevirtual 77, 3) := by decide +kernel
theorem dX4_board_60 : decode cX4_board 60 = .ok (.iinc 1 1, 3) := by decide +kernel
theorem dX4_board_63 : decode cX4_board 63 = .ok (.goto (-36), 3) := by decide +kernel
theorem dX4_board_66 : decode cX4_board 66 = .ok (.iconst 0, 1) := by decide +kernel
theorem dX4_board_67 : decode cX4_board 67 = .ok (.istore_n 1, 1) := by decide +kernel
theorem dX4_board_68 : decode cX4_board 68 = .ok (.iload_n 1, 1) := by decide +kernel
theorem dX4_board_69 : decode cX4_board 69 = .ok (.bipush 12, 2) := by decide +kernel
theorem dX4_board_71 : decode cX4_board 71 = .ok (.if_icmp .ge 18, 3) := by decide +kernel
theorem dX4_board_74 : decode cX4_board 74 = .ok (.aload_n 0, 1) := by decide +kernel
theorem dX4_board_75 : decode cX4_board 75 = .ok (.getfield 24, 3) := by decide +kernel
theorem dX4_board_78 : decode cX4_board 78 = .ok (.iload_n 1, 1) := by decide +kernel
theorem dX4_board_79 : decode cX4_board 79 = .ok (.aaload, 1) := by decide +kernel
theorem dX4_board_80 : decode cX4_board 80 = .ok (.invokevirtual 81, 3) := by decide +kernel
theorem dX4_board_83 : decode cX4_board 83 = .ok (.iinc 1 1, 3) := by decide +kernel
theorem dX4_board_86 : decode cX4_board 86 = .ok (.goto (-18), 3) := by decide +kernel
theorem dX4_board_89 : decode cX4_board 89 = .ok (.aload_n 0, 1) := by decide +kernel
theorem dX4_board_90 : decode cX4_board 90 = .ok (.getfield 10, 3) := by decide +kernel
theorem dX4_board_93 : decode cX4_board 93 = .ok (.iconst 0, 1) := by decide +kernel
theorem dX4_board_94 : decode cX4_board 94 = .ok (.putfield 56, 3) := by decide +kernel
theorem dX4_board_97 : decode cX4_board 97 = .ok (.aload_n 0, 1) := by decide +kernel
theorem dX4_board_98 : decode cX4_board 98 = .ok (.iconst 0, 1) := by decide +kernel
theorem dX4_board_99 : decode cX4_board 99 = .ok (.putfield 41, 3) := by decide +kernel
theorem dX4_board_102 : decode cX4_board 102 = .ok (.aload_n 0, 1) := by decide +kernel
theorem dX4_board_103 : decode cX4_board 103 = .ok (.iconst 0, 1) := by decide +kernel
theorem dX4_board_104 : decode cX4_board 104 = .ok (.putfield 44, 3) := by decide +kernel
theorem dX4_board_107 : decode cX4_board 107 = .ok (.aload_n 0, 1) := by decide +kernel
theorem dX4_board_108 : decode cX4_board 108 = .ok (.dup, 1) := by decide +kernel
theorem dX4_board_109 : decode cX4_board 109 = .ok (.getfield 47, 3) := by decide +kernel
theorem dX4_board_112 : decode cX4_board 112 = .ok (.iconst 1, 1) := by decide +kernel
theorem dX4_board_113 : decode cX4_board 113 = .ok (.iadd, 1) := by decide +kernel
theorem dX4_board_114 : decode cX4_board 114 = .ok (.putfield 47, 3) := by decide +kernel
theorem dX4_board_117 : decode cX4_board 117 = .ok (.aload_n 0, 1) := by decide +kernel
theorem dX4_board_118 : decode cX4_board 118 = .ok (.getfield 28, 3) := by decide +kernel
theorem dX4_board_121 : decode cX4_board 121 = .ok (.ireturn, 1) := by decide +kernel
theorem dX4_set_0 : decode cX4_set 0 = .ok (.iload_n 1, 1) := by decide +kernel
theorem dX4_set_1 : decode cX4_set 1 = .ok (.tableswitch 45 0 2 #[27, 33, 39], 27) := by decide +kernel
theorem dX4_set_28 : decode cX4_set 28 = .ok (.aload_n 0, 1) := by decide +kernel
theorem dX4_set_29 : decode cX4_set 29 = .ok (.iload_n 2, 1) := by decide +kernel
theorem dX4_set_30 : decode cX4_set 30 = .ok (.invokevirtual 83, 3) := by decide +kernel
theorem dX4_set_33 : decode cX4_set 33 = .ok (.ireturn, 1) := by decide +kernel
theorem dX4_set_34 : decode cX4_set 34 = .ok (.aload_n 0, 1) := by decide +kernel
theorem dX4_set_35 : decode cX4_set 35 = .ok (.iload_n 2, 1) := by decide +kernel
theorem dX4_set_36 : decode cX4_set 36 = .ok (.invokevirtual 86, 3) := by decide +kernel
theorem dX4_set_39 : decode cX4_set 39 = .ok (.ireturn, 1) := by decide +kernel
theorem dX4_set_40 : decode cX4_set 40 = .ok (.aload_n 0, 1) := by decide +kernel
theorem dX4_set_41 : decode cX4_set 41 = .ok (.iload_n 2, 1) := by decide +kernel
theorem dX4_set_42 : decode cX4_set 42 = .ok (.invokevirtual 89, 3) := by decide +kernel
theorem dX4_set_45 : decode cX4_set 45 = .ok (.ireturn, 1) := by decide +kernel
theorem dX4_set_46 : decode cX4_set 46 = .ok (.sipush (-1002), 3) := by decide +kernel
theorem dX4_set_49 : decode cX4_set 49 = .ok (.ireturn, 1) := by decide +kernel
theorem dX4_rank_0 : decode cX4_rank 0 = .ok (.aload_n 0, 1) := by decide +kernel
theorem dX4_rank_1 : decode cX4_rank 1 = .ok (.iload_n 1, 1) := by decide +kernel
theorem dX4_rank_2 : decode cX4_rank 2 = .ok (.invokevirtual 92, 3) := by decide +kernel
theorem dX4_rank_5 : decode cX4_rank 5 = .ok (.ifCond .ne 7, 3) := by decide +kernel
theorem dX4_rank_8 : decode cX4_rank 8 = .ok (.sipush (-1001), 3) := by decide +kernel
theorem dX4_rank_11 : decode cX4_rank 11 = .ok (.ireturn, 1) := by decide +kernel
theorem dX4_rank_12 : decode cX4_rank 12 = .ok (.iload_n 2, 1) := by decide +kernel
theorem dX4_rank_13 : decode cX4_rank 13 = .ok (.ifCond .lt 9, 3) := by decide +kernel
theorem dX4_rank_16 : decode cX4_rank 16 = .ok (.iload_n 2, 1) := by decide +kernel
theorem dX4_rank_17 : decode cX4_rank 17 = .ok (.bipush 9, 2) := by decide +kernel
theorem dX4_rank_19 : decode cX4_rank 19 = .ok (.if_icmp .le 7, 3) := by decide +kernel
theorem dX4_rank_22 : decode cX4_rank 22 = .ok (.sipush (-1002), 3) := by decide +kernel
theorem dX4_rank_25 : decode cX4_rank 25 = .ok (.ireturn, 1) := by decide +kernel
theorem dX4_rank_26 : decode cX4_rank 26 = .ok (.aload_n 0, 1) := by decide +kernel
theorem dX4_rank_27 : decode cX4_rank 27 = .ok (.getfield 18, 3) := by decide +kernel
theorem dX4_rank_30 : decode cX4_rank 30 = .ok (.iload_n 1, 1) := by decide +kernel
theorem dX4_rank_31 : decode cX4_rank 31 = .ok (.aaload, 1) := by decide +kernel
theorem dX4_rank_32 : decode cX4_rank 32 = .ok (.getfield 95, 3) := by decide +kernel
theorem dX4_rank_35 : decode cX4_rank 35 = .ok (.istore_n 3, 1) := by decide +kernel
theorem dX4_rank_36 : decode cX4_rank 36 = .ok (.aload_n 0, 1) := by decide +kernel
theorem dX4_rank_37 : decode cX4_rank 37 = .ok (.getfield 18, 3) := by decide +kernel
theorem dX4_rank_40 : decode cX4_rank 40 = .ok (.iload_n 1, 1) := by decide +kernel
theorem dX4_rank_41 : decode cX4_rank 41 = .ok (.aaload, 1) := by decide +kernel
theorem dX4_rank_42 : decode cX4_rank 42 = .ok (.iload_n 2, 1) := by decide +kernel
theorem dX4_rank_43 : decode cX4_rank 43 = .ok (.putfield 95, 3) := by decide +kernel
theorem dX4_rank_46 : decode cX4_rank 46 = .ok (.aload_n 0, 1) := by decide +kernel
theorem dX4_rank_47 : decode cX4_rank 47 = .ok (.invokevirtual 98, 3) := by decide +kernel
theorem dX4_rank_50 : decode cX4_rank 50 = .ok (.iload_n 3, 1) := by decide +kernel
theorem dX4_rank_51 : decode cX4_rank 51 = .ok (.ireturn, 1) := by decide +kernel
theorem dX4_up_0 : decode cX4_up 0 = .ok (.aload_n 0, 1) := by decide +kernel
theorem dX4_up_1 : decode cX4_up 1 = .ok (.iload_n 1, 1) := by decide +kernel
theorem dX4_up_2 : decode cX4_up 2 = .ok (.invokevirtual 92, 3) := by decide +kernel
theorem dX4_up_5 : decode cX4_up 5 = .ok (.ifCond .ne 7, 3) := by decide +kernel
theorem dX4_up_8 : decode cX4_up 8 = .ok (.sipush (-1001), 3) := by decide +kernel
theorem dX4_up_11 : decode cX4_up 11 = .ok (.ireturn, 1) := by decide +kernel
theorem dX4_up_12 : decode cX4_up 12 = .ok (.aload_n 0, 1) := by decide +kernel
theorem dX4_up_13 : decode cX4_up 13 = .ok (.getfield 18, 3) := by decide +kernel
theorem dX4_up_16 : decode cX4_up 16 = .ok (.iload_n 1, 1) := by decide +kernel
theorem dX4_up_17 : decode cX4_up 17 = .ok (.aaload, 1) := by decide +kernel
theorem dX4_up_18 : decode cX4_up 18 = .ok (.getfield 101, 3) := by decide +kernel
theorem dX4_up_21 : decode cX4_up 21 = .ok (.invokestatic 105, 3) := by decide +kernel
theorem dX4_up_24 : decode cX4_up 24 = .ok (.istore_n 3, 1) := by decide +kernel
theorem dX4_up_25 : decode cX4_up 25 = .ok (.aload_n 0, 1) := by decide +kernel
theorem dX4_up_26 : decode cX4_up 26 = .ok (.getfield 18, 3) := by decide +kernel
theorem dX4_up_29 : decode cX4_up 29 = .ok (.iload_n 1, 1) := by decide +kernel
theorem dX4_up_30 : decode cX4_up 30 = .ok (.aaload, 1) := by decide +kernel
theorem dX4_up_31 : decode cX4_up 31 = .ok (.iload_n 2, 1) := by decide +kernel
theorem dX4_up_32 : decode cX4_up 32 = .ok (.putfield 101, 3) := by decide +kernel
theorem dX4_up_35 : decode cX4_up 35 = .ok (.iload_n 2, 1) := by decide +kernel
theorem dX4_up_36 : decode cX4_up 36 = .ok (.ifCond .ne 30, 3) := by decide +kernel
theorem dX4_up_39 : decode cX4_up 39 = .ok (.aload_n 0, 1) := by decide +kernel
theorem dX4_up_40 : decode cX4_up 40 = .ok (.getfield 18, 3) := by decide +kernel
theorem dX4_up_43 : decode cX4_up 43 = .ok (.iload_n 1, 1) := by decide +kernel
theorem dX4_up_44 : decode cX4_up 44 = .ok (.aaload, 1) := by decide +kernel
theorem dX4_up_45 : decode cX4_up 45 = .ok (.iconst 0, 1) := by decide +kernel
theorem dX4_up_46 : decode cX4_up 46 = .ok (.putfield 109, 3) := by decide +kernel
theorem dX4_up_49 : decode cX4_up 49 = .ok (.aload_n 0, 1) := by decide +kernel
theorem dX4_up_50 : decode cX4_up 50 = .ok (.invokevirtual 98, 3) := by decide +kernel
theorem dX4_up_53 : decode cX4_up 53 = .ok (.aload_n 0, 1) := by decide +kernel
theorem dX4_up_54 : decode cX4_up 54 = .ok (.aload_n 0, 1) := by decide +kernel
theorem dX4_up_55 : decode cX4_up 55 = .ok (.getfield 18, 3) := by decide +kernel
theorem dX4_up_58 : decode cX4_up 58 = .ok (.iload_n 1, 1) := by decide +kernel
theorem dX4_up_59 : decode cX4_up 59 = .ok (.aaload, 1) := by decide +kernel
theorem dX4_up_60 : decode cX4_up 60 = .ok (.getfield 112, 3) := by decide +kernel
theorem dX4_up_63 : decode cX4_up 63 = .ok (.invokevirtual 116, 3) := by decide +kernel
theorem dX4_up_66 : decode cX4_up 66 = .ok (.iload_n 3, 1) := by decide +kernel
theorem dX4_up_67 : decode cX4_up 67 = .ok (.ireturn, 1) := by decide +kernel
theorem dX4_hear_0 : decode cX4_hear 0 = .ok (.aload_n 0, 1) := by decide +kernel
theorem dX4_hear_1 : decode cX4_hear 1 = .ok (.iload_n 1, 1) := by decide +kernel
theorem dX4_hear_2 : decode cX4_hear 2 = .ok (.invokevirtual 92, 3) := by decide +kernel
theorem dX4_hear_5 : decode cX4_hear 5 = .ok (.ifCond .ne 7, 3) := by decide +kernel
theorem dX4_hear_8 : decode cX4_hear 8 = .ok (.sipush (-1001), 3) := by decide +kernel
theorem dX4_hear_11 : decode cX4_hear 11 = .ok (.ireturn, 1) := by decide +kernel
theorem dX4_hear_12 : decode cX4_hear 12 = .ok (.iload_n 2, 1) := by decide +kernel
theorem dX4_hear_13 : decode cX4_hear 13 = .ok (.iconst 1, 1) := by decide +kernel
theorem dX4_hear_14 : decode cX4_hear 14 = .ok (.if_icmp .lt 16, 3) := by decide +kernel
theorem dX4_hear_17 : decode cX4_hear 17 = .ok (.iload_n 2, 1) := by decide +kernel
theorem dX4_hear_18 : decode cX4_hear 18 = .ok (.bipush 9, 2) := by decide +kernel
theorem dX4_hear_20 : decode cX4_hear 20 = .ok (.if_icmp .gt 10, 3) := by decide +kernel
theorem dX4_hear_23 : decode cX4_hear 23 = .ok (.iload_n 3, 1) := by decide +kernel
theorem dX4_hear_24 : decode cX4_hear 24 = .ok (.invokestatic 120, 3) := by decide +kernel
theorem dX4_hear_27 : decode cX4_hear 27 = .ok (.ifCond .ne 7, 3) := by decide +kernel
theorem dX4_hear_30 : decode cX4_hear 30 = .ok (.sipush (-1002), 3) := by decide +kernel
theorem dX4_hear_33 : decode cX4_hear 33 = .ok (.ireturn, 1) := by decide +kernel
theorem dX4_hear_34 : decode cX4_hear 34 = .ok (.aload_n 0, 1) := by decide +kernel
theorem dX4_hear_35 : decode cX4_hear 35 = .ok (.getfield 18, 3) := by decide +kernel
theorem dX4_hear_38 : decode cX4_hear 38 = .ok (.iload_n 1, 1) := by decide +kernel
theorem dX4_hear_39 : decode cX4_hear 39 = .ok (.aaload, 1) := by decide +kernel
theorem dX4_hear_40 : decode cX4_hear 40 = .ok (.getfield 101, 3) := by decide +kernel
theorem dX4_hear_43 : decode cX4_hear 43 = .ok (.ifCond .ne 7, 3) := by decide +kernel
theorem dX4_hear_46 : decode cX4_hear 46 = .ok (.sipush (-1003), 3) := by decide +kernel
theorem dX4_hear_49 : decode cX4_hear 49 = .ok (.ireturn, 1) := by decide +kernel
theorem dX4_hear_50 : decode cX4_hear 50 = .ok (.aload_n 0, 1) := by decide +kernel
theorem dX4_hear_51 : decode cX4_hear 51 = .ok (.getfield 18, 3) := by decide +kernel
theorem dX4_hear_54 : decode cX4_hear 54 = .ok (.iload_n 1, 1) := by decide +kernel
theorem dX4_hear_55 : decode cX4_hear 55 = .ok (.aaload, 1) := by decide +kernel
theorem dX4_hear_56 : decode cX4_hear 56 = .ok (.iload_n 2, 1) := by decide +kernel
theorem dX4_hear_57 : decode cX4_hear 57 = .ok (.iload_n 3, 1) := by decide +kernel
theorem dX4_hear_58 : decode cX4_hear 58 = .ok (.iload 4, 2) := by decide +kernel
theorem dX4_hear_60 : decode cX4_hear 60 = .ok (.invokevirtual 123, 3) := by decide +kernel
theorem dX4_hear_63 : decode cX4_hear 63 = .ok (.aload_n 0, 1) := by decide +kernel
theorem dX4_hear_64 : decode cX4_hear 64 = .ok (.invokevirtual 98, 3) := by decide +kernel
theorem dX4_hear_67 : decode cX4_hear 67 = .ok (.aload_n 0, 1) := by decide +kernel
theorem dX4_hear_68 : decode cX4_hear 68 = .ok (.aload_n 0, 1) := by decide +kernel
theorem dX4_hear_69 : decode cX4_hear 69 = .ok (.getfield 18, 3) := by decide +kernel
theorem dX4_hear_72 : decode cX4_hear 72 = .ok (.iload_n 1, 1) := by decide +kernel
theorem dX4_hear_73 : decode cX4_hear 73 = .ok (.aaload, 1) := by decide +kernel
theorem dX4_hear_74 : decode cX4_hear 74 = .ok (.invokevirtual 127, 3) := by decide +kernel
theorem dX4_hear_77 : decode cX4_hear 77 = .ok (.invokestatic 105, 3) := by decide +kernel
theorem dX4_hear_80 : decode cX4_hear 80 = .ok (.ireturn, 1) := by decide +kernel
theorem dX4_of_0 : decode cX4_of 0 = .ok (.aload_n 0, 1) := by decide +kernel
theorem dX4_of_1 : decode cX4_of 1 = .ok (.iload_n 1, 1) := by decide +kernel
theorem dX4_of_2 : decode cX4_of 2 = .ok (.invokevirtual 92, 3) := by decide +kernel
theorem dX4_of_5 : decode cX4_of 5 = .ok (.ifCond .ne 7, 3) := by decide +kernel
theorem dX4_of_8 : decode cX4_of 8 = .ok (.sipush (-1001), 3) := by decide +kernel
theorem dX4_of_11 : decode cX4_of 11 = .ok (.ireturn, 1) := by decide +kernel
theorem dX4_of_12 : decode cX4_of 12 = .ok (.aload_n 0, 1) := by decide +kernel
theorem dX4_of_13 : decode cX4_of 13 = .ok (.getfield 18, 3) := by decide +kernel
theorem dX4_of_16 : decode cX4_of 16 = .ok (.iload_n 1, 1) := by decide +kernel
theorem dX4_of_17 : decode cX4_of 17 = .ok (.aaload, 1) := by decide +kernel
theorem dX4_of_18 : decode cX4_of 18 = .ok (.astore_n 3, 1) := by decide +kernel
theorem dX4_of_19 : decode cX4_of 19 = .ok (.iload_n 2, 1) := by decide +kernel
theorem dX4_of_20 : decode cX4_of 20 = .ok (.tableswitch 160 0 9 #[56, 61, 66, 74, 90, 106, 125, 141, 147, 152], 56) := by decide +kernel
theorem dX4_of_76 : decode cX4_of 76 = .ok (.aload_n 3, 1) := by decide +kernel
theorem dX4_of_77 : decode cX4_of 77 = .ok (.getfield 131, 3) := by decide +kernel
theorem dX4_of_80 : decode cX4_of 80 = .ok (.ireturn, 1) := by decide +kernel
theorem dX4_of_81 : decode cX4_of 81 = .ok (.aload_n 3, 1) := by decide +kernel
theorem dX4_of_82 : decode cX4_of 82 = .ok (.getfield 95, 3) := by decide +kernel
theorem dX4_of_85 : decode cX4_of 85 = .ok (.ireturn, 1) := by decide +kernel
theorem dX4_of_86 : decode cX4_of 86 = .ok (.aload_n 3, 1) := by decide +kernel
theorem dX4_of_87 : decode cX4_of 87 = .ok (.getfield 101, 3) := by decide +kernel
theorem dX4_of_90 : decode cX4_of 90 = .ok (.invokestatic 105, 3) := by decide +kernel
theorem dX4_of_93 : decode cX4_of 93 = .ok (.ireturn, 1) := by decide +kernel
theorem dX4_of_94 : decode cX4_of 94 = .ok (.aload_n 3, 1) := by decide +kernel
theorem dX4_of_95 : decode cX4_of 95 = .ok (.getfield 109, 3) := by decide +kernel
theorem dX4_of_98 : decode cX4_of 98 = .ok (.ifCond .eq 10, 3) := by decide +kernel
theorem dX4_of_101 : decode cX4_of 101 = .ok (.aload_n 3, 1) := by decide +kernel
theorem dX4_of_102 : decode cX4_of 102 = .ok (.getfield 134, 3) := by decide +kernel
theorem dX4_of_105 : decode cX4_of 105 = .ok (.goto 4, 3) := by decide +kernel
theorem dX4_of_108 : decode cX4_of 108 = .ok (.iconst (-1), 1) := by decide +kernel
theorem dX4_of_109 : decode cX4_of 109 = .ok (.ireturn, 1) := by decide +kernel
theorem dX4_of_110 : decode cX4_of 110 = .ok (.aload_n 3, 1) := by decide +kernel
theorem dX4_of_111 : decode cX4_of 111 = .ok (.getfield 109, 3) := by decide +kernel
theorem dX4_of_114 : decode cX4_of 114 = .ok (.ifCond .eq 10, 3) := by decide +kernel
theorem dX4_of_117 : decode cX4_of 117 = .ok (.aload_n 3, 1) := by decide +kernel
theorem dX4_of_118 : decode cX4_of 118 = .ok (.getfield 137, 3) := by decide +kernel
theorem dX4_of_121 : decode cX4_of 121 = .ok (.goto 4, 3) := by decide +kernel
theorem dX4_of_124 : decode cX4_of 124 = .ok (.iconst (-1), 1) := by decide +kernel
theorem dX4_of_125 : decode cX4_of 125 = .ok (.ireturn, 1) := by decide +kernel
theorem dX4_of_126 : decode cX4_of 126 = .ok (.aload_n 3, 1) := by decide +kernel
theorem dX4_of_127 : decode cX4_of 127 = .ok (.getfield 109, 3) := by decide +kernel
theorem dX4_of_130 : decode cX4_of 130 = .ok (.ifCond .eq 13, 3) := by decide +kernel
theorem dX4_of_133 : decode cX4_of 133 = .ok (.aload_n 3, 1) := by decide +kernel
theorem dX4_of_134 : decode cX4_of 134 = .ok (.getfield 140, 3) := by decide +kernel
theorem dX4_of_137 : decode cX4_of 137 = .ok (.invokestatic 105, 3) := by decide +kernel
theorem dX4_of_140 : decode cX4_of 140 = .ok (.goto 4, 3) := by decide +kernel
theorem dX4_of_143 : decode cX4_of 143 = .ok (.iconst (-1), 1) := by decide +kernel
theorem dX4_of_144 : decode cX4_of 144 = .ok (.ireturn, 1) := by decide +kernel
theorem dX4_of_145 : decode cX4_of 145 = .ok (.aload_n 3, 1) := by decide +kernel
theorem dX4_of_146 : decode cX4_of 146 = .ok (.getfield 109, 3) := by decide +kernel
theorem dX4_of_149 : decode cX4_of 149 = .ok (.ifCond .eq 10, 3) := by decide +kernel
theorem dX4_of_152 : decode cX4_of 152 = .ok (.aload_n 3, 1) := by decide +kernel
theorem dX4_of_153 : decode cX4_of 153 = .ok (.getfield 143, 3) := by decide +kernel
theorem dX4_of_156 : decode cX4_of 156 = .ok (.goto 4, 3) := by decide +kernel
theorem dX4_of_159 : decode cX4_of 159 = .ok (.iconst (-1), 1) := by decide +kernel
theorem dX4_of_160 : decode cX4_of 160 = .ok (.ireturn, 1) := by decide +kernel
theorem dX4_of_161 : decode cX4_of 161 = .ok (.aload_n 0, 1) := by decide +kernel
theorem dX4_of_162 : decode cX4_of 162 = .ok (.aload_n 3, 1) := by decide +kernel
theorem dX4_of_163 : decode cX4_of 163 = .ok (.invokevirtual 146, 3) := by decide +kernel
theorem dX4_of_166 : decode cX4_of 166 = .ok (.ireturn, 1) := by decide +kernel
theorem dX4_of_167 : decode cX4_of 167 = .ok (.aload_n 3, 1) := by decide +kernel
theorem dX4_of_168 : decode cX4_of 168 = .ok (.getfield 150, 3) := by decide +kernel
theorem dX4_of_171 : decode cX4_of 171 = .ok (.ireturn, 1) := by decide +kernel
theorem dX4_of_172 : decode cX4_of 172 = .ok (.aload_n 3, 1) := by decide +kernel
theorem dX4_of_173 : decode cX4_of 173 = .ok (.getfield 112, 3) := by decide +kernel
theorem dX4_of_176 : decode cX4_of 176 = .ok (.getfield 153, 3) := by decide +kernel
theorem dX4_of_179 : decode cX4_of 179 = .ok (.ireturn, 1) := by decide +kernel
theorem dX4_of_180 : decode cX4_of 180 = .ok (.sipush (-1002), 3) := by decide +kernel
theorem dX4_of_183 : decode cX4_of 183 = .ok (.ireturn, 1) := by decide +kernel
theorem dX4_queue_0 : decode cX4_queue 0 = .ok (.aload_n 0, 1) := by decide +kernel
theorem dX4_queue_1 : decode cX4_queue 1 = .ok (.iload_n 1, 1) := by decide +kernel
theorem dX4_queue_2 : decode cX4_queue 2 = .ok (.invokevirtual 92, 3) := by decide +kernel
theorem dX4_queue_5 : decode cX4_queue 5 = .ok (.ifCond .ne 7, 3) := by decide +kernel
theorem dX4_queue_8 : decode cX4_queue 8 = .ok (.sipush (-1001), 3) := by decide +kernel
theorem dX4_queue_11 : decode cX4_queue 11 = .ok (.ireturn, 1) := by decide +kernel
theorem dX4_queue_12 : decode cX4_queue 12 = .ok (.aload_n 0, 1) := by decide +kernel
theorem dX4_queue_13 : decode cX4_queue 13 = .ok (.getfield 18, 3) := by decide +kernel
theorem dX4_queue_16 : decode cX4_queue 16 = .ok (.iload_n 1, 1) := by decide +kernel
theorem dX4_queue_17 : decode cX4_queue 17 = .ok (.aaload, 1) := by decide +kernel
theorem dX4_queue_18 : decode cX4_queue 18 = .ok (.getfield 112, 3) := by decide +kernel
theorem dX4_queue_21 : decode cX4_queue 21 = .ok (.astore_n 3, 1) := by decide +kernel
theorem dX4_queue_22 : decode cX4_queue 22 = .ok (.aload_n 3, 1) := by decide +kernel
theorem dX4_queue_23 : decode cX4_queue 23 = .ok (.iload_n 2, 1) := by decide +kernel
theorem dX4_queue_24 : decode cX4_queue 24 = .ok (.invokevirtual 156, 3) := by decide +kernel
theorem dX4_queue_27 : decode cX4_queue 27 = .ok (.ifCond .ne 7, 3) := by decide +kernel
theorem dX4_queue_30 : decode cX4_queue 30 = .ok (.sipush (-1001), 3) := by decide +kernel
theorem dX4_queue_33 : decode cX4_queue 33 = .ok (.ireturn, 1) := by decide +kernel
theorem dX4_queue_34 : decode cX4_queue 34 = .ok (.aload_n 3, 1) := by decide +kernel
theorem dX4_queue_35 : decode cX4_queue 35 = .ok (.iload_n 2, 1) := by decide +kernel
theorem dX4_queue_36 : decode cX4_queue 36 = .ok (.invokevirtual 159, 3) := by decide +kernel
theorem dX4_queue_39 : decode cX4_queue 39 = .ok (.ifCond .eq 11, 3) := by decide +kernel
theorem dX4_queue_42 : decode cX4_queue 42 = .ok (.iconst (-1), 1) := by decide +kernel
theorem dX4_queue_43 : decode cX4_queue 43 = .ok (.aload_n 3, 1) := by decide +kernel
theorem dX4_queue_44 : decode cX4_queue 44 = .ok (.iload_n 2, 1) := by decide +kernel
theorem dX4_queue_45 : decode cX4_queue 45 = .ok (.invokevirtual 162, 3) := by decide +kernel
theorem dX4_queue_48 : decode cX4_queue 48 = .ok (.isub, 1) := by decide +kernel
theorem dX4_queue_49 : decode cX4_queue 49 = .ok (.ireturn, 1) := by decide +kernel
theorem dX4_queue_50 : decode cX4_queue 50 = .ok (.bipush 100, 2) := by decide +kernel
theorem dX4_queue_52 : decode cX4_queue 52 = .ok (.aload_n 3, 1) := by decide +kernel
theorem dX4_queue_53 : decode cX4_queue 53 = .ok (.iload_n 2, 1) := by decide +kernel
theorem dX4_queue_54 : decode cX4_queue 54 = .ok (.invokevirtual 162, 3) := by decide +kernel
theorem dX4_queue_57 : decode cX4_queue 57 = .ok (.imul, 1) := by decide +kernel
theorem dX4_queue_58 : decode cX4_queue 58 = .ok (.aload_n 3, 1) := by decide +kernel
theorem dX4_queue_59 : decode cX4_queue 59 = .ok (.iload_n 2, 1) := by decide +kernel
theorem dX4_queue_60 : decode cX4_queue 60 = .ok (.invokevirtual 165, 3) := by decide +kernel
theorem dX4_queue_63 : decode cX4_queue 63 = .ok (.bipush 100, 2) := by decide +kernel
theorem dX4_queue_65 : decode cX4_queue 65 = .ok (.irem, 1) := by decide +kernel
theorem dX4_queue_66 : decode cX4_queue 66 = .ok (.iadd, 1) := by decide +kernel
theorem dX4_queue_67 : decode cX4_queue 67 = .ok (.ireturn, 1) := by decide +kernel
theorem dX4_key_0 : decode cX4_key 0 = .ok (.iload_n 1, 1) := by decide +kernel
theorem dX4_key_1 : decode cX4_key 1 = .ok (.invokestatic 120, 3) := by decide +kernel
theorem dX4_key_4 : decode cX4_key 4 = .ok (.ifCond .ne 7, 3) := by decide +kernel
theorem dX4_key_7 : decode cX4_key 7 = .ok (.sipush (-1001), 3) := by decide +kernel
theorem dX4_key_10 : decode cX4_key 10 = .ok (.ireturn, 1) := by decide +kernel
theorem dX4_key_11 : decode cX4_key 11 = .ok (.iload_n 2, 1) := by decide +kernel
theorem dX4_key_12 : decode cX4_key 12 = .ok (.tableswitch 62 0 3 #[32, 38, 46, 54], 32) := by decide +kernel
theorem dX4_key_44 : decode cX4_key 44 = .ok (.aload_n 0, 1) := by decide +kernel
theorem dX4_key_45 : decode cX4_key 45 = .ok (.iload_n 1, 1) := by decide +kernel
theorem dX4_key_46 : decode cX4_key 46 = .ok (.invokevirtual 168, 3) := by decide +kernel
theorem dX4_key_49 : decode cX4_key 49 = .ok (.ireturn, 1) := by decide +kernel
theorem dX4_key_50 : decode cX4_key 50 = .ok (.aload_n 0, 1) := by decide +kernel
theorem dX4_key_51 : decode cX4_key 51 = .ok (.iload_n 1, 1) := by decide +kernel
theorem dX4_key_52 : decode cX4_key 52 = .ok (.iconst 2, 1) := by decide +kernel
theorem dX4_key_53 : decode cX4_key 53 = .ok (.iconst 4, 1) := by decide +kernel
theorem dX4_key_54 : decode cX4_key 54 = .ok (.invokevirtual 171, 3) := by decide +kernel
theorem dX4_key_57 : decode cX4_key 57 = .ok (.ireturn, 1) := by decide +kernel
theorem dX4_key_58 : decode cX4_key 58 = .ok (.aload_n 0, 1) := by decide +kernel
theorem dX4_key_59 : decode cX4_key 59 = .ok (.iload_n 1, 1) := by decide +kernel
theorem dX4_key_60 : decode cX4_key 60 = .ok (.iconst 1, 1) := by decide +kernel
theorem dX4_key_61 : decode cX4_key 61 = .ok (.iconst 1, 1) := by decide +kernel
theorem dX4_key_62 : decode cX4_key 62 = .ok (.invokevirtual 171, 3) := by decide +kernel
theorem dX4_key_65 : decode cX4_key 65 = .ok (.ireturn, 1) := by decide +kernel
theorem dX4_key_66 : decode cX4_key 66 = .ok (.aload_n 0, 1) := by decide +kernel
theorem dX4_key_67 : decode cX4_key 67 = .ok (.iload_n 1, 1) := by decide +kernel
theorem dX4_key_68 : decode cX4_key 68 = .ok (.iconst 4, 1) := by decide +kernel
theorem dX4_key_69 : decode cX4_key 69 = .ok (.iconst 4, 1) := by decide +kernel
theorem dX4_key_70 : decode cX4_key 70 = .ok (.invokevirtual 171, 3) := by decide +kernel
theorem dX4_key_73 : decode cX4_key 73 = .ok (.ireturn, 1) := by decide +kernel
theorem dX4_key_74 : decode cX4_key 74 = .ok (.sipush (-1002), 3) := by decide +kernel
theorem dX4_key_77 : decode cX4_key 77 = .ok (.ireturn, 1) := by decide +kernel
theorem dX4_way_0 : decode cX4_way 0 = .ok (.iload_n 1, 1) := by decide +kernel
theorem dX4_way_1 : decode cX4_way 1 = .ok (.invokestatic 175, 3) := by decide +kernel
theorem dX4_way_4 : decode cX4_way 4 = .ok (.ifCond .eq 11, 3) := by decide +kernel
theorem dX4_way_7 : decode cX4_way 7 = .ok (.aload_n 0, 1) := by decide +kernel
theorem dX4_way_8 : decode cX4_way 8 = .ok (.iload_n 1, 1) := by decide +kernel
theorem dX4_way_9 : decode cX4_way 9 = .ok (.invokevirtual 178, 3) := by decide +kernel
theorem dX4_way_12 : decode cX4_way 12 = .ok (.goto 6, 3) := by decide +kernel
theorem dX4_way_15 : decode cX4_way 15 = .ok (.sipush (-1001), 3) := by decide +kernel
theorem dX4_way_18 : decode cX4_way 18 = .ok (.ireturn, 1) := by decide +kernel
theorem dX4_send_0 : decode cX4_send 0 = .ok (.iload_n 1, 1) := by decide +kernel
theorem dX4_send_1 : decode cX4_send 1 = .ok (.invokestatic 175, 3) := by decide +kernel
theorem dX4_send_4 : decode cX4_send 4 = .ok (.ifCond .ne 7, 3) := by decide +kernel
theorem dX4_send_7 : decode cX4_send 7 = .ok (.sipush (-1001), 3) := by decide +kernel
theorem dX4_send_10 : decode cX4_send 10 = .ok (.ireturn, 1) := by decide +kernel
theorem dX4_send_11 : decode cX4_send 11 = .ok (.aload_n 0, 1) := by decide +kernel
theorem dX4_send_12 : decode cX4_send 12 = .ok (.getfield 28, 3) := by decide +kernel
theorem dX4_send_15 : decode cX4_send 15 = .ok (.ifCond .ne 7, 3) := by decide +kernel
theorem dX4_send_18 : decode cX4_send 18 = .ok (.sipush (-1003), 3) := by decide +kernel
theorem dX4_send_21 : decode cX4_send 21 = .ok (.ireturn, 1) := by decide +kernel
theorem dX4_send_22 : decode cX4_send 22 = .ok (.aload_n 0, 1) := by decide +kernel
theorem dX4_send_23 : decode cX4_send 23 = .ok (.getfield 24, 3) := by decide +kernel
theorem dX4_send_26 : decode cX4_send 26 = .ok (.iload_n 1, 1) := by decide +kernel
theorem dX4_send_27 : decode cX4_send 27 = .ok (.aaload, 1) := by decide +kernel
theorem dX4_send_28 : decode cX4_send 28 = .ok (.astore_n 2, 1) := by decide +kernel
theorem dX4_send_29 : decode cX4_send 29 = .ok (.aload_n 2, 1) := by decide +kernel
theorem dX4_send_30 : decode cX4_send 30 = .ok (.dup, 1) := by decide +kernel
theorem dX4_send_31 : decode cX4_send 31 = .ok (.getfield 181, 3) := by decide +kernel
theorem dX4_send_34 : decode cX4_send 34 = .ok (.iconst 1, 1) := by decide +kernel
theorem dX4_send_35 : decode cX4_send 35 = .ok (.iadd, 1) := by decide +kernel
theorem dX4_send_36 : decode cX4_send 36 = .ok (.putfield 181, 3) := by decide +kernel
theorem dX4_send_39 : decode cX4_send 39 = .ok (.aload_n 2, 1) := by decide +kernel
theorem dX4_send_40 : decode cX4_send 40 = .ok (.getfield 184, 3) := by decide +kernel
theorem dX4_send_43 : decode cX4_send 43 = .ok (.ifCond .eq 20, 3) := by decide +kernel
theorem dX4_send_46 : decode cX4_send 46 = .ok (.aload_n 2, 1) := by decide +kernel
theorem dX4_send_47 : decode cX4_send 47 = .ok (.aload_n 2, 1) := by decide +kernel
theorem dX4_send_48 : decode cX4_send 48 = .ok (.getfield 181, 3) := by decide +kernel
theorem dX4_send_51 : decode cX4_send 51 = .ok (.invokevirtual 187, 3) := by decide +kernel
theorem dX4_send_54 : decode cX4_send 54 = .ok (.ifCond .eq 7, 3) := by decide +kernel
theorem dX4_send_57 : decode cX4_send 57 = .ok (.iconst 1, 1) := by decide +kernel
theorem dX4_send_58 : decode cX4_send 58 = .ok (.goto 4, 3) := by decide +kernel
theorem dX4_send_61 : decode cX4_send 61 = .ok (.iconst 2, 1) := by decide +kernel
theorem dX4_send_62 : decode cX4_send 62 = .ok (.ireturn, 1) := by decide +kernel
theorem dX4_send_63 : decode cX4_send 63 = .ok (.aload_n 0, 1) := by decide +kernel
theorem dX4_send_64 : decode cX4_send 64 = .ok (.iload_n 1, 1) := by decide +kernel
theorem dX4_send_65 : decode cX4_send 65 = .ok (.invokevirtual 178, 3) := by decide +kernel
theorem dX4_send_68 : decode cX4_send 68 = .ok (.istore_n 3, 1) := by decide +kernel
theorem dX4_send_69 : decode cX4_send 69 = .ok (.iload_n 3, 1) := by decide +kernel
theorem dX4_send_70 : decode cX4_send 70 = .ok (.iconst (-1), 1) := by decide +kernel
theorem dX4_send_71 : decode cX4_send 71 = .ok (.if_icmp .ne 15, 3) := by decide +kernel
theorem dX4_send_74 : decode cX4_send 74 = .ok (.aload_n 2, 1) := by decide +kernel
theorem dX4_send_75 : decode cX4_send 75 = .ok (.dup, 1) := by decide +kernel
theorem dX4_send_76 : decode cX4_send 76 = .ok (.getfield 190, 3) := by decide +kernel
theorem dX4_send_79 : decode cX4_send 79 = .ok (.iconst 1, 1) := by decide +kernel
theorem dX4_send_80 : decode cX4_send 80 = .ok (.iadd, 1) := by decide +kernel
theorem dX4_send_81 : decode cX4_send 81 = .ok (.putfield 190, 3) := by decide +kernel
theorem dX4_send_84 : decode cX4_send 84 = .ok (.iconst 2, 1) := by decide +kernel
theorem dX4_send_85 : decode cX4_send 85 = .ok (.ireturn, 1) := by decide +kernel
theorem dX4_send_86 : decode cX4_send 86 = .ok (.aload_n 2, 1) := by decide +kernel
theorem dX4_send_87 : decode cX4_send 87 = .ok (.getfield 193, 3) := by decide +kernel
theorem dX4_send_90 : decode cX4_send 90 = .ok (.iload_n 3, 1) := by decide +kernel
theorem dX4_send_91 : decode cX4_send 91 = .ok (.if_icmp .eq 33, 3) := by decide +kernel
theorem dX4_send_94 : decode cX4_send 94 = .ok (.aload_n 0, 1) := by decide +kernel
theorem dX4_send_95 : decode cX4_send 95 = .ok (.iload_n 1, 1) := by decide +kernel
theorem dX4_send_96 : decode cX4_send 96 = .ok (.invokevirtual 196, 3) := by decide +kernel
theorem dX4_send_99 : decode cX4_send 99 = .ok (.ifCond .eq 25, 3) := by decide +kernel
theorem dX4_send_102 : decode cX4_send 102 = .ok (.aload_n 0, 1) := by decide +kernel
theorem dX4_send_103 : decode cX4_send 103 = .ok (.iload_n 1, 1) := by decide +kernel
theorem dX4_send_104 : decode cX4_send 104 = .ok (.invokevirtual 199, 3) := by decide +kernel
theorem dX4_send_107 : decode cX4_send 107 = .ok (.aload_n 2, 1) := by decide +kernel
theorem dX4_send_108 : decode cX4_send 108 = .ok (.aload_n 2, 1) := by decide +kernel
theorem dX4_send_109 : decode cX4_send 109 = .ok (.getfield 181, 3) := by decide +kernel
theorem dX4_send_112 : decode cX4_send 112 = .ok (.invokevirtual 187, 3) := by decide +kernel
theorem dX4_send_115 : decode cX4_send 115 = .ok (.ifCond .eq 7, 3) := by decide +kernel
theorem dX4_send_118 : decode cX4_send 118 = .ok (.iconst 1, 1) := by decide +kernel
theorem dX4_send_119 : decode cX4_send 119 = .ok (.goto 4, 3) := by decide +kernel
theorem dX4_send_122 : decode cX4_send 122 = .ok (.iconst 2, 1) := by decide +kernel
theorem dX4_send_123 : decode cX4_send 123 = .ok (.ireturn, 1) := by decide +kernel
theorem dX4_send_124 : decode cX4_send 124 = .ok (.aload_n 2, 1) := by decide +kernel
theorem dX4_send_125 : decode cX4_send 125 = .ok (.iload_n 3, 1) := by decide +kernel
theorem dX4_send_126 : decode cX4_send 126 = .ok (.putfield 193, 3) := by decide +kernel
theorem dX4_send_129 : decode cX4_send 129 = .ok (.aload_n 0, 1) := by decide +kernel
theorem dX4_send_130 : decode cX4_send 130 = .ok (.iload_n 1, 1) := by decide +kernel
theorem dX4_send_131 : decode cX4_send 131 = .ok (.aload_n 2, 1) := by decide +kernel
theorem dX4_send_132 : decode cX4_send 132 = .ok (.getfield 181, 3) := by decide +kernel
theorem dX4_send_135 : decode cX4_send 135 = .ok (.iload_n 3, 1) := by decide +kernel
theorem dX4_send_136 : decode cX4_send 136 = .ok (.invokevirtual 203, 3) := by decide +kernel
theorem dX4_send_139 : decode cX4_send 139 = .ok (.ifCond .eq 7, 3) := by decide +kernel
theorem dX4_send_142 : decode cX4_send 142 = .ok (.iconst 0, 1) := by decide +kernel
theorem dX4_send_143 : decode cX4_send 143 = .ok (.goto 4, 3) := by decide +kernel
theorem dX4_send_146 : decode cX4_send 146 = .ok (.iconst 2, 1) := by decide +kernel
theorem dX4_send_147 : decode cX4_send 147 = .ok (.ireturn, 1) := by decide +kernel
theorem dX4_flow_0 : decode cX4_flow 0 = .ok (.iload_n 1, 1) := by decide +kernel
theorem dX4_flow_1 : decode cX4_flow 1 = .ok (.invokestatic 175, 3) := by decide +kernel
theorem dX4_flow_4 : decode cX4_flow 4 = .ok (.ifCond .ne 7, 3) := by decide +kernel
theorem dX4_flow_7 : decode cX4_flow 7 = .ok (.sipush (-1001), 3) := by decide +kernel
theorem dX4_flow_10 : decode cX4_flow 10 = .ok (.ireturn, 1) := by decide +kernel
theorem dX4_flow_11 : decode cX4_flow 11 = .ok (.aload_n 0, 1) := by decide +kernel
theorem dX4_flow_12 : decode cX4_flow 12 = .ok (.getfield 24, 3) := by decide +kernel
theorem dX4_flow_15 : decode cX4_flow 15 = .ok (.iload_n 1, 1) := by decide +kernel
theorem dX4_flow_16 : decode cX4_flow 16 = .ok (.aaload, 1) := by decide +kernel
theorem dX4_flow_17 : decode cX4_flow 17 = .ok (.astore_n 3, 1) := by decide +kernel
theorem dX4_flow_18 : decode cX4_flow 18 = .ok (.iload_n 2, 1) := by decide +kernel
theorem dX4_flow_19 : decode cX4_flow 19 = .ok (.tableswitch 79 0 6 #[41, 46, 54, 59, 64, 69, 74], 41) := by decide +kernel
theorem dX4_flow_60 : decode cX4_flow 60 = .ok (.aload_n 3, 1) := by decide +kernel
theorem dX4_flow_61 : decode cX4_flow 61 = .ok (.getfield 193, 3) := by decide +kernel
theorem dX4_flow_64 : decode cX4_flow 64 = .ok (.ireturn, 1) := by decide +kernel
theorem dX4_flow_65 : decode cX4_flow 65 = .ok (.aload_n 3, 1) := by decide +kernel
theorem dX4_flow_66 : decode cX4_flow 66 = .ok (.getfield 184, 3) := by decide +kernel
theorem dX4_flow_69 : decode cX4_flow 69 = .ok (.invokestatic 105, 3) := by decide +kernel
theorem dX4_flow_72 : decode cX4_flow 72 = .ok (.ireturn, 1) := by decide +kernel
theorem dX4_flow_73 : decode cX4_flow 73 = .ok (.aload_n 3, 1) := by decide +kernel
theorem dX4_flow_74 : decode cX4_flow 74 = .ok (.getfield 207, 3) := by decide +kernel
theorem dX4_flow_77 : decode cX4_flow 77 = .ok (.ireturn, 1) := by decide +kernel
theorem dX4_flow_78 : decode cX4_flow 78 = .ok (.aload_n 3, 1) := by decide +kernel
theorem dX4_flow_79 : decode cX4_flow 79 = .ok (.getfield 181, 3) := by decide +kernel
theorem dX4_flow_82 : decode cX4_flow 82 = .ok (.ireturn, 1) := by decide +kernel
theorem dX4_flow_83 : decode cX4_flow 83 = .ok (.aload_n 3, 1) := by decide +kernel
theorem dX4_flow_84 : decode cX4_flow 84 = .ok (.getfield 210, 3) := by decide +kernel
theorem dX4_flow_87 : decode cX4_flow 87 = .ok (.ireturn, 1) := by decide +kernel
theorem dX4_flow_88 : decode cX4_flow 88 = .ok (.aload_n 3, 1) := by decide +kernel
theorem dX4_flow_89 : decode cX4_flow 89 = .ok (.getfield 190, 3) := by decide +kernel
theorem dX4_flow_92 : decode cX4_flow 92 = .ok (.ireturn, 1) := by decide +kernel
theorem dX4_flow_93 : decode cX4_flow 93 = .ok (.aload_n 3, 1) := by decide +kernel
theorem dX4_flow_94 : decode cX4_flow 94 = .ok (.getfield 213, 3) := by decide +kernel
theorem dX4_flow_97 : decode cX4_flow 97 = .ok (.ireturn, 1) := by decide +kernel
theorem dX4_flow_98 : decode cX4_flow 98 = .ok (.sipush (-1002), 3) := by decide +kernel
theorem dX4_flow_101 : decode cX4_flow 101 = .ok (.ireturn, 1) := by decide +kernel
theorem dX4_tick_0 : decode cX4_tick 0 = .ok (.iload_n 1, 1) := by decide +kernel
theorem dX4_tick_1 : decode cX4_tick 1 = .ok (.iconst 1, 1) := by decide +kernel
theorem dX4_tick_2 : decode cX4_tick 2 = .ok (.if_icmp .lt 9, 3) := by decide +kernel
theorem dX4_tick_5 : decode cX4_tick 5 = .ok (.iload_n 1, 1) := by decide +kernel
theorem dX4_tick_6 : decode cX4_tick 6 = .ok (.bipush 50, 2) := by decide +kernel
theorem dX4_tick_8 : decode cX4_tick 8 = .ok (.if_icmp .le 7, 3) := by decide +kernel
theorem dX4_tick_11 : decode cX4_tick 11 = .ok (.sipush (-1002), 3) := by decide +kernel
theorem dX4_tick_14 : decode cX4_tick 14 = .ok (.ireturn, 1) := by decide +kernel
theorem dX4_tick_15 : decode cX4_tick 15 = .ok (.aload_n 0, 1) := by decide +kernel
theorem dX4_tick_16 : decode cX4_tick 16 = .ok (.getfield 28, 3) := by decide +kernel
theorem dX4_tick_19 : decode cX4_tick 19 = .ok (.ifCond .ne 7, 3) := by decide +kernel
theorem dX4_tick_22 : decode cX4_tick 22 = .ok (.sipush (-1003), 3) := by decide +kernel
theorem dX4_tick_25 : decode cX4_tick 25 = .ok (.ireturn, 1) := by decide +kernel
theorem dX4_tick_26 : decode cX4_tick 26 = .ok (.aload_n 0, 1) := by decide +kernel
theorem dX4_tick_27 : decode cX4_tick 27 = .ok (.iconst 4, 1) := by decide +kernel
theorem dX4_tick_28 : decode cX4_tick 28 = .ok (.invokevirtual 216, 3) := by decide +kernel
theorem dX4_tick_31 : decode cX4_tick 31 = .ok (.istore_n 2, 1) := by decide +kernel
theorem dX4_tick_32 : decode cX4_tick 32 = .ok (.iconst 0, 1) := by decide +kernel
theorem dX4_tick_33 : decode cX4_tick 33 = .ok (.istore_n 3, 1) := by decide +kernel
theorem dX4_tick_34 : decode cX4_tick 34 = .ok (.iload_n 3, 1) := by decide +kernel
theorem dX4_tick_35 : decode cX4_tick 35 = .ok (.iload_n 1, 1) := by decide +kernel
theorem dX4_tick_36 : decode cX4_tick 36 = .ok (.if_icmp .ge 13, 3) := by decide +kernel
theorem dX4_tick_39 : decode cX4_tick 39 = .ok (.aload_n 0, 1) := by decide +kernel
theorem dX4_tick_40 : decode cX4_tick 40 = .ok (.invokevirtual 219, 3) := by decide +kernel
theorem dX4_tick_43 : decode cX4_tick 43 = .ok (.iinc 3 1, 3) := by decide +kernel
theorem dX4_tick_46 : decode cX4_tick 46 = .ok (.goto (-12), 3) := by decide +kernel
theorem dX4_tick_49 : decode cX4_tick 49 = .ok (.aload_n 0, 1) := by decide +kernel
theorem dX4_tick_50 : decode cX4_tick 50 = .ok (.iconst 4, 1) := by decide +kernel
theorem dX4_tick_51 : decode cX4_tick 51 = .ok (.invokevirtual 216, 3) := by decide +kernel
theorem dX4_tick_54 : decode cX4_tick 54 = .ok (.iload_n 2, 1) := by decide +kernel
theorem dX4_tick_55 : decode cX4_tick 55 = .ok (.isub, 1) := by decide +kernel
theorem dX4_tick_56 : decode cX4_tick 56 = .ok (.ireturn, 1) := by decide +kernel
theorem dX4_count_0 : decode cX4_count 0 = .ok (.iload_n 1, 1) := by decide +kernel
theorem dX4_count_1 : decode cX4_count 1 = .ok (.tableswitch 130 0 11 #[63, 68, 76, 81, 86, 91, 96, 102, 108, 114, 120, 125], 63) := by decide +kernel
theorem dX4_count_64 : decode cX4_count 64 = .ok (.aload_n 0, 1) := by decide +kernel
theorem dX4_count_65 : decode cX4_count 65 = .ok (.getfield 28, 3) := by decide +kernel
theorem dX4_count_68 : decode cX4_count 68 = .ok (.ireturn, 1) := by decide +kernel
theorem dX4_count_69 : decode cX4_count 69 = .ok (.aload_n 0, 1) := by decide +kernel
theorem dX4_count_70 : decode cX4_count 70 = .ok (.getfield 10, 3) := by decide +kernel
theorem dX4_count_73 : decode cX4_count 73 = .ok (.getfield 56, 3) := by decide +kernel
theorem dX4_count_76 : decode cX4_count 76 = .ok (.ireturn, 1) := by decide +kernel
theorem dX4_count_77 : decode cX4_count 77 = .ok (.aload_n 0, 1) := by decide +kernel
theorem dX4_count_78 : decode cX4_count 78 = .ok (.getfield 32, 3) := by decide +kernel
theorem dX4_count_81 : decode cX4_count 81 = .ok (.ireturn, 1) := by decide +kernel
theorem dX4_count_82 : decode cX4_count 82 = .ok (.aload_n 0, 1) := by decide +kernel
theorem dX4_count_83 : decode cX4_count 83 = .ok (.getfield 35, 3) := by decide +kernel
theorem dX4_count_86 : decode cX4_count 86 = .ok (.ireturn, 1) := by decide +kernel
theorem dX4_count_87 : decode cX4_count 87 = .ok (.aload_n 0, 1) := by decide +kernel
theorem dX4_count_88 : decode cX4_count 88 = .ok (.getfield 38, 3) := by decide +kernel
theorem dX4_count_91 : decode cX4_count 91 = .ok (.ireturn, 1) := by decide +kernel
theorem dX4_count_92 : decode cX4_count 92 = .ok (.aload_n 0, 1) := by decide +kernel
theorem dX4_count_93 : decode cX4_count 93 = .ok (.getfield 41, 3) := by decide +kernel
theorem dX4_count_96 : decode cX4_count 96 = .ok (.ireturn, 1) := by decide +kernel
theorem dX4_count_97 : decode cX4_count 97 = .ok (.aload_n 0, 1) := by decide +kernel
theorem dX4_count_98 : decode cX4_count 98 = .ok (.iconst 3, 1) := by decide +kernel
theorem dX4_count_99 : decode cX4_count 99 = .ok (.invokevirtual 216, 3) := by decide +kernel
theorem dX4_count_102 : decode cX4_count 102 = .ok (.ireturn, 1) := by decide +kernel
theorem dX4_count_103 : decode cX4_count 103 = .ok (.aload_n 0, 1) := by decide +kernel
theorem dX4_count_104 : decode cX4_count 104 = .ok (.iconst 4, 1) := by decide +kernel
theorem dX4_count_105 : decode cX4_count 105 = .ok (.invokevirtual 216, 3) := by decide +kernel
theorem dX4_count_108 : decode cX4_count 108 = .ok (.ireturn, 1) := by decide +kernel
theorem dX4_count_109 : decode cX4_count 109 = .ok (.aload_n 0, 1) := by decide +kernel
theorem dX4_count_110 : decode cX4_count 110 = .ok (.iconst 5, 1) := by decide +kernel
theorem dX4_count_111 : decode cX4_count 111 = .ok (.invokevirtual 216, 3) := by decide +kernel
theorem dX4_count_114 : decode cX4_count 114 = .ok (.ireturn, 1) := by decide +kernel
theorem dX4_count_115 : decode cX4_count 115 = .ok (.aload_n 0, 1) := by decide +kernel
theorem dX4_count_116 : decode cX4_count 116 = .ok (.iconst 2, 1) := by decide +kernel
theorem dX4_count_117 : decode cX4_count 117 = .ok (.invokevirtual 216, 3) := by decide +kernel
theorem dX4_count_120 : decode cX4_count 120 = .ok (.ireturn, 1) := by decide +kernel
theorem dX4_count_121 : decode cX4_count 121 = .ok (.aload_n 0, 1) := by decide +kernel
theorem dX4_count_122 : decode cX4_count 122 = .ok (.getfield 44, 3) := by decide +kernel
theorem dX4_count_125 : decode cX4_count 125 = .ok (.ireturn, 1) := by decide +kernel
theorem dX4_count_126 : decode cX4_count 126 = .ok (.aload_n 0, 1) := by decide +kernel
theorem dX4_count_127 : decode cX4_count 127 = .ok (.getfield 47, 3) := by decide +kernel
theorem dX4_count_130 : decode cX4_count 130 = .ok (.ireturn, 1) := by decide +kernel
theorem dX4_count_131 : decode cX4_count 131 = .ok (.sipush (-1002), 3) := by decide +kernel
theorem dX4_count_134 : decode cX4_count 134 = .ok (.ireturn, 1) := by decide +kernel
theorem dX4_digest_0 : decode cX4_digest 0 = .ok (.ldc2_w 222, 3) := by decide +kernel
theorem dX4_digest_3 : decode cX4_digest 3 = .ok (.lstore_n 1, 1) := by decide +kernel
theorem dX4_digest_4 : decode cX4_digest 4 = .ok (.iconst 0, 1) := by decide +kernel
theorem dX4_digest_5 : decode cX4_digest 5 = .ok (.istore_n 3, 1) := by decide +kernel
theorem dX4_digest_6 : decode cX4_digest 6 = .ok (.iload_n 3, 1) := by decide +kernel
theorem dX4_digest_7 : decode cX4_digest 7 = .ok (.aload_n 0, 1) := by decide +kernel
theorem dX4_digest_8 : decode cX4_digest 8 = .ok (.getfield 28, 3) := by decide +kernel
theorem dX4_digest_11 : decode cX4_digest 11 = .ok (.if_icmp .ge 16, 3) := by decide +kernel
theorem dX4_digest_14 : decode cX4_digest 14 = .ok (.aload_n 0, 1) := by decide +kernel
theorem dX4_digest_15 : decode cX4_digest 15 = .ok (.lload_n 1, 1) := by decide +kernel
theorem dX4_digest_16 : decode cX4_digest 16 = .ok (.iload_n 3, 1) := by decide +kernel
theorem dX4_digest_17 : decode cX4_digest 17 = .ok (.invokevirtual 224, 3) := by decide +kernel
theorem dX4_digest_20 : decode cX4_digest 20 = .ok (.lstore_n 1, 1) := by decide +kernel
theorem dX4_digest_21 : decode cX4_digest 21 = .ok (.iinc 3 1, 3) := by decide +kernel
theorem dX4_digest_24 : decode cX4_digest 24 = .ok (.goto (-18), 3) := by decide +kernel
theorem dX4_digest_27 : decode cX4_digest 27 = .ok (.iconst 0, 1) := by decide +kernel
theorem dX4_digest_28 : decode cX4_digest 28 = .ok (.istore_n 3, 1) := by decide +kernel
theorem dX4_digest_29 : decode cX4_digest 29 = .ok (.iload_n 3, 1) := by decide +kernel
theorem dX4_digest_30 : decode cX4_digest 30 = .ok (.iconst 4, 1) := by decide +kernel
theorem dX4_digest_31 : decode cX4_digest 31 = .ok (.if_icmp .ge 37, 3) := by decide +kernel
theorem dX4_digest_34 : decode cX4_digest 34 = .ok (.iconst 0, 1) := by decide +kernel
theorem dX4_digest_35 : decode cX4_digest 35 = .ok (.istore 4, 2) := by decide +kernel
theorem dX4_digest_37 : decode cX4_digest 37 = .ok (.iload 4, 2) := by decide +kernel
theorem dX4_digest_39 : decode cX4_digest 39 = .ok (.iconst 3, 1) := by decide +kernel
theorem dX4_digest_40 : decode cX4_digest 40 = .ok (.if_icmp .gt 22, 3) := by decide +kernel
theorem dX4_digest_43 : decode cX4_digest 43 = .ok (.lload_n 1, 1) := by decide +kernel
theorem dX4_digest_44 : decode cX4_digest 44 = .ok (.aload_n 0, 1) := by decide +kernel
theorem dX4_digest_45 : decode cX4_digest 45 = .ok (.iload_n 3, 1) := by decide +kernel
theorem dX4_digest_46 : decode cX4_digest 46 = .ok (.iload 4, 2) := by decide +kernel
theorem dX4_digest_48 : decode cX4_digest 48 = .ok (.invokevirtual 228, 3) := by decide +kernel
theorem dX4_digest_51 : decode cX4_digest 51 = .ok (.i2l, 1) := by decide +kernel
theorem dX4_digest_52 : decode cX4_digest 52 = .ok (.invokestatic 231, 3) := by decide +kernel
theorem dX4_digest_55 : decode cX4_digest 55 = .ok (.lstore_n 1, 1) := by decide +kernel
theorem dX4_digest_56 : decode cX4_digest 56 = .ok (.iinc 4 1, 3) := by decide +kernel
theorem dX4_digest_59 : decode cX4_digest 59 = .ok (.goto (-22), 3) := by decide +kernel
theorem dX4_digest_62 : decode cX4_digest 62 = .ok (.iinc 3 1, 3) := by decide +kernel
theorem dX4_digest_65 : decode cX4_digest 65 = .ok (.goto (-36), 3) := by decide +kernel
theorem dX4_digest_68 : decode cX4_digest 68 = .ok (.iconst 0, 1) := by decide +kernel
theorem dX4_digest_69 : decode cX4_digest 69 = .ok (.istore_n 3, 1) := by decide +kernel
theorem dX4_digest_70 : decode cX4_digest 70 = .ok (.iload_n 3, 1) := by decide +kernel
theorem dX4_digest_71 : decode cX4_digest 71 = .ok (.bipush 12, 2) := by decide +kernel
theorem dX4_digest_73 : decode cX4_digest 73 = .ok (.if_icmp .ge 49, 3) := by decide +kernel
theorem dX4_digest_76 : decode cX4_digest 76 = .ok (.lload_n 1, 1) := by decide +kernel
theorem dX4_digest_77 : decode cX4_digest 77 = .ok (.aload_n 0, 1) := by decide +kernel
theorem dX4_digest_78 : decode cX4_digest 78 = .ok (.iload_n 3, 1) := by decide +kernel
theorem dX4_digest_79 : decode cX4_digest 79 = .ok (.invokevirtual 235, 3) := by decide +kernel
theorem dX4_digest_82 : decode cX4_digest 82 = .ok (.i2l, 1) := by decide +kernel
theorem dX4_digest_83 : decode cX4_digest 83 = .ok (.invokestatic 231, 3) := by decide +kernel
theorem dX4_digest_86 : decode cX4_digest 86 = .ok (.lstore_n 1, 1) := by decide +kernel
theorem dX4_digest_87 : decode cX4_digest 87 = .ok (.iconst 0, 1) := by decide +kernel
theorem dX4_digest_88 : decode cX4_digest 88 = .ok (.istore 4, 2) := by decide +kernel
theorem dX4_digest_90 : decode cX4_digest 90 = .ok (.iload 4, 2) := by decide +kernel
theorem dX4_digest_92 : decode cX4_digest 92 = .ok (.bipush 6, 2) := by decide +kernel
theorem dX4_digest_94 : decode cX4_digest 94 = .ok (.if_icmp .gt 22, 3) := by decide +kernel
theorem dX4_digest_97 : decode cX4_digest 97 = .ok (.lload_n 1, 1) := by decide +kernel
theorem dX4_digest_98 : decode cX4_digest 98 = .ok (.aload_n 0, 1) := by decide +kernel
theorem dX4_digest_99 : decode cX4_digest 99 = .ok (.iload_n 3, 1) := by decide +kernel
theorem dX4_digest_100 : decode cX4_digest 100 = .ok (.iload 4, 2) := by decide +kernel
theorem dX4_digest_102 : decode cX4_digest 102 = .ok (.invokevirtual 238, 3) := by decide +kernel
theorem dX4_digest_105 : decode cX4_digest 105 = .ok (.i2l, 1) := by decide +kernel
theorem dX4_digest_106 : decode cX4_digest 106 = .ok (.invokestatic 231, 3) := by decide +kernel
theorem dX4_digest_109 : decode cX4_digest 109 = .ok (.lstore_n 1, 1) := by decide +kernel
theorem dX4_digest_110 : decode cX4_digest 110 = .ok (.iinc 4 1, 3) := by decide +kernel
theorem dX4_digest_113 : decode cX4_digest 113 = .ok (.goto (-23), 3) := by decide +kernel
theorem dX4_digest_116 : decode cX4_digest 116 = .ok (.iinc 3 1, 3) := by decide +kernel
theorem dX4_digest_119 : decode cX4_digest 119 = .ok (.goto (-49), 3) := by decide +kernel
theorem dX4_digest_122 : decode cX4_digest 122 = .ok (.iconst 0, 1) := by decide +kernel
theorem dX4_digest_123 : decode cX4_digest 123 = .ok (.istore_n 3, 1) := by decide +kernel
theorem dX4_digest_124 : decode cX4_digest 124 = .ok (.iload_n 3, 1) := by decide +kernel
theorem dX4_digest_125 : decode cX4_digest 125 = .ok (.aload_n 0, 1) := by decide +kernel
theorem dX4_digest_126 : decode cX4_digest 126 = .ok (.getfield 10, 3) := by decide +kernel
theorem dX4_digest_129 : decode cX4_digest 129 = .ok (.getfield 56, 3) := by decide +kernel
theorem dX4_digest_132 : decode cX4_digest 132 = .ok (.if_icmp .ge 23, 3) := by decide +kernel
theorem dX4_digest_135 : decode cX4_digest 135 = .ok (.lload_n 1, 1) := by decide +kernel
theorem dX4_digest_136 : decode cX4_digest 136 = .ok (.aload_n 0, 1) := by decide +kernel
theorem dX4_digest_137 : decode cX4_digest 137 = .ok (.getfield 10, 3) := by decide +kernel
theorem dX4_digest_140 : decode cX4_digest 140 = .ok (.iload_n 3, 1) := by decide +kernel
theorem dX4_digest_141 : decode cX4_digest 141 = .ok (.invokevirtual 241, 3) := by decide +kernel
theorem dX4_digest_144 : decode cX4_digest 144 = .ok (.i2l, 1) := by decide +kernel
theorem dX4_digest_145 : decode cX4_digest 145 = .ok (.invokestatic 231, 3) := by decide +kernel
theorem dX4_digest_148 : decode cX4_digest 148 = .ok (.lstore_n 1, 1) := by decide +kernel
theorem dX4_digest_149 : decode cX4_digest 149 = .ok (.iinc 3 1, 3) := by decide +kernel
theorem dX4_digest_152 : decode cX4_digest 152 = .ok (.goto (-28), 3) := by decide +kernel
theorem dX4_digest_155 : decode cX4_digest 155 = .ok (.iconst 0, 1) := by decide +kernel
theorem dX4_digest_156 : decode cX4_digest 156 = .ok (.istore_n 3, 1) := by decide +kernel
theorem dX4_digest_157 : decode cX4_digest 157 = .ok (.iload_n 3, 1) := by decide +kernel
theorem dX4_digest_158 : decode cX4_digest 158 = .ok (.bipush 11, 2) := by decide +kernel
theorem dX4_digest_160 : decode cX4_digest 160 = .ok (.if_icmp .gt 20, 3) := by decide +kernel
theorem dX4_digest_163 : decode cX4_digest 163 = .ok (.lload_n 1, 1) := by decide +kernel
theorem dX4_digest_164 : decode cX4_digest 164 = .ok (.aload_n 0, 1) := by decide +kernel
theorem dX4_digest_165 : decode cX4_digest 165 = .ok (.iload_n 3, 1) := by decide +kernel
theorem dX4_digest_166 : decode cX4_digest 166 = .ok (.invokevirtual 244, 3) := by decide +kernel
theorem dX4_digest_169 : decode cX4_digest 169 = .ok (.i2l, 1) := by decide +kernel
theorem dX4_digest_170 : decode cX4_digest 170 = .ok (.invokestatic 231, 3) := by decide +kernel
theorem dX4_digest_173 : decode cX4_digest 173 = .ok (.lstore_n 1, 1) := by decide +kernel
theorem dX4_digest_174 : decode cX4_digest 174 = .ok (.iinc 3 1, 3) := by decide +kernel
theorem dX4_digest_177 : decode cX4_digest 177 = .ok (.goto (-20), 3) := by decide +kernel
theorem dX4_digest_180 : decode cX4_digest 180 = .ok (.lload_n 1, 1) := by decide +kernel
theorem dX4_digest_181 : decode cX4_digest 181 = .ok (.lreturn, 1) := by decide +kernel
theorem dX4_digestPort_0 : decode cX4_digestPort 0 = .ok (.lload_n 1, 1) := by decide +kernel
theorem dX4_digestPort_1 : decode cX4_digestPort 1 = .ok (.lstore 4, 2) := by decide +kernel
theorem dX4_digestPort_3 : decode cX4_digestPort 3 = .ok (.iconst 0, 1) := by decide +kernel
theorem dX4_digestPort_4 : decode cX4_digestPort 4 = .ok (.istore 6, 2) := by decide +kernel
theorem dX4_digestPort_6 : decode cX4_digestPort 6 = .ok (.iload 6, 2) := by decide +kernel
theorem dX4_digestPort_8 : decode cX4_digestPort 8 = .ok (.bipush 9, 2) := by decide +kernel
theorem dX4_digestPort_10 : decode cX4_digestPort 10 = .ok (.if_icmp .gt 24, 3) := by decide +kernel
theorem dX4_digestPort_13 : decode cX4_digestPort 13 = .ok (.lload 4, 2) := by decide +kernel
theorem dX4_digestPort_15 : decode cX4_digestPort 15 = .ok (.aload_n 0, 1) := by decide +kernel
theorem dX4_digestPort_16 : decode cX4_digestPort 16 = .ok (.iload_n 3, 1) := by decide +kernel
theorem dX4_digestPort_17 : decode cX4_digestPort 17 = .ok (.iload 6, 2) := by decide +kernel
theorem dX4_digestPort_19 : decode cX4_digestPort 19 = .ok (.invokevirtual 247, 3) := by decide +kernel
theorem dX4_digestPort_22 : decode cX4_digestPort 22 = .ok (.i2l, 1) := by decide +kernel
theorem dX4_digestPort_23 : decode cX4_digestPort 23 = .ok (.invokestatic 231, 3) := by decide +kernel
theorem dX4_digestPort_26 : decode cX4_digestPort 26 = .ok (.lstore 4, 2) := by decide +kernel
theorem dX4_digestPort_28 : decode cX4_digestPort 28 = .ok (.iinc 6 1, 3) := by decide +kernel
theorem dX4_digestPort_31 : decode cX4_digestPort 31 = .ok (.goto (-25), 3) := by decide +kernel
theorem dX4_digestPort_34 : decode cX4_digestPort 34 = .ok (.aload_n 0, 1) := by decide +kernel
theorem dX4_digestPort_35 : decode cX4_digestPort 35 = .ok (.iload_n 3, 1) := by decide +kernel
theorem dX4_digestPort_36 : decode cX4_digestPort 36 = .ok (.bipush 9, 2) := by decide +kernel
theorem dX4_digestPort_38 : decode cX4_digestPort 38 = .ok (.invokevirtual 247, 3) := by decide +kernel
theorem dX4_digestPort_41 : decode cX4_digestPort 41 = .ok (.istore 6, 2) := by decide +kernel
theorem dX4_digestPort_43 : decode cX4_digestPort 43 = .ok (.iconst 0, 1) := by decide +kernel
theorem dX4_digestPort_44 : decode cX4_digestPort 44 = .ok (.istore 7, 2) := by decide +kernel
theorem dX4_digestPort_46 : decode cX4_digestPort 46 = .ok (.iload 7, 2) := by decide +kernel
theorem dX4_digestPort_48 : decode cX4_digestPort 48 = .ok (.iload 6, 2) := by decide +kernel
theorem dX4_digestPort_50 : decode cX4_digestPort 50 = .ok (.if_icmp .ge 24, 3) := by decide +kernel
theorem dX4_digestPort_53 : decode cX4_digestPort 53 = .ok (.lload 4, 2) := by decide +kernel
theorem dX4_digestPort_55 : decode cX4_digestPort 55 = .ok (.aload_n 0, 1) := by decide +kernel
theorem dX4_digestPort_56 : decode cX4_digestPort 56 = .ok (.iload_n 3, 1) := by decide +kernel
theorem dX4_digestPort_57 : decode cX4_digestPort 57 = .ok (.iload 7, 2) := by decide +kernel
theorem dX4_digestPort_59 : decode cX4_digestPort 59 = .ok (.invokevirtual 250, 3) := by decide +kernel
theorem dX4_digestPort_62 : decode cX4_digestPort 62 = .ok (.i2l, 1) := by decide +kernel
theorem dX4_digestPort_63 : decode cX4_digestPort 63 = .ok (.invokestatic 231, 3) := by decide +kernel
theorem dX4_digestPort_66 : decode cX4_digestPort 66 = .ok (.lstore 4, 2) := by decide +kernel
theorem dX4_digestPort_68 : decode cX4_digestPort 68 = .ok (.iinc 7 1, 3) := by decide +kernel
theorem dX4_digestPort_71 : decode cX4_digestPort 71 = .ok (.goto (-25), 3) := by decide +kernel
theorem dX4_digestPort_74 : decode cX4_digestPort 74 = .ok (.lload 4, 2) := by decide +kernel
theorem dX4_digestPort_76 : decode cX4_digestPort 76 = .ok (.lreturn, 1) := by decide +kernel
theorem dX4_mix_0 : decode cX4_mix 0 = .ok (.ldc2_w 252, 3) := by decide +kernel
theorem dX4_mix_3 : decode cX4_mix 3 = .ok (.lload_n 0, 1) := by decide +kernel
theorem dX4_mix_4 : decode cX4_mix 4 = .ok (.lmul, 1) := by decide +kernel
theorem dX4_mix_5 : decode cX4_mix 5 = .ok (.lload_n 2, 1) := by decide +kernel
theorem dX4_mix_6 : decode cX4_mix 6 = .ok (.ladd, 1) := by decide +kernel
theorem dX4_mix_7 : decode cX4_mix 7 = .ok (.lreturn, 1) := by decide +kernel
theorem dX4_asNumber_0 : decode cX4_asNumber 0 = .ok (.iload_n 0, 1) := by decide +kernel
theorem dX4_asNumber_1 : decode cX4_asNumber 1 = .ok (.ifCond .eq 7, 3) := by decide +kernel
theorem dX4_asNumber_4 : decode cX4_asNumber 4 = .ok (.iconst 1, 1) := by decide +kernel
theorem dX4_asNumber_5 : decode cX4_asNumber 5 = .ok (.goto 4, 3) := by decide +kernel
theorem dX4_asNumber_8 : decode cX4_asNumber 8 = .ok (.iconst 0, 1) := by decide +kernel
theorem dX4_asNumber_9 : decode cX4_asNumber 9 = .ok (.ireturn, 1) := by decide +kernel
theorem dX4_isPort_0 : decode cX4_isPort 0 = .ok (.iload_n 1, 1) := by decide +kernel
theorem dX4_isPort_1 : decode cX4_isPort 1 = .ok (.ifCond .lt 21, 3) := by decide +kernel
theorem dX4_isPort_4 : decode cX4_isPort 4 = .ok (.iload_n 1, 1) := by decide +kernel
theorem dX4_isPort_5 : decode cX4_isPort 5 = .ok (.aload_n 0, 1) := by decide +kernel
theorem dX4_isPort_6 : decode cX4_isPort 6 = .ok (.getfield 28, 3) := by decide +kernel
theorem dX4_isPort_9 : decode cX4_isPort 9 = .ok (.if_icmp .ge 13, 3) := by decide +kernel
theorem dX4_isPort_12 : decode cX4_isPort 12 = .ok (.iload_n 1, 1) := by decide +kernel
theorem dX4_isPort_13 : decode cX4_isPort 13 = .ok (.bipush 6, 2) := by decide +kernel
theorem dX4_isPort_15 : decode cX4_isPort 15 = .ok (.if_icmp .ge 7, 3) := by decide +kernel
theorem dX4_isPort_18 : decode cX4_isPort 18 = .ok (.iconst 1, 1) := by decide +kernel
theorem dX4_isPort_19 : decode cX4_isPort 19 = .ok (.goto 4, 3) := by decide +kernel
theorem dX4_isPort_22 : decode cX4_isPort 22 = .ok (.iconst 0, 1) := by decide +kernel
theorem dX4_isPort_23 : decode cX4_isPort 23 = .ok (.ireturn, 1) := by decide +kernel
theorem dX4_isKey_0 : decode cX4_isKey 0 = .ok (.iload_n 0, 1) := by decide +kernel
theorem dX4_isKey_1 : decode cX4_isKey 1 = .ok (.ifCond .lt 12, 3) := by decide +kernel
theorem dX4_isKey_4 : decode cX4_isKey 4 = .ok (.iload_n 0, 1) := by decide +kernel
theorem dX4_isKey_5 : decode cX4_isKey 5 = .ok (.iconst 4, 1) := by decide +kernel
theorem dX4_isKey_6 : decode cX4_isKey 6 = .ok (.if_icmp .ge 7, 3) := by decide +kernel
theorem dX4_isKey_9 : decode cX4_isKey 9 = .ok (.iconst 1, 1) := by decide +kernel
theorem dX4_isKey_10 : decode cX4_isKey 10 = .ok (.goto 4, 3) := by decide +kernel
theorem dX4_isKey_13 : decode cX4_isKey 13 = .ok (.iconst 0, 1) := by decide +kernel
theorem dX4_isKey_14 : decode cX4_isKey 14 = .ok (.ireturn, 1) := by decide +kernel
theorem dX4_isFlow_0 : decode cX4_isFlow 0 = .ok (.iload_n 0, 1) := by decide +kernel
theorem dX4_isFlow_1 : decode cX4_isFlow 1 = .ok (.ifCond .lt 13, 3) := by decide +kernel
theorem dX4_isFlow_4 : decode cX4_isFlow 4 = .ok (.iload_n 0, 1) := by decide +kernel
theorem dX4_isFlow_5 : decode cX4_isFlow 5 = .ok (.bipush 12, 2) := by decide +kernel
theorem dX4_isFlow_7 : decode cX4_isFlow 7 = .ok (.if_icmp .ge 7, 3) := by decide +kernel
theorem dX4_isFlow_10 : decode cX4_isFlow 10 = .ok (.iconst 1, 1) := by decide +kernel
theorem dX4_isFlow_11 : decode cX4_isFlow 11 = .ok (.goto 4, 3) := by decide +kernel
theorem dX4_isFlow_14 : decode cX4_isFlow 14 = .ok (.iconst 0, 1) := by decide +kernel
theorem dX4_isFlow_15 : decode cX4_isFlow 15 = .ok (.ireturn, 1) := by decide +kernel
theorem dX4_changeWidth_0 : decode cX4_changeWidth 0 = .ok (.iload_n 1, 1) := by decide +kernel
theorem dX4_changeWidth_1 : decode cX4_changeWidth 1 = .ok (.iconst 1, 1) := by decide +kernel
theorem dX4_changeWidth_2 : decode cX4_changeWidth 2 = .ok (.if_icmp .lt 9, 3) := by decide +kernel
theorem dX4_changeWidth_5 : decode cX4_changeWidth 5 = .ok (.iload_n 1, 1) := by decide +kernel
theorem dX4_changeWidth_6 : decode cX4_changeWidth 6 = .ok (.bipush 6, 2) := by decide +kernel
theorem dX4_changeWidth_8 : decode cX4_changeWidth 8 = .ok (.if_icmp .le 7, 3) := by decide +kernel
theorem dX4_changeWidth_11 : decode cX4_changeWidth 11 = .ok (.sipush (-1002), 3) := by decide +kernel
theorem dX4_changeWidth_14 : decode cX4_changeWidth 14 = .ok (.ireturn, 1) := by decide +kernel
theorem dX4_changeWidth_15 : decode cX4_changeWidth 15 = .ok (.aload_n 0, 1) := by decide +kernel
theorem dX4_changeWidth_16 : decode cX4_changeWidth 16 = .ok (.getfield 32, 3) := by decide +kernel
theorem dX4_changeWidth_19 : decode cX4_changeWidth 19 = .ok (.istore_n 2, 1) := by decide +kernel
theorem dX4_changeWidth_20 : decode cX4_changeWidth 20 = .ok (.aload_n 0, 1) := by decide +kernel
theorem dX4_changeWidth_21 : decode cX4_changeWidth 21 = .ok (.iload_n 1, 1) := by decide +kernel
theorem dX4_changeWidth_22 : decode cX4_changeWidth 22 = .ok (.putfield 32, 3) := by decide +kernel
theorem dX4_changeWidth_25 : decode cX4_changeWidth 25 = .ok (.aload_n 0, 1) := by decide +kernel
theorem dX4_changeWidth_26 : decode cX4_changeWidth 26 = .ok (.invokevirtual 98, 3) := by decide +kernel
theorem dX4_changeWidth_29 : decode cX4_changeWidth 29 = .ok (.iload_n 2, 1) := by decide +kernel
theorem dX4_changeWidth_30 : decode cX4_changeWidth 30 = .ok (.ireturn, 1) := by decide +kernel
theorem dX4_changeWait_0 : decode cX4_changeWait 0 = .ok (.iload_n 1, 1) := by decide +kernel
theorem dX4_changeWait_1 : decode cX4_changeWait 1 = .ok (.ifCond .lt 9, 3) := by decide +kernel
theorem dX4_changeWait_4 : decode cX4_changeWait 4 = .ok (.iload_n 1, 1) := by decide +kernel
theorem dX4_changeWait_5 : decode cX4_changeWait 5 = .ok (.bipush 9, 2) := by decide +kernel
theorem dX4_changeWait_7 : decode cX4_changeWait 7 = .ok (.if_icmp .le 7, 3) := by decide +kernel
theorem dX4_changeWait_10 : decode cX4_changeWait 10 = .ok (.sipush (-1002), 3) := by decide +kernel
theorem dX4_changeWait_13 : decode cX4_changeWait 13 = .ok (.ireturn, 1) := by decide +kernel
theorem dX4_changeWait_14 : decode cX4_changeWait 14 = .ok (.aload_n 0, 1) := by decide +kernel
theorem dX4_changeWait_15 : decode cX4_changeWait 15 = .ok (.getfield 35, 3) := by decide +kernel
theorem dX4_changeWait_18 : decode cX4_changeWait 18 = .ok (.istore_n 2, 1) := by decide +kernel
theorem dX4_changeWait_19 : decode cX4_changeWait 19 = .ok (.aload_n 0, 1) := by decide +kernel
theorem dX4_changeWait_20 : decode cX4_changeWait 20 = .ok (.iload_n 1, 1) := by decide +kernel
theorem dX4_changeWait_21 : decode cX4_changeWait 21 = .ok (.putfield 35, 3) := by decide +kernel
theorem dX4_changeWait_24 : decode cX4_changeWait 24 = .ok (.iload_n 2, 1) := by decide +kernel
theorem dX4_changeWait_25 : decode cX4_changeWait 25 = .ok (.ireturn, 1) := by decide +kernel
theorem dX4_changeShift_0 : decode cX4_changeShift 0 = .ok (.iload_n 1, 1) := by decide +kernel
theorem dX4_changeShift_1 : decode cX4_changeShift 1 = .ok (.ifCond .lt 9, 3) := by decide +kernel
theorem dX4_changeShift_4 : decode cX4_changeShift 4 = .ok (.iload_n 1, 1) := by decide +kernel
theorem dX4_changeShift_5 : decode cX4_changeShift 5 = .ok (.bipush 9, 2) := by decide +kernel
theorem dX4_changeShift_7 : decode cX4_changeShift 7 = .ok (.if_icmp .le 7, 3) := by decide +kernel
theorem dX4_changeShift_10 : decode cX4_changeShift 10 = .ok (.sipush (-1002), 3) := by decide +kernel
theorem dX4_changeShift_13 : decode cX4_changeShift 13 = .ok (.ireturn, 1) := by decide +kernel
theorem dX4_changeShift_14 : decode cX4_changeShift 14 = .ok (.aload_n 0, 1) := by decide +kernel
theorem dX4_changeShift_15 : decode cX4_changeShift 15 = .ok (.getfield 38, 3) := by decide +kernel
theorem dX4_changeShift_18 : decode cX4_changeShift 18 = .ok (.istore_n 2, 1) := by decide +kernel
theorem dX4_changeShift_19 : decode cX4_changeShift 19 = .ok (.aload_n 0, 1) := by decide +kernel
theorem dX4_changeShift_20 : decode cX4_changeShift 20 = .ok (.iload_n 1, 1) := by decide +kernel
theorem dX4_changeShift_21 : decode cX4_changeShift 21 = .ok (.putfield 38, 3) := by decide +kernel
theorem dX4_changeShift_24 : decode cX4_changeShift 24 = .ok (.iload_n 2, 1) := by decide +kernel
theorem dX4_changeShift_25 : decode cX4_changeShift 25 = .ok (.ireturn, 1) := by decide +kernel
theorem dX4_chooseAll_0 : decode cX4_chooseAll 0 = .ok (.iconst 0, 1) := by decide +kernel
theorem dX4_chooseAll_1 : decode cX4_chooseAll 1 = .ok (.istore_n 1, 1) := by decide +kernel
theorem dX4_chooseAll_2 : decode cX4_chooseAll 2 = .ok (.iload_n 1, 1) := by decide +kernel
theorem dX4_chooseAll_3 : decode cX4_chooseAll 3 = .ok (.iconst 4, 1) := by decide +kernel
theorem dX4_chooseAll_4 : decode cX4_chooseAll 4 = .ok (.if_icmp .ge 14, 3) := by decide +kernel
theorem dX4_chooseAll_7 : decode cX4_chooseAll 7 = .ok (.aload_n 0, 1) := by decide +kernel
theorem dX4_chooseAll_8 : decode cX4_chooseAll 8 = .ok (.iload_n 1, 1) := by decide +kernel
theorem dX4_chooseAll_9 : decode cX4_chooseAll 9 = .ok (.invokevirtual 254, 3) := by decide +kernel
theorem dX4_chooseAll_12 : decode cX4_chooseAll 12 = .ok (.iinc 1 1, 3) := by decide +kernel
theorem dX4_chooseAll_15 : decode cX4_chooseAll 15 = .ok (.goto (-13), 3) := by decide +kernel
theorem dX4_chooseAll_18 : decode cX4_chooseAll 18 = .ok (.return_, 1) := by decide +kernel
theorem dX4_chooseOfKey_0 : decode cX4_chooseOfKey 0 = .ok (.aload_n 0, 1) := by decide +kernel
theorem dX4_chooseOfKey_1 : decode cX4_chooseOfKey 1 = .ok (.iload_n 1, 1) := by decide +kernel
theorem dX4_chooseOfKey_2 : decode cX4_chooseOfKey 2 = .ok (.invokevirtual 168, 3) := by decide +kernel
theorem dX4_chooseOfKey_5 : decode cX4_chooseOfKey 5 = .ok (.istore_n 2, 1) := by decide +kernel
theorem dX4_chooseOfKey_6 : decode cX4_chooseOfKey 6 = .ok (.iconst 0, 1) := by decide +kernel
theorem dX4_chooseOfKey_7 : decode cX4_chooseOfKey 7 = .ok (.istore_n 3, 1) := by decide +kernel
theorem dX4_chooseOfKey_8 : decode cX4_chooseOfKey 8 = .ok (.iload_n 3, 1) := by decide +kernel
theorem dX4_chooseOfKey_9 : decode cX4_chooseOfKey 9 = .ok (.aload_n 0, 1) := by decide +kernel
theorem dX4_chooseOfKey_10 : decode cX4_chooseOfKey 10 = .ok (.getfield 28, 3) := by decide +kernel
theorem dX4_chooseOfKey_13 : decode cX4_chooseOfKey 13 = .ok (.if_icmp .ge 60, 3) := by decide +kernel
theorem dX4_chooseOfKey_16 : decode cX4_chooseOfKey 16 = .ok (.aload_n 0, 1) := by decide +kernel
theorem dX4_chooseOfKey_17 : decode cX4_chooseOfKey 17 = .ok (.getfield 18, 3) := by decide +kernel
theorem dX4_chooseOfKey_20 : decode cX4_chooseOfKey 20 = .ok (.iload_n 3, 1) := by decide +kernel
theorem dX4_chooseOfKey_21 : decode cX4_chooseOfKey 21 = .ok (.aaload, 1) := by decide +kernel
theorem dX4_chooseOfKey_22 : decode cX4_chooseOfKey 22 = .ok (.getfield 131, 3) := by decide +kernel
theorem dX4_chooseOfKey_25 : decode cX4_chooseOfKey 25 = .ok (.iload_n 1, 1) := by decide +kernel
theorem dX4_chooseOfKey_26 : decode cX4_chooseOfKey 26 = .ok (.if_icmp .ne 41, 3) := by decide +kernel
theorem dX4_chooseOfKey_29 : decode cX4_chooseOfKey 29 = .ok (.aload_n 0, 1) := by decide +kernel
theorem dX4_chooseOfKey_30 : decode cX4_chooseOfKey 30 = .ok (.getfield 18, 3) := by decide +kernel
theorem dX4_chooseOfKey_33 : decode cX4_chooseOfKey 33 = .ok (.iload_n 3, 1) := by decide +kernel
theorem dX4_chooseOfKey_34 : decode cX4_chooseOfKey 34 = .ok (.aaload, 1) := by decide +kernel
theorem dX4_chooseOfKey_35 : decode cX4_chooseOfKey 35 = .ok (.aload_n 0, 1) := by decide +kernel
theorem dX4_chooseOfKey_36 : decode cX4_chooseOfKey 36 = .ok (.iload_n 3, 1) := by decide +kernel
theorem dX4_chooseOfKey_37 : decode cX4_chooseOfKey 37 = .ok (.iload_n 2, 1) := by decide +kernel
theorem dX4_chooseOfKey_38 : decode cX4_chooseOfKey 38 = .ok (.invokevirtual 257, 3) := by decide +kernel
theorem dX4_chooseOfKey_41 : decode cX4_chooseOfKey 41 = .ok (.putfield 260, 3) := by decide +kernel
theorem dX4_chooseOfKey_44 : decode cX4_chooseOfKey 44 = .ok (.aload_n 0, 1) := by decide +kernel
theorem dX4_chooseOfKey_45 : decode cX4_chooseOfKey 45 = .ok (.getfield 18, 3) := by decide +kernel
theorem dX4_chooseOfKey_48 : decode cX4_chooseOfKey 48 = .ok (.iload_n 3, 1) := by decide +kernel
theorem dX4_chooseOfKey_49 : decode cX4_chooseOfKey 49 = .ok (.aaload, 1) := by decide +kernel
theorem dX4_chooseOfKey_50 : decode cX4_chooseOfKey 50 = .ok (.getfield 260, 3) := by decide +kernel
theorem dX4_chooseOfKey_53 : decode cX4_chooseOfKey 53 = .ok (.iconst 2, 1) := by decide +kernel
theorem dX4_chooseOfKey_54 : decode cX4_chooseOfKey 54 = .ok (.if_icmp .eq 13, 3) := by decide +kernel
theorem dX4_chooseOfKey_57 : decode cX4_chooseOfKey 57 = .ok (.aload_n 0, 1) := by decide +kernel
theorem dX4_chooseOfKey_58 : decode cX4_chooseOfKey 58 = .ok (.getfield 18, 3) := by decide +kernel
theorem dX4_chooseOfKey_61 : decode cX4_chooseOfKey 61 = .ok (.iload_n 3, 1) := by decide +kernel
theorem dX4_chooseOfKey_62 : decode cX4_chooseOfKey 62 = .ok (.aaload, 1) := by decide +kernel
theorem dX4_chooseOfKey_63 : decode cX4_chooseOfKey 63 = .ok (.iconst 0, 1) := by decide +kernel
theorem dX4_chooseOfKey_64 : decode cX4_chooseOfKey 64 = .ok (.putfield 150, 3) := by decide +kernel
theorem dX4_chooseOfKey_67 : decode cX4_chooseOfKey 67 = .ok (.iinc 3 1, 3) := by decide +kernel
theorem dX4_chooseOfKey_70 : decode cX4_chooseOfKey 70 = .ok (.goto (-62), 3) := by decide +kernel
theorem dX4_chooseOfKey_73 : decode cX4_chooseOfKey 73 = .ok (.return_, 1) := by decide +kernel
theorem dX4_choiceOf_0 : decode cX4_choiceOf 0 = .ok (.aload_n 0, 1) := by decide +kernel
theorem dX4_choiceOf_1 : decode cX4_choiceOf 1 = .ok (.iload_n 2, 1) := by decide +kernel
theorem dX4_choiceOf_2 : decode cX4_choiceOf 2 = .ok (.invokevirtual 92, 3) := by decide +kernel
theorem dX4_choiceOf_5 : decode cX4_choiceOf 5 = .ok (.ifCond .eq 21, 3) := by decide +kernel
theorem dX4_choiceOf_8 : decode cX4_choiceOf 8 = .ok (.aload_n 0, 1) := by decide +kernel
theorem dX4_choiceOf_9 : decode cX4_choiceOf 9 = .ok (.getfield 18, 3) := by decide +kernel
theorem dX4_choiceOf_12 : decode cX4_choiceOf 12 = .ok (.iload_n 1, 1) := by decide +kernel
theorem dX4_choiceOf_13 : decode cX4_choiceOf 13 = .ok (.aaload, 1) := by decide +kernel
theorem dX4_choiceOf_14 : decode cX4_choiceOf 14 = .ok (.aload_n 0, 1) := by decide +kernel
theorem dX4_choiceOf_15 : decode cX4_choiceOf 15 = .ok (.getfield 18, 3) := by decide +kernel
theorem dX4_choiceOf_18 : decode cX4_choiceOf 18 = .ok (.iload_n 2, 1) := by decide +kernel
theorem dX4_choiceOf_19 : decode cX4_choiceOf 19 = .ok (.aaload, 1) := by decide +kernel
theorem dX4_choiceOf_20 : decode cX4_choiceOf 20 = .ok (.invokevirtual 263, 3) := by decide +kernel
theorem dX4_choiceOf_23 : decode cX4_choiceOf 23 = .ok (.ifCond .ne 5, 3) := by decide +kernel
theorem dX4_choiceOf_26 : decode cX4_choiceOf 26 = .ok (.iconst 0, 1) := by decide +kernel
theorem dX4_choiceOf_27 : decode cX4_choiceOf 27 = .ok (.ireturn, 1) := by decide +kernel
theorem dX4_choiceOf_28 : decode cX4_choiceOf 28 = .ok (.iconst 0, 1) := by decide +kernel
theorem dX4_choiceOf_29 : decode cX4_choiceOf 29 = .ok (.istore_n 3, 1) := by decide +kernel
theorem dX4_choiceOf_30 : decode cX4_choiceOf 30 = .ok (.iconst 0, 1) := by decide +kernel
theorem dX4_choiceOf_31 : decode cX4_choiceOf 31 = .ok (.istore 4, 2) := by decide +kernel
theorem dX4_choiceOf_33 : decode cX4_choiceOf 33 = .ok (.iload 4, 2) := by decide +kernel
theorem dX4_choiceOf_35 : decode cX4_choiceOf 35 = .ok (.aload_n 0, 1) := by decide +kernel
theorem dX4_choiceOf_36 : decode cX4_choiceOf 36 = .ok (.getfield 28, 3) := by decide +kernel
theorem dX4_choiceOf_39 : decode cX4_choiceOf 39 = .ok (.if_icmp .ge 41, 3) := by decide +kernel
theorem dX4_choiceOf_42 : decode cX4_choiceOf 42 = .ok (.aload_n 0, 1) := by decide +kernel
theorem dX4_choiceOf_43 : decode cX4_choiceOf 43 = .ok (.getfield 18, 3) := by decide +kernel
theorem dX4_choiceOf_46 : decode cX4_choiceOf 46 = .ok (.iload 4, 2) := by decide +kernel
theorem dX4_choiceOf_48 : decode cX4_choiceOf 48 = .ok (.aaload, 1) := by decide +kernel
theorem dX4_choiceOf_49 : decode cX4_choiceOf 49 = .ok (.aload_n 0, 1) := by decide +kernel
theorem dX4_choiceOf_50 : decode cX4_choiceOf 50 = .ok (.getfield 18, 3) := by decide +kernel
theorem dX4_choiceOf_53 : decode cX4_choiceOf 53 = .ok (.iload_n 2, 1) := by decide +kernel
theorem dX4_choiceOf_54 : decode cX4_choiceOf 54 = .ok (.aaload, 1) := by decide +kernel
theorem dX4_choiceOf_55 : decode cX4_choiceOf 55 = .ok (.invokevirtual 263, 3) := by decide +kernel
theorem dX4_choiceOf_58 : decode cX4_choiceOf 58 = .ok (.ifCond .eq 16, 3) := by decide +kernel
theorem dX4_choiceOf_61 : decode cX4_choiceOf 61 = .ok (.aload_n 0, 1) := by decide +kernel
theorem dX4_choiceOf_62 : decode cX4_choiceOf 62 = .ok (.iload 4, 2) := by decide +kernel
theorem dX4_choiceOf_64 : decode cX4_choiceOf 64 = .ok (.iload_n 1, 1) := by decide +kernel
theorem dX4_choiceOf_65 : decode cX4_choiceOf 65 = .ok (.invokevirtual 266, 3) := by decide +kernel
theorem dX4_choiceOf_68 : decode cX4_choiceOf 68 = .ok (.ifCond .eq 6, 3) := by decide +kernel
theorem dX4_choiceOf_71 : decode cX4_choiceOf 71 = .ok (.iinc 3 1, 3) := by decide +kernel
theorem dX4_choiceOf_74 : decode cX4_choiceOf 74 = .ok (.iinc 4 1, 3) := by decide +kernel
theorem dX4_choiceOf_77 : decode cX4_choiceOf 77 = .ok (.goto (-44), 3) := by decide +kernel
theorem dX4_choiceOf_80 : decode cX4_choiceOf 80 = .ok (.iload_n 3, 1) := by decide +kernel
theorem dX4_choiceOf_81 : decode cX4_choiceOf 81 = .ok (.aload_n 0, 1) := by decide +kernel
theorem dX4_choiceOf_82 : decode cX4_choiceOf 82 = .ok (.getfield 32, 3) := by decide +kernel
theorem dX4_choiceOf_85 : decode cX4_choiceOf 85 = .ok (.if_icmp .ge 7, 3) := by decide +kernel
theorem dX4_choiceOf_88 : decode cX4_choiceOf 88 = .ok (.iconst 2, 1) := by decide +kernel
theorem dX4_choiceOf_89 : decode cX4_choiceOf 89 = .ok (.goto 4, 3) := by decide +kernel
theorem dX4_choiceOf_92 : decode cX4_choiceOf 92 = .ok (.iconst 1, 1) := by decide +kernel
theorem dX4_choiceOf_93 : decode cX4_choiceOf 93 = .ok (.ireturn, 1) := by decide +kernel
theorem dX4_leadOf_0 : decode cX4_leadOf 0 = .ok (.iconst (-1), 1) := by decide +kernel
theorem dX4_leadOf_1 : decode cX4_leadOf 1 = .ok (.istore_n 2, 1) := by decide +kernel
theorem dX4_leadOf_2 : decode cX4_leadOf 2 = .ok (.iconst 0, 1) := by decide +kernel
theorem dX4_leadOf_3 : decode cX4_leadOf 3 = .ok (.istore_n 3, 1) := by decide +kernel
theorem dX4_leadOf_4 : decode cX4_leadOf 4 = .ok (.iload_n 3, 1) := by decide +kernel
theorem dX4_leadOf_5 : decode cX4_leadOf 5 = .ok (.aload_n 0, 1) := by decide +kernel
theorem dX4_leadOf_6 : decode cX4_leadOf 6 = .ok (.getfield 28, 3) := by decide +kernel
theorem dX4_leadOf_9 : decode cX4_leadOf 9 = .ok (.if_icmp .ge 50, 3) := by decide +kernel
theorem dX4_leadOf_12 : decode cX4_leadOf 12 = .ok (.aload_n 0, 1) := by decide +kernel
theorem dX4_leadOf_13 : decode cX4_leadOf 13 = .ok (.getfield 18, 3) := by decide +kernel
theorem dX4_leadOf_16 : decode cX4_leadOf 16 = .ok (.iload_n 3, 1) := by decide +kernel
theorem dX4_leadOf_17 : decode cX4_leadOf 17 = .ok (.aaload, 1) := by decide +kernel
theorem dX4_leadOf_18 : decode cX4_leadOf 18 = .ok (.getfield 131, 3) := by decide +kernel
theorem dX4_leadOf_21 : decode cX4_leadOf 21 = .ok (.iload_n 1, 1) := by decide +kernel
theorem dX4_leadOf_22 : decode cX4_leadOf 22 = .ok (.if_icmp .ne 31, 3) := by decide +kernel
theorem dX4_leadOf_25 : decode cX4_leadOf 25 = .ok (.aload_n 0, 1) := by decide +kernel
theorem dX4_leadOf_26 : decode cX4_leadOf 26 = .ok (.getfield 18, 3) := by decide +kernel
theorem dX4_leadOf_29 : decode cX4_leadOf 29 = .ok (.iload_n 3, 1) := by decide +kernel
theorem dX4_leadOf_30 : decode cX4_leadOf 30 = .ok (.aaload, 1) := by decide +kernel
theorem dX4_leadOf_31 : decode cX4_leadOf 31 = .ok (.getfield 109, 3) := by decide +kernel
theorem dX4_leadOf_34 : decode cX4_leadOf 34 = .ok (.ifCond .eq 19, 3) := by decide +kernel
theorem dX4_leadOf_37 : decode cX4_leadOf 37 = .ok (.iload_n 2, 1) := by decide +kernel
theorem dX4_leadOf_38 : decode cX4_leadOf 38 = .ok (.iconst (-1), 1) := by decide +kernel
theorem dX4_leadOf_39 : decode cX4_leadOf 39 = .ok (.if_icmp .eq 12, 3) := by decide +kernel
theorem dX4_leadOf_42 : decode cX4_leadOf 42 = .ok (.aload_n 0, 1) := by decide +kernel
theorem dX4_leadOf_43 : decode cX4_leadOf 43 = .ok (.iload_n 3, 1) := by decide +kernel
theorem dX4_leadOf_44 : decode cX4_leadOf 44 = .ok (.iload_n 2, 1) := by decide +kernel
theorem dX4_leadOf_45 : decode cX4_leadOf 45 = .ok (.invokevirtual 266, 3) := by decide +kernel
theorem dX4_leadOf_48 : decode cX4_leadOf 48 = .ok (.ifCond .eq 5, 3) := by decide +kernel
theorem dX4_leadOf_51 : decode cX4_leadOf 51 = .ok (.iload_n 3, 1) := by decide +kernel
theorem dX4_leadOf_52 : decode cX4_leadOf 52 = .ok (.istore_n 2, 1) := by decide +kernel
theorem dX4_leadOf_53 : decode cX4_leadOf 53 = .ok (.iinc 3 1, 3) := by decide +kernel
theorem dX4_leadOf_56 : decode cX4_leadOf 56 = .ok (.goto (-52), 3) := by decide +kernel
theorem dX4_leadOf_59 : decode cX4_leadOf 59 = .ok (.iload_n 2, 1) := by decide +kernel
theorem dX4_leadOf_60 : decode cX4_leadOf 60 = .ok (.ireturn, 1) := by decide +kernel
theorem dX4_isAhead_0 : decode cX4_isAhead 0 = .ok (.aload_n 0, 1) := by decide +kernel
theorem dX4_isAhead_1 : decode cX4_isAhead 1 = .ok (.getfield 18, 3) := by decide +kernel
theorem dX4_isAhead_4 : decode cX4_isAhead 4 = .ok (.iload_n 1, 1) := by decide +kernel
theorem dX4_isAhead_5 : decode cX4_isAhead 5 = .ok (.aaload, 1) := by decide +kernel
theorem dX4_isAhead_6 : decode cX4_isAhead 6 = .ok (.getfield 95, 3) := by decide +kernel
theorem dX4_isAhead_9 : decode cX4_isAhead 9 = .ok (.aload_n 0, 1) := by decide +kernel
theorem dX4_isAhead_10 : decode cX4_isAhead 10 = .ok (.getfield 18, 3) := by decide +kernel
theorem dX4_isAhead_13 : decode cX4_isAhead 13 = .ok (.iload_n 2, 1) := by decide +kernel
theorem dX4_isAhead_14 : decode cX4_isAhead 14 = .ok (.aaload, 1) := by decide +kernel
theorem dX4_isAhead_15 : decode cX4_isAhead 15 = .ok (.getfield 95, 3) := by decide +kernel
theorem dX4_isAhead_18 : decode cX4_isAhead 18 = .ok (.if_icmp .eq 30, 3) := by decide +kernel
theorem dX4_isAhead_21 : decode cX4_isAhead 21 = .ok (.aload_n 0, 1) := by decide +kernel
theorem dX4_isAhead_22 : decode cX4_isAhead 22 = .ok (.getfield 18, 3) := by decide +kernel
theorem dX4_isAhead_25 : decode cX4_isAhead 25 = .ok (.iload_n 1, 1) := by decide +kernel
theorem dX4_isAhead_26 : decode cX4_isAhead 26 = .ok (.aaload, 1) := by decide +kernel
theorem dX4_isAhead_27 : decode cX4_isAhead 27 = .ok (.getfield 95, 3) := by decide +kernel
theorem dX4_isAhead_30 : decode cX4_isAhead 30 = .ok (.aload_n 0, 1) := by decide +kernel
theorem dX4_isAhead_31 : decode cX4_isAhead 31 = .ok (.getfield 18, 3) := by decide +kernel
theorem dX4_isAhead_34 : decode cX4_isAhead 34 = .ok (.iload_n 2, 1) := by decide +kernel
theorem dX4_isAhead_35 : decode cX4_isAhead 35 = .ok (.aaload, 1) := by decide +kernel
theorem dX4_isAhead_36 : decode cX4_isAhead 36 = .ok (.getfield 95, 3) := by decide +kernel
theorem dX4_isAhead_39 : decode cX4_isAhead 39 = .ok (.if_icmp .ge 7, 3) := by decide +kernel
theorem dX4_isAhead_42 : decode cX4_isAhead 42 = .ok (.iconst 1, 1) := by decide +kernel
theorem dX4_isAhead_43 : decode cX4_isAhead 43 = .ok (.goto 4, 3) := by decide +kernel
theorem dX4_isAhead_46 : decode cX4_isAhead 46 = .ok (.iconst 0, 1) := by decide +kernel
theorem dX4_isAhead_47 : decode cX4_isAhead 47 = .ok (.ireturn, 1) := by decide +kernel
theorem dX4_isAhead_48 : decode cX4_isAhead 48 = .ok (.iload_n 1, 1) := by decide +kernel
theorem dX4_isAhead_49 : decode cX4_isAhead 49 = .ok (.iload_n 2, 1) := by decide +kernel
theorem dX4_isAhead_50 : decode cX4_isAhead 50 = .ok (.if_icmp .ge 7, 3) := by decide +kernel
theorem dX4_isAhead_53 : decode cX4_isAhead 53 = .ok (.iconst 1, 1) := by decide +kernel
theorem dX4_isAhead_54 : decode cX4_isAhead 54 = .ok (.goto 4, 3) := by decide +kernel
theorem dX4_isAhead_57 : decode cX4_isAhead 57 = .ok (.iconst 0, 1) := by decide +kernel
theorem dX4_isAhead_58 : decode cX4_isAhead 58 = .ok (.ireturn, 1) := by decide +kernel
theorem dX4_howItIs_0 : decode cX4_howItIs 0 = .ok (.aload_n 1, 1) := by decide +kernel
theorem dX4_howItIs_1 : decode cX4_howItIs 1 = .ok (.getfield 260, 3) := by decide +kernel
theorem dX4_howItIs_4 : decode cX4_howItIs 4 = .ok (.iconst 2, 1) := by decide +kernel
theorem dX4_howItIs_5 : decode cX4_howItIs 5 = .ok (.if_icmp .ne 14, 3) := by decide +kernel
theorem dX4_howItIs_8 : decode cX4_howItIs 8 = .ok (.aload_n 1, 1) := by decide +kernel
theorem dX4_howItIs_9 : decode cX4_howItIs 9 = .ok (.getfield 150, 3) := by decide +kernel
theorem dX4_howItIs_12 : decode cX4_howItIs 12 = .ok (.aload_n 0, 1) := by decide +kernel
theorem dX4_howItIs_13 : decode cX4_howItIs 13 = .ok (.getfield 35, 3) := by decide +kernel
theorem dX4_howItIs_16 : decode cX4_howItIs 16 = .ok (.if_icmp .ge 8, 3) := by decide +kernel
theorem dX4_howItIs_19 : decode cX4_howItIs 19 = .ok (.aload_n 1, 1) := by decide +kernel
theorem dX4_howItIs_20 : decode cX4_howItIs 20 = .ok (.getfield 260, 3) := by decide +kernel
theorem dX4_howItIs_23 : decode cX4_howItIs 23 = .ok (.ireturn, 1) := by decide +kernel
theorem dX4_howItIs_24 : decode cX4_howItIs 24 = .ok (.aload_n 1, 1) := by decide +kernel
theorem dX4_howItIs_25 : decode cX4_howItIs 25 = .ok (.getfield 140, 3) := by decide +kernel
theorem dX4_howItIs_28 : decode cX4_howItIs 28 = .ok (.ifCond .eq 7, 3) := by decide +kernel
theorem dX4_howItIs_31 : decode cX4_howItIs 31 = .ok (.iconst 4, 1) := by decide +kernel
theorem dX4_howItIs_32 : decode cX4_howItIs 32 = .ok (.goto 4, 3) := by decide +kernel
theorem dX4_howItIs_35 : decode cX4_howItIs 35 = .ok (.iconst 3, 1) := by decide +kernel
theorem dX4_howItIs_36 : decode cX4_howItIs 36 = .ok (.ireturn, 1) := by decide +kernel
theorem dX4_carries_0 : decode cX4_carries 0 = .ok (.aload_n 0, 1) := by decide +kernel
theorem dX4_carries_1 : decode cX4_carries 1 = .ok (.aload_n 1, 1) := by decide +kernel
theorem dX4_carries_2 : decode cX4_carries 2 = .ok (.invokevirtual 146, 3) := by decide +kernel
theorem dX4_carries_5 : decode cX4_carries 5 = .ok (.iconst 4, 1) := by decide +kernel
theorem dX4_carries_6 : decode cX4_carries 6 = .ok (.if_icmp .ne 7, 3) := by decide +kernel
theorem dX4_carries_9 : decode cX4_carries 9 = .ok (.iconst 1, 1) := by decide +kernel
theorem dX4_carries_10 : decode cX4_carries 10 = .ok (.goto 4, 3) := by decide +kernel
theorem dX4_carries_13 : decode cX4_carries 13 = .ok (.iconst 0, 1) := by decide +kernel
theorem dX4_carries_14 : decode cX4_carries 14 = .ok (.ireturn, 1) := by decide +kernel
theorem dX4_bitsOf_0 : decode cX4_bitsOf 0 = .ok (.iconst 0, 1) := by decide +kernel
theorem dX4_bitsOf_1 : decode cX4_bitsOf 1 = .ok (.istore 4, 2) := by decide +kernel
theorem dX4_bitsOf_3 : decode cX4_bitsOf 3 = .ok (.iconst 0, 1) := by decide +kernel
theorem dX4_bitsOf_4 : decode cX4_bitsOf 4 = .ok (.istore 5, 2) := by decide +kernel
theorem dX4_bitsOf_6 : decode cX4_bitsOf 6 = .ok (.iload 5, 2) := by decide +kernel
theorem dX4_bitsOf_8 : decode cX4_bitsOf 8 = .ok (.aload_n 0, 1) := by decide +kernel
theorem dX4_bitsOf_9 : decode cX4_bitsOf 9 = .ok (.getfield 28, 3) := by decide +kernel
theorem dX4_bitsOf_12 : decode cX4_bitsOf 12 = .ok (.if_icmp .ge 57, 3) := by decide +kernel
theorem dX4_bitsOf_15 : decode cX4_bitsOf 15 = .ok (.aload_n 0, 1) := by decide +kernel
theorem dX4_bitsOf_16 : decode cX4_bitsOf 16 = .ok (.aload_n 0, 1) := by decide +kernel
theorem dX4_bitsOf_17 : decode cX4_bitsOf 17 = .ok (.getfield 18, 3) := by decide +kernel
theorem dX4_bitsOf_20 : decode cX4_bitsOf 20 = .ok (.iload 5, 2) := by decide +kernel
theorem dX4_bitsOf_22 : decode cX4_bitsOf 22 = .ok (.aaload, 1) := by decide +kernel
theorem dX4_bitsOf_23 : decode cX4_bitsOf 23 = .ok (.invokevirtual 146, 3) := by decide +kernel
theorem dX4_bitsOf_26 : decode cX4_bitsOf 26 = .ok (.istore 6, 2) := by decide +kernel
theorem dX4_bitsOf_28 : decode cX4_bitsOf 28 = .ok (.aload_n 0, 1) := by decide +kernel
theorem dX4_bitsOf_29 : decode cX4_bitsOf 29 = .ok (.getfield 18, 3) := by decide +kernel
theorem dX4_bitsOf_32 : decode cX4_bitsOf 32 = .ok (.iload 5, 2) := by decide +kernel
theorem dX4_bitsOf_34 : decode cX4_bitsOf 34 = .ok (.aaload, 1) := by decide +kernel
theorem dX4_bitsOf_35 : decode cX4_bitsOf 35 = .ok (.getfield 131, 3) := by decide +kernel
theorem dX4_bitsOf_38 : decode cX4_bitsOf 38 = .ok (.iload_n 1, 1) := by decide +kernel
theorem dX4_bitsOf_39 : decode cX4_bitsOf 39 = .ok (.if_icmp .ne 24, 3) := by decide +kernel
theorem dX4_bitsOf_42 : decode cX4_bitsOf 42 = .ok (.iload 6, 2) := by decide +kernel
theorem dX4_bitsOf_44 : decode cX4_bitsOf 44 = .ok (.iload_n 2, 1) := by decide +kernel
theorem dX4_bitsOf_45 : decode cX4_bitsOf 45 = .ok (.if_icmp .lt 18, 3) := by decide +kernel
theorem dX4_bitsOf_48 : decode cX4_bitsOf 48 = .ok (.iload 6, 2) := by decide +kernel
theorem dX4_bitsOf_50 : decode cX4_bitsOf 50 = .ok (.iload_n 3, 1) := by decide +kernel
theorem dX4_bitsOf_51 : decode cX4_bitsOf 51 = .ok (.if_icmp .gt 12, 3) := by decide +kernel
theorem dX4_bitsOf_54 : decode cX4_bitsOf 54 = .ok (.iload 4, 2) := by decide +kernel
theorem dX4_bitsOf_56 : decode cX4_bitsOf 56 = .ok (.iconst 1, 1) := by decide +kernel
theorem dX4_bitsOf_57 : decode cX4_bitsOf 57 = .ok (.iload 5, 2) := by decide +kernel
theorem dX4_bitsOf_59 : decode cX4_bitsOf 59 = .ok (.ishl, 1) := by decide +kernel
theorem dX4_bitsOf_60 : decode cX4_bitsOf 60 = .ok (.ior, 1) := by decide +kernel
theorem dX4_bitsOf_61 : decode cX4_bitsOf 61 = .ok (.istore 4, 2) := by decide +kernel
theorem dX4_bitsOf_63 : decode cX4_bitsOf 63 = .ok (.iinc 5 1, 3) := by decide +kernel
theorem dX4_bitsOf_66 : decode cX4_bitsOf 66 = .ok (.goto (-60), 3) := by decide +kernel
theorem dX4_bitsOf_69 : decode cX4_bitsOf 69 = .ok (.iload 4, 2) := by decide +kernel
theorem dX4_bitsOf_71 : decode cX4_bitsOf 71 = .ok (.ireturn, 1) := by decide +kernel
theorem dX4_wayOf_0 : decode cX4_wayOf 0 = .ok (.aload_n 0, 1) := by decide +kernel
theorem dX4_wayOf_1 : decode cX4_wayOf 1 = .ok (.iload_n 1, 1) := by decide +kernel
theorem dX4_wayOf_2 : decode cX4_wayOf 2 = .ok (.iconst 4, 1) := by decide +kernel
theorem dX4_wayOf_3 : decode cX4_wayOf 3 = .ok (.irem, 1) := by decide +kernel
theorem dX4_wayOf_4 : decode cX4_wayOf 4 = .ok (.iconst 4, 1) := by decide +kernel
theorem dX4_wayOf_5 : decode cX4_wayOf 5 = .ok (.iconst 4, 1) := by decide +kernel
theorem dX4_wayOf_6 : decode cX4_wayOf 6 = .ok (.invokevirtual 171, 3) := by decide +kernel
theorem dX4_wayOf_9 : decode cX4_wayOf 9 = .ok (.istore_n 2, 1) := by decide +kernel
theorem dX4_wayOf_10 : decode cX4_wayOf 10 = .ok (.iload_n 2, 1) := by decide +kernel
theorem dX4_wayOf_11 : decode cX4_wayOf 11 = .ok (.invokestatic 270, 3) := by decide +kernel
theorem dX4_wayOf_14 : decode cX4_wayOf 14 = .ok (.istore_n 3, 1) := by decide +kernel
theorem dX4_wayOf_15 : decode cX4_wayOf 15 = .ok (.iload_n 3, 1) := by decide +kernel
theorem dX4_wayOf_16 : decode cX4_wayOf 16 = .ok (.ifCond .ne 5, 3) := by decide +kernel
theorem dX4_wayOf_19 : decode cX4_wayOf 19 = .ok (.iconst (-1), 1) := by decide +kernel
theorem dX4_wayOf_20 : decode cX4_wayOf 20 = .ok (.ireturn, 1) := by decide +kernel
theorem dX4_wayOf_21 : decode cX4_wayOf 21 = .ok (.iload_n 1, 1) := by decide +kernel
theorem dX4_wayOf_22 : decode cX4_wayOf 22 = .ok (.iconst 4, 1) := by decide +kernel
theorem dX4_wayOf_23 : decode cX4_wayOf 23 = .ok (.idiv, 1) := by decide +kernel
theorem dX4_wayOf_24 : decode cX4_wayOf 24 = .ok (.aload_n 0, 1) := by decide +kernel
theorem dX4_wayOf_25 : decode cX4_wayOf 25 = .ok (.getfield 38, 3) := by decide +kernel
theorem dX4_wayOf_28 : decode cX4_wayOf 28 = .ok (.iadd, 1) := by decide +kernel
theorem dX4_wayOf_29 : decode cX4_wayOf 29 = .ok (.iload_n 3, 1) := by decide +kernel
theorem dX4_wayOf_30 : decode cX4_wayOf 30 = .ok (.irem, 1) := by decide +kernel
theorem dX4_wayOf_31 : decode cX4_wayOf 31 = .ok (.istore 4, 2) := by decide +kernel
theorem dX4_wayOf_33 : decode cX4_wayOf 33 = .ok (.iconst 0, 1) := by decide +kernel
theorem dX4_wayOf_34 : decode cX4_wayOf 34 = .ok (.istore 5, 2) := by decide +kernel
theorem dX4_wayOf_36 : decode cX4_wayOf 36 = .ok (.iload 5, 2) := by decide +kernel
theorem dX4_wayOf_38 : decode cX4_wayOf 38 = .ok (.aload_n 0, 1) := by decide +kernel
theorem dX4_wayOf_39 : decode cX4_wayOf 39 = .ok (.getfield 28, 3) := by decide +kernel
theorem dX4_wayOf_42 : decode cX4_wayOf 42 = .ok (.if_icmp .ge 29, 3) := by decide +kernel
theorem dX4_wayOf_45 : decode cX4_wayOf 45 = .ok (.iload_n 2, 1) := by decide +kernel
theorem dX4_wayOf_46 : decode cX4_wayOf 46 = .ok (.iconst 1, 1) := by decide +kernel
theorem dX4_wayOf_47 : decode cX4_wayOf 47 = .ok (.iload 5, 2) := by decide +kernel
theorem dX4_wayOf_49 : decode cX4_wayOf 49 = .ok (.ishl, 1) := by decide +kernel
theorem dX4_wayOf_50 : decode cX4_wayOf 50 = .ok (.iand, 1) := by decide +kernel
theorem dX4_wayOf_51 : decode cX4_wayOf 51 = .ok (.ifCond .eq 14, 3) := by decide +kernel
theorem dX4_wayOf_54 : decode cX4_wayOf 54 = .ok (.iload 4, 2) := by decide +kernel
theorem dX4_wayOf_56 : decode cX4_wayOf 56 = .ok (.ifCond .ne 6, 3) := by decide +kernel
theorem dX4_wayOf_59 : decode cX4_wayOf 59 = .ok (.iload 5, 2) := by decide +kernel
theorem dX4_wayOf_61 : decode cX4_wayOf 61 = .ok (.ireturn, 1) := by decide +kernel
theorem dX4_wayOf_62 : decode cX4_wayOf 62 = .ok (.iinc 4 (-1), 3) := by decide +kernel
theorem dX4_wayOf_65 : decode cX4_wayOf 65 = .ok (.iinc 5 1, 3) := by decide +kernel
theorem dX4_wayOf_68 : decode cX4_wayOf 68 = .ok (.goto (-32), 3) := by decide +kernel
theorem dX4_wayOf_71 : decode cX4_wayOf 71 = .ok (.iconst (-1), 1) := by decide +kernel
theorem dX4_wayOf_72 : decode cX4_wayOf 72 = .ok (.ireturn, 1) := by decide +kernel
theorem dX4_hasLettersBehind_0 : decode cX4_hasLettersBehind 0 = .ok (.aload_n 0, 1) := by decide +kernel
theorem dX4_hasLettersBehind_1 : decode cX4_hasLettersBehind 1 = .ok (.getfield 24, 3) := by decide +kernel
theorem dX4_hasLettersBehind_4 : decode cX4_hasLettersBehind 4 = .ok (.iload_n 1, 1) := by decide +kernel
theorem dX4_hasLettersBehind_5 : decode cX4_hasLettersBehind 5 = .ok (.aaload, 1) := by decide +kernel
theorem dX4_hasLettersBehind_6 : decode cX4_hasLettersBehind 6 = .ok (.getfield 193, 3) := by decide +kernel
theorem dX4_hasLettersBehind_9 : decode cX4_hasLettersBehind 9 = .ok (.istore_n 2, 1) := by decide +kernel
theorem dX4_hasLettersBehind_10 : decode cX4_hasLettersBehind 10 = .ok (.aload_n 0, 1) := by decide +kernel
theorem dX4_hasLettersBehind_11 : decode cX4_hasLettersBehind 11 = .ok (.iload_n 2, 1) := by decide +kernel
theorem dX4_hasLettersBehind_12 : decode cX4_hasLettersBehind 12 = .ok (.invokevirtual 92, 3) := by decide +kernel
theorem dX4_hasLettersBehind_15 : decode cX4_hasLettersBehind 15 = .ok (.ifCond .eq 23, 3) := by decide +kernel
theorem dX4_hasLettersBehind_18 : decode cX4_hasLettersBehind 18 = .ok (.aload_n 0, 1) := by decide +kernel
theorem dX4_hasLettersBehind_19 : decode cX4_hasLettersBehind 19 = .ok (.getfield 18, 3) := by decide +kernel
theorem dX4_hasLettersBehind_22 : decode cX4_hasLettersBehind 22 = .ok (.iload_n 2, 1) := by decide +kernel
theorem dX4_hasLettersBehind_23 : decode cX4_hasLettersBehind 23 = .ok (.aaload, 1) := by decide +kernel
theorem dX4_hasLettersBehind_24 : decode cX4_hasLettersBehind 24 = .ok (.getfield 112, 3) := by decide +kernel
theorem dX4_hasLettersBehind_27 : decode cX4_hasLettersBehind 27 = .ok (.iload_n 1, 1) := by decide +kernel
theorem dX4_hasLettersBehind_28 : decode cX4_hasLettersBehind 28 = .ok (.invokevirtual 275, 3) := by decide +kernel
theorem dX4_hasLettersBehind_31 : decode cX4_hasLettersBehind 31 = .ok (.ifCond .eq 7, 3) := by decide +kernel
theorem dX4_hasLettersBehind_34 : decode cX4_hasLettersBehind 34 = .ok (.iconst 1, 1) := by decide +kernel
theorem dX4_hasLettersBehind_35 : decode cX4_hasLettersBehind 35 = .ok (.goto 4, 3) := by decide +kernel
theorem dX4_hasLettersBehind_38 : decode cX4_hasLettersBehind 38 = .ok (.iconst 0, 1) := by decide +kernel
theorem dX4_hasLettersBehind_39 : decode cX4_hasLettersBehind 39 = .ok (.ireturn, 1) := by decide +kernel
theorem dX4_startMoving_0 : decode cX4_startMoving 0 = .ok (.aload_n 0, 1) := by decide +kernel
theorem dX4_startMoving_1 : decode cX4_startMoving 1 = .ok (.getfield 24, 3) := by decide +kernel
theorem dX4_startMoving_4 : decode cX4_startMoving 4 = .ok (.iload_n 1, 1) := by decide +kernel
theorem dX4_startMoving_5 : decode cX4_startMoving 5 = .ok (.aaload, 1) := by decide +kernel
theorem dX4_startMoving_6 : decode cX4_startMoving 6 = .ok (.getfield 193, 3) := by decide +kernel
theorem dX4_startMoving_9 : decode cX4_startMoving 9 = .ok (.istore_n 2, 1) := by decide +kernel
theorem dX4_startMoving_10 : decode cX4_startMoving 10 = .ok (.aload_n 0, 1) := by decide +kernel
theorem dX4_startMoving_11 : decode cX4_startMoving 11 = .ok (.iload_n 2, 1) := by decide +kernel
theorem dX4_startMoving_12 : decode cX4_startMoving 12 = .ok (.invokevirtual 92, 3) := by decide +kernel
theorem dX4_startMoving_15 : decode cX4_startMoving 15 = .ok (.ifCond .eq 26, 3) := by decide +kernel
theorem dX4_startMoving_18 : decode cX4_startMoving 18 = .ok (.aload_n 0, 1) := by decide +kernel
theorem dX4_startMoving_19 : decode cX4_startMoving 19 = .ok (.getfield 18, 3) := by decide +kernel
theorem dX4_startMoving_22 : decode cX4_startMoving 22 = .ok (.iload_n 2, 1) := by decide +kernel
theorem dX4_startMoving_23 : decode cX4_startMoving 23 = .ok (.aaload, 1) := by decide +kernel
theorem dX4_startMoving_24 : decode cX4_startMoving 24 = .ok (.getfield 112, 3) := by decide +kernel
theorem dX4_startMoving_27 : decode cX4_startMoving 27 = .ok (.iload_n 1, 1) := by decide +kernel
theorem dX4_startMoving_28 : decode cX4_startMoving 28 = .ok (.invokevirtual 278, 3) := by decide +kernel
theorem dX4_startMoving_31 : decode cX4_startMoving 31 = .ok (.aload_n 0, 1) := by decide +kernel
theorem dX4_startMoving_32 : decode cX4_startMoving 32 = .ok (.getfield 24, 3) := by decide +kernel
theorem dX4_startMoving_35 : decode cX4_startMoving 35 = .ok (.iload_n 1, 1) := by decide +kernel
theorem dX4_startMoving_36 : decode cX4_startMoving 36 = .ok (.aaload, 1) := by decide +kernel
theorem dX4_startMoving_37 : decode cX4_startMoving 37 = .ok (.iconst 1, 1) := by decide +kernel
theorem dX4_startMoving_38 : decode cX4_startMoving 38 = .ok (.putfield 184, 3) := by decide +kernel
theorem dX4_startMoving_41 : decode cX4_startMoving 41 = .ok (.return_, 1) := by decide +kernel
theorem dX4_putLetter_0 : decode cX4_putLetter 0 = .ok (.aload_n 0, 1) := by decide +kernel
theorem dX4_putLetter_1 : decode cX4_putLetter 1 = .ok (.iload_n 3, 1) := by decide +kernel
theorem dX4_putLetter_2 : decode cX4_putLetter 2 = .ok (.invokevirtual 92, 3) := by decide +kernel
theorem dX4_putLetter_5 : decode cX4_putLetter 5 = .ok (.ifCond .eq 36, 3) := by decide +kernel
theorem dX4_putLetter_8 : decode cX4_putLetter 8 = .ok (.aload_n 0, 1) := by decide +kernel
theorem dX4_putLetter_9 : decode cX4_putLetter 9 = .ok (.getfield 18, 3) := by decide +kernel
theorem dX4_putLetter_12 : decode cX4_putLetter 12 = .ok (.iload_n 3, 1) := by decide +kernel
theorem dX4_putLetter_13 : decode cX4_putLetter 13 = .ok (.aaload, 1) := by decide +kernel
theorem dX4_putLetter_14 : decode cX4_putLetter 14 = .ok (.getfield 112, 3) := by decide +kernel
theorem dX4_putLetter_17 : decode cX4_putLetter 17 = .ok (.getfield 153, 3) := by decide +kernel
theorem dX4_putLetter_20 : decode cX4_putLetter 20 = .ok (.bipush 8, 2) := by decide +kernel
theorem dX4_putLetter_22 : decode cX4_putLetter 22 = .ok (.if_icmp .ge 19, 3) := by decide +kernel
theorem dX4_putLetter_25 : decode cX4_putLetter 25 = .ok (.aload_n 0, 1) := by decide +kernel
theorem dX4_putLetter_26 : decode cX4_putLetter 26 = .ok (.getfield 18, 3) := by decide +kernel
theorem dX4_putLetter_29 : decode cX4_putLetter 29 = .ok (.iload_n 3, 1) := by decide +kernel
theorem dX4_putLetter_30 : decode cX4_putLetter 30 = .ok (.aaload, 1) := by decide +kernel
theorem dX4_putLetter_31 : decode cX4_putLetter 31 = .ok (.getfield 112, 3) := by decide +kernel
theorem dX4_putLetter_34 : decode cX4_putLetter 34 = .ok (.iload_n 1, 1) := by decide +kernel
theorem dX4_putLetter_35 : decode cX4_putLetter 35 = .ok (.iload_n 2, 1) := by decide +kernel
theorem dX4_putLetter_36 : decode cX4_putLetter 36 = .ok (.invokevirtual 281, 3) := by decide +kernel
theorem dX4_putLetter_39 : decode cX4_putLetter 39 = .ok (.iconst 1, 1) := by decide +kernel
theorem dX4_putLetter_40 : decode cX4_putLetter 40 = .ok (.ireturn, 1) := by decide +kernel
theorem dX4_putLetter_41 : decode cX4_putLetter 41 = .ok (.aload_n 0, 1) := by decide +kernel
theorem dX4_putLetter_42 : decode cX4_putLetter 42 = .ok (.getfield 24, 3) := by decide +kernel
theorem dX4_putLetter_45 : decode cX4_putLetter 45 = .ok (.iload_n 1, 1) := by decide +kernel
theorem dX4_putLetter_46 : decode cX4_putLetter 46 = .ok (.aaload, 1) := by decide +kernel
theorem dX4_putLetter_47 : decode cX4_putLetter 47 = .ok (.dup, 1) := by decide +kernel
theorem dX4_putLetter_48 : decode cX4_putLetter 48 = .ok (.getfield 190, 3) := by decide +kernel
theorem dX4_putLetter_51 : decode cX4_putLetter 51 = .ok (.iconst 1, 1) := by decide +kernel
theorem dX4_putLetter_52 : decode cX4_putLetter 52 = .ok (.iadd, 1) := by decide +kernel
theorem dX4_putLetter_53 : decode cX4_putLetter 53 = .ok (.putfield 190, 3) := by decide +kernel
theorem dX4_putLetter_56 : decode cX4_putLetter 56 = .ok (.iconst 0, 1) := by decide +kernel
theorem dX4_putLetter_57 : decode cX4_putLetter 57 = .ok (.ireturn, 1) := by decide +kernel
theorem dX4_answerMarker_0 : decode cX4_answerMarker 0 = .ok (.aload_n 0, 1) := by decide +kernel
theorem dX4_answerMarker_1 : decode cX4_answerMarker 1 = .ok (.getfield 24, 3) := by decide +kernel
theorem dX4_answerMarker_4 : decode cX4_answerMarker 4 = .ok (.iload_n 1, 1) := by decide +kernel
theorem dX4_answerMarker_5 : decode cX4_answerMarker 5 = .ok (.aaload, 1) := by decide +kernel
theorem dX4_answerMarker_6 : decode cX4_answerMarker 6 = .ok (.astore_n 2, 1) := by decide +kernel
theorem dX4_answerMarker_7 : decode cX4_answerMarker 7 = .ok (.aload_n 0, 1) := by decide +kernel
theorem dX4_answerMarker_8 : decode cX4_answerMarker 8 = .ok (.dup, 1) := by decide +kernel
theorem dX4_answerMarker_9 : decode cX4_answerMarker 9 = .ok (.getfield 44, 3) := by decide +kernel
theorem dX4_answerMarker_12 : decode cX4_answerMarker 12 = .ok (.iconst 1, 1) := by decide +kernel
theorem dX4_answerMarker_13 : decode cX4_answerMarker 13 = .ok (.iadd, 1) := by decide +kernel
theorem dX4_answerMarker_14 : decode cX4_answerMarker 14 = .ok (.putfield 44, 3) := by decide +kernel
theorem dX4_answerMarker_17 : decode cX4_answerMarker 17 = .ok (.aload_n 2, 1) := by decide +kernel
theorem dX4_answerMarker_18 : decode cX4_answerMarker 18 = .ok (.iconst 0, 1) := by decide +kernel
theorem dX4_answerMarker_19 : decode cX4_answerMarker 19 = .ok (.putfield 184, 3) := by decide +kernel
theorem dX4_answerMarker_22 : decode cX4_answerMarker 22 = .ok (.aload_n 2, 1) := by decide +kernel
theorem dX4_answerMarker_23 : decode cX4_answerMarker 23 = .ok (.aload_n 0, 1) := by decide +kernel
theorem dX4_answerMarker_24 : decode cX4_answerMarker 24 = .ok (.iload_n 1, 1) := by decide +kernel
theorem dX4_answerMarker_25 : decode cX4_answerMarker 25 = .ok (.invokevirtual 178, 3) := by decide +kernel
theorem dX4_answerMarker_28 : decode cX4_answerMarker 28 = .ok (.putfield 193, 3) := by decide +kernel
theorem dX4_answerMarker_31 : decode cX4_answerMarker 31 = .ok (.iconst 0, 1) := by decide +kernel
theorem dX4_answerMarker_32 : decode cX4_answerMarker 32 = .ok (.istore_n 3, 1) := by decide +kernel
theorem dX4_answerMarker_33 : decode cX4_answerMarker 33 = .ok (.iload_n 3, 1) := by decide +kernel
theorem dX4_answerMarker_34 : decode cX4_answerMarker 34 = .ok (.aload_n 2, 1) := by decide +kernel
theorem dX4_answerMarker_35 : decode cX4_answerMarker 35 = .ok (.getfield 207, 3) := by decide +kernel
theorem dX4_answerMarker_38 : decode cX4_answerMarker 38 = .ok (.if_icmp .ge 25, 3) := by decide +kernel
theorem dX4_answerMarker_41 : decode cX4_answerMarker 41 = .ok (.aload_n 0, 1) := by decide +kernel
theorem dX4_answerMarker_42 : decode cX4_answerMarker 42 = .ok (.iload_n 1, 1) := by decide +kernel
theorem dX4_answerMarker_43 : decode cX4_answerMarker 43 = .ok (.aload_n 2, 1) := by decide +kernel
theorem dX4_answerMarker_44 : decode cX4_answerMarker 44 = .ok (.getfield 283, 3) := by decide +kernel
theorem dX4_answerMarker_47 : decode cX4_answerMarker 47 = .ok (.iload_n 3, 1) := by decide +kernel
theorem dX4_answerMarker_48 : decode cX4_answerMarker 48 = .ok (.iaload, 1) := by decide +kernel
theorem dX4_answerMarker_49 : decode cX4_answerMarker 49 = .ok (.aload_n 2, 1) := by decide +kernel
theorem dX4_answerMarker_50 : decode cX4_answerMarker 50 = .ok (.getfield 193, 3) := by decide +kernel
theorem dX4_answerMarker_53 : decode cX4_answerMarker 53 = .ok (.invokevirtual 203, 3) := by decide +kernel
theorem dX4_answerMarker_56 : decode cX4_answerMarker 56 = .ok (.pop, 1) := by decide +kernel
theorem dX4_answerMarker_57 : decode cX4_answerMarker 57 = .ok (.iinc 3 1, 3) := by decide +kernel
theorem dX4_answerMarker_60 : decode cX4_answerMarker 60 = .ok (.goto (-27), 3) := by decide +kernel
theorem dX4_answerMarker_63 : decode cX4_answerMarker 63 = .ok (.aload_n 2, 1) := by decide +kernel
theorem dX4_answerMarker_64 : decode cX4_answerMarker 64 = .ok (.iconst 0, 1) := by decide +kernel
theorem dX4_answerMarker_65 : decode cX4_answerMarker 65 = .ok (.putfield 207, 3) := by decide +kernel
theorem dX4_answerMarker_68 : decode cX4_answerMarker 68 = .ok (.return_, 1) := by decide +kernel
theorem dX4_dropQueue_0 : decode cX4_dropQueue 0 = .ok (.aload_n 1, 1) := by decide +kernel
theorem dX4_dropQueue_1 : decode cX4_dropQueue 1 = .ok (.getfield 153, 3) := by decide +kernel
theorem dX4_dropQueue_4 : decode cX4_dropQueue 4 = .ok (.istore_n 2, 1) := by decide +kernel
theorem dX4_dropQueue_5 : decode cX4_dropQueue 5 = .ok (.iconst 0, 1) := by decide +kernel
theorem dX4_dropQueue_6 : decode cX4_dropQueue 6 = .ok (.istore_n 3, 1) := by decide +kernel
theorem dX4_dropQueue_7 : decode cX4_dropQueue 7 = .ok (.iload_n 3, 1) := by decide +kernel
theorem dX4_dropQueue_8 : decode cX4_dropQueue 8 = .ok (.iload_n 2, 1) := by decide +kernel
theorem dX4_dropQueue_9 : decode cX4_dropQueue 9 = .ok (.if_icmp .ge 36, 3) := by decide +kernel
theorem dX4_dropQueue_12 : decode cX4_dropQueue 12 = .ok (.aload_n 1, 1) := by decide +kernel
theorem dX4_dropQueue_13 : decode cX4_dropQueue 13 = .ok (.iload_n 3, 1) := by decide +kernel
theorem dX4_dropQueue_14 : decode cX4_dropQueue 14 = .ok (.invokevirtual 159, 3) := by decide +kernel
theorem dX4_dropQueue_17 : decode cX4_dropQueue 17 = .ok (.ifCond .ne 22, 3) := by decide +kernel
theorem dX4_dropQueue_20 : decode cX4_dropQueue 20 = .ok (.aload_n 0, 1) := by decide +kernel
theorem dX4_dropQueue_21 : decode cX4_dropQueue 21 = .ok (.getfield 24, 3) := by decide +kernel
theorem dX4_dropQueue_24 : decode cX4_dropQueue 24 = .ok (.aload_n 1, 1) := by decide +kernel
theorem dX4_dropQueue_25 : decode cX4_dropQueue 25 = .ok (.iload_n 3, 1) := by decide +kernel
theorem dX4_dropQueue_26 : decode cX4_dropQueue 26 = .ok (.invokevirtual 162, 3) := by decide +kernel
theorem dX4_dropQueue_29 : decode cX4_dropQueue 29 = .ok (.aaload, 1) := by decide +kernel
theorem dX4_dropQueue_30 : decode cX4_dropQueue 30 = .ok (.dup, 1) := by decide +kernel
theorem dX4_dropQueue_31 : decode cX4_dropQueue 31 = .ok (.getfield 190, 3) := by decide +kernel
theorem dX4_dropQueue_34 : decode cX4_dropQueue 34 = .ok (.iconst 1, 1) := by decide +kernel
theorem dX4_dropQueue_35 : decode cX4_dropQueue 35 = .ok (.iadd, 1) := by decide +kernel
theorem dX4_dropQueue_36 : decode cX4_dropQueue 36 = .ok (.putfield 190, 3) := by decide +kernel
theorem dX4_dropQueue_39 : decode cX4_dropQueue 39 = .ok (.iinc 3 1, 3) := by decide +kernel
theorem dX4_dropQueue_42 : decode cX4_dropQueue 42 = .ok (.goto (-35), 3) := by decide +kernel
theorem dX4_dropQueue_45 : decode cX4_dropQueue 45 = .ok (.iconst 0, 1) := by decide +kernel
theorem dX4_dropQueue_46 : decode cX4_dropQueue 46 = .ok (.istore_n 3, 1) := by decide +kernel
theorem dX4_dropQueue_47 : decode cX4_dropQueue 47 = .ok (.iload_n 3, 1) := by decide +kernel
theorem dX4_dropQueue_48 : decode cX4_dropQueue 48 = .ok (.iload_n 2, 1) := by decide +kernel
theorem dX4_dropQueue_49 : decode cX4_dropQueue 49 = .ok (.if_icmp .ge 26, 3) := by decide +kernel
theorem dX4_dropQueue_52 : decode cX4_dropQueue 52 = .ok (.aload_n 1, 1) := by decide +kernel
theorem dX4_dropQueue_53 : decode cX4_dropQueue 53 = .ok (.iload_n 3, 1) := by decide +kernel
theorem dX4_dropQueue_54 : decode cX4_dropQueue 54 = .ok (.invokevirtual 159, 3) := by decide +kernel
theorem dX4_dropQueue_57 : decode cX4_dropQueue 57 = .ok (.ifCond .eq 12, 3) := by decide +kernel
theorem dX4_dropQueue_60 : decode cX4_dropQueue 60 = .ok (.aload_n 0, 1) := by decide +kernel
theorem dX4_dropQueue_61 : decode cX4_dropQueue 61 = .ok (.aload_n 1, 1) := by decide +kernel
theorem dX4_dropQueue_62 : decode cX4_dropQueue 62 = .ok (.iload_n 3, 1) := by decide +kernel
theorem dX4_dropQueue_63 : decode cX4_dropQueue 63 = .ok (.invokevirtual 162, 3) := by decide +kernel
theorem dX4_dropQueue_66 : decode cX4_dropQueue 66 = .ok (.invokevirtual 287, 3) := by decide +kernel
theorem dX4_dropQueue_69 : decode cX4_dropQueue 69 = .ok (.iinc 3 1, 3) := by decide +kernel
theorem dX4_dropQueue_72 : decode cX4_dropQueue 72 = .ok (.goto (-25), 3) := by decide +kernel
theorem dX4_dropQueue_75 : decode cX4_dropQueue 75 = .ok (.aload_n 1, 1) := by decide +kernel
theorem dX4_dropQueue_76 : decode cX4_dropQueue 76 = .ok (.iconst 0, 1) := by decide +kernel
theorem dX4_dropQueue_77 : decode cX4_dropQueue 77 = .ok (.putfield 153, 3) := by decide +kernel
theorem dX4_dropQueue_80 : decode cX4_dropQueue 80 = .ok (.return_, 1) := by decide +kernel
theorem dX4_passTick_0 : decode cX4_passTick 0 = .ok (.aload_n 0, 1) := by decide +kernel
theorem dX4_passTick_1 : decode cX4_passTick 1 = .ok (.dup, 1) := by decide +kernel
theorem dX4_passTick_2 : decode cX4_passTick 2 = .ok (.getfield 41, 3) := by decide +kernel
theorem dX4_passTick_5 : decode cX4_passTick 5 = .ok (.iconst 1, 1) := by decide +kernel
theorem dX4_passTick_6 : decode cX4_passTick 6 = .ok (.iadd, 1) := by decide +kernel
theorem dX4_passTick_7 : decode cX4_passTick 7 = .ok (.putfield 41, 3) := by decide +kernel
theorem dX4_passTick_10 : decode cX4_passTick 10 = .ok (.iconst 0, 1) := by decide +kernel
theorem dX4_passTick_11 : decode cX4_passTick 11 = .ok (.istore_n 1, 1) := by decide +kernel
theorem dX4_passTick_12 : decode cX4_passTick 12 = .ok (.iload_n 1, 1) := by decide +kernel
theorem dX4_passTick_13 : decode cX4_passTick 13 = .ok (.aload_n 0, 1) := by decide +kernel
theorem dX4_passTick_14 : decode cX4_passTick 14 = .ok (.getfield 28, 3) := by decide +kernel
theorem dX4_passTick_17 : decode cX4_passTick 17 = .ok (.if_icmp .ge 18, 3) := by decide +kernel
theorem dX4_passTick_20 : decode cX4_passTick 20 = .ok (.aload_n 0, 1) := by decide +kernel
theorem dX4_passTick_21 : decode cX4_passTick 21 = .ok (.getfield 18, 3) := by decide +kernel
theorem dX4_passTick_24 : decode cX4_passTick 24 = .ok (.iload_n 1, 1) := by decide +kernel
theorem dX4_passTick_25 : decode cX4_passTick 25 = .ok (.aaload, 1) := by decide +kernel
theorem dX4_passTick_26 : decode cX4_passTick 26 = .ok (.invokevirtual 290, 3) := by decide +kernel
theorem dX4_passTick_29 : decode cX4_passTick 29 = .ok (.iinc 1 1, 3) := by decide +kernel
theorem dX4_passTick_32 : decode cX4_passTick 32 = .ok (.goto (-20), 3) := by decide +kernel
theorem dX4_passTick_35 : decode cX4_passTick 35 = .ok (.aload_n 0, 1) := by decide +kernel
theorem dX4_passTick_36 : decode cX4_passTick 36 = .ok (.invokevirtual 98, 3) := by decide +kernel
theorem dX4_passTick_39 : decode cX4_passTick 39 = .ok (.iconst 0, 1) := by decide +kernel
theorem dX4_passTick_40 : decode cX4_passTick 40 = .ok (.istore_n 1, 1) := by decide +kernel
theorem dX4_passTick_41 : decode cX4_passTick 41 = .ok (.iload_n 1, 1) := by decide +kernel
theorem dX4_passTick_42 : decode cX4_passTick 42 = .ok (.aload_n 0, 1) := by decide +kernel
theorem dX4_passTick_43 : decode cX4_passTick 43 = .ok (.getfield 28, 3) := by decide +kernel
theorem dX4_passTick_46 : decode cX4_passTick 46 = .ok (.if_icmp .ge 51, 3) := by decide +kernel
theorem dX4_passTick_49 : decode cX4_passTick 49 = .ok (.aload_n 0, 1) := by decide +kernel
theorem dX4_passTick_50 : decode cX4_passTick 50 = .ok (.getfield 18, 3) := by decide +kernel
theorem dX4_passTick_53 : decode cX4_passTick 53 = .ok (.iload_n 1, 1) := by decide +kernel
theorem dX4_passTick_54 : decode cX4_passTick 54 = .ok (.aaload, 1) := by decide +kernel
theorem dX4_passTick_55 : decode cX4_passTick 55 = .ok (.getfield 260, 3) := by decide +kernel
theorem dX4_passTick_58 : decode cX4_passTick 58 = .ok (.iconst 2, 1) := by decide +kernel
theorem dX4_passTick_59 : decode cX4_passTick 59 = .ok (.if_icmp .ne 32, 3) := by decide +kernel
theorem dX4_passTick_62 : decode cX4_passTick 62 = .ok (.aload_n 0, 1) := by decide +kernel
theorem dX4_passTick_63 : decode cX4_passTick 63 = .ok (.getfield 18, 3) := by decide +kernel
theorem dX4_passTick_66 : decode cX4_passTick 66 = .ok (.iload_n 1, 1) := by decide +kernel
theorem dX4_passTick_67 : decode cX4_passTick 67 = .ok (.aaload, 1) := by decide +kernel
theorem dX4_passTick_68 : decode cX4_passTick 68 = .ok (.getfield 150, 3) := by decide +kernel
theorem dX4_passTick_71 : decode cX4_passTick 71 = .ok (.bipush 9, 2) := by decide +kernel
theorem dX4_passTick_73 : decode cX4_passTick 73 = .ok (.if_icmp .ge 18, 3) := by decide +kernel
theorem dX4_passTick_76 : decode cX4_passTick 76 = .ok (.aload_n 0, 1) := by decide +kernel
theorem dX4_passTick_77 : decode cX4_passTick 77 = .ok (.getfield 18, 3) := by decide +kernel
theorem dX4_passTick_80 : decode cX4_passTick 80 = .ok (.iload_n 1, 1) := by decide +kernel
theorem dX4_passTick_81 : decode cX4_passTick 81 = .ok (.aaload, 1) := by decide +kernel
theorem dX4_passTick_82 : decode cX4_passTick 82 = .ok (.dup, 1) := by decide +kernel
theorem dX4_passTick_83 : decode cX4_passTick 83 = .ok (.getfield 150, 3) := by decide +kernel
theorem dX4_passTick_86 : decode cX4_passTick 86 = .ok (.iconst 1, 1) := by decide +kernel
theorem dX4_passTick_87 : decode cX4_passTick 87 = .ok (.iadd, 1) := by decide +kernel
theorem dX4_passTick_88 : decode cX4_passTick 88 = .ok (.putfield 150, 3) := by decide +kernel
theorem dX4_passTick_91 : decode cX4_passTick 91 = .ok (.iinc 1 1, 3) := by decide +kernel
theorem dX4_passTick_94 : decode cX4_passTick 94 = .ok (.goto (-53), 3) := by decide +kernel
theorem dX4_passTick_97 : decode cX4_passTick 97 = .ok (.iconst 0, 1) := by decide +kernel
theorem dX4_passTick_98 : decode cX4_passTick 98 = .ok (.istore_n 1, 1) := by decide +kernel
theorem dX4_passTick_99 : decode cX4_passTick 99 = .ok (.iload_n 1, 1) := by decide +kernel
theorem dX4_passTick_100 : decode cX4_passTick 100 = .ok (.aload_n 0, 1) := by decide +kernel
theorem dX4_passTick_101 : decode cX4_passTick 101 = .ok (.getfield 28, 3) := by decide +kernel
theorem dX4_passTick_104 : decode cX4_passTick 104 = .ok (.if_icmp .ge 34, 3) := by decide +kernel
theorem dX4_passTick_107 : decode cX4_passTick 107 = .ok (.aload_n 0, 1) := by decide +kernel
theorem dX4_passTick_108 : decode cX4_passTick 108 = .ok (.getfield 18, 3) := by decide +kernel
theorem dX4_passTick_111 : decode cX4_passTick 111 = .ok (.iload_n 1, 1) := by decide +kernel
theorem dX4_passTick_112 : decode cX4_passTick 112 = .ok (.aaload, 1) := by decide +kernel
theorem dX4_passTick_113 : decode cX4_passTick 113 = .ok (.getfield 101, 3) := by decide +kernel
theorem dX4_passTick_116 : decode cX4_passTick 116 = .ok (.ifCond .eq 16, 3) := by decide +kernel
theorem dX4_passTick_119 : decode cX4_passTick 119 = .ok (.aload_n 0, 1) := by decide +kernel
theorem dX4_passTick_120 : decode cX4_passTick 120 = .ok (.aload_n 0, 1) := by decide +kernel
theorem dX4_passTick_121 : decode cX4_passTick 121 = .ok (.getfield 18, 3) := by decide +kernel
theorem dX4_passTick_124 : decode cX4_passTick 124 = .ok (.iload_n 1, 1) := by decide +kernel
theorem dX4_passTick_125 : decode cX4_passTick 125 = .ok (.aaload, 1) := by decide +kernel
theorem dX4_passTick_126 : decode cX4_passTick 126 = .ok (.getfield 112, 3) := by decide +kernel
theorem dX4_passTick_129 : decode cX4_passTick 129 = .ok (.invokevirtual 293, 3) := by decide +kernel
theorem dX4_passTick_132 : decode cX4_passTick 132 = .ok (.iinc 1 1, 3) := by decide +kernel
theorem dX4_passTick_135 : decode cX4_passTick 135 = .ok (.goto (-36), 3) := by decide +kernel
theorem dX4_passTick_138 : decode cX4_passTick 138 = .ok (.return_, 1) := by decide +kernel
theorem dX4_letFirstOut_0 : decode cX4_letFirstOut 0 = .ok (.aload_n 1, 1) := by decide +kernel
theorem dX4_letFirstOut_1 : decode cX4_letFirstOut 1 = .ok (.getfield 153, 3) := by decide +kernel
theorem dX4_letFirstOut_4 : decode cX4_letFirstOut 4 = .ok (.ifCond .ne 4, 3) := by decide +kernel
theorem dX4_letFirstOut_7 : decode cX4_letFirstOut 7 = .ok (.return_, 1) := by decide +kernel
theorem dX4_letFirstOut_8 : decode cX4_letFirstOut 8 = .ok (.aload_n 1, 1) := by decide +kernel
theorem dX4_letFirstOut_9 : decode cX4_letFirstOut 9 = .ok (.iconst 0, 1) := by decide +kernel
theorem dX4_letFirstOut_10 : decode cX4_letFirstOut 10 = .ok (.invokevirtual 162, 3) := by decide +kernel
theorem dX4_letFirstOut_13 : decode cX4_letFirstOut 13 = .ok (.istore_n 2, 1) := by decide +kernel
theorem dX4_letFirstOut_14 : decode cX4_letFirstOut 14 = .ok (.aload_n 1, 1) := by decide +kernel
theorem dX4_letFirstOut_15 : decode cX4_letFirstOut 15 = .ok (.iconst 0, 1) := by decide +kernel
theorem dX4_letFirstOut_16 : decode cX4_letFirstOut 16 = .ok (.invokevirtual 165, 3) := by decide +kernel
theorem dX4_letFirstOut_19 : decode cX4_letFirstOut 19 = .ok (.istore_n 3, 1) := by decide +kernel
theorem dX4_letFirstOut_20 : decode cX4_letFirstOut 20 = .ok (.aload_n 1, 1) := by decide +kernel
theorem dX4_letFirstOut_21 : decode cX4_letFirstOut 21 = .ok (.iconst 0, 1) := by decide +kernel
theorem dX4_letFirstOut_22 : decode cX4_letFirstOut 22 = .ok (.invokevirtual 159, 3) := by decide +kernel
theorem dX4_letFirstOut_25 : decode cX4_letFirstOut 25 = .ok (.istore 4, 2) := by decide +kernel
theorem dX4_letFirstOut_27 : decode cX4_letFirstOut 27 = .ok (.aload_n 1, 1) := by decide +kernel
theorem dX4_letFirstOut_28 : decode cX4_letFirstOut 28 = .ok (.invokevirtual 296, 3) := by decide +kernel
theorem dX4_letFirstOut_31 : decode cX4_letFirstOut 31 = .ok (.iload 4, 2) := by decide +kernel
theorem dX4_letFirstOut_33 : decode cX4_letFirstOut 33 = .ok (.ifCond .eq 11, 3) := by decide +kernel
theorem dX4_letFirstOut_36 : decode cX4_letFirstOut 36 = .ok (.aload_n 0, 1) := by decide +kernel
theorem dX4_letFirstOut_37 : decode cX4_letFirstOut 37 = .ok (.iload_n 2, 1) := by decide +kernel
theorem dX4_letFirstOut_38 : decode cX4_letFirstOut 38 = .ok (.invokevirtual 287, 3) := by decide +kernel
theorem dX4_letFirstOut_41 : decode cX4_letFirstOut 41 = .ok (.goto 28, 3) := by decide +kernel
theorem dX4_letFirstOut_44 : decode cX4_letFirstOut 44 = .ok (.aload_n 0, 1) := by decide +kernel
theorem dX4_letFirstOut_45 : decode cX4_letFirstOut 45 = .ok (.getfield 24, 3) := by decide +kernel
theorem dX4_letFirstOut_48 : decode cX4_letFirstOut 48 = .ok (.iload_n 2, 1) := by decide +kernel
theorem dX4_letFirstOut_49 : decode cX4_letFirstOut 49 = .ok (.aaload, 1) := by decide +kernel
theorem dX4_letFirstOut_50 : decode cX4_letFirstOut 50 = .ok (.dup, 1) := by decide +kernel
theorem dX4_letFirstOut_51 : decode cX4_letFirstOut 51 = .ok (.getfield 210, 3) := by decide +kernel
theorem dX4_letFirstOut_54 : decode cX4_letFirstOut 54 = .ok (.iconst 1, 1) := by decide +kernel
theorem dX4_letFirstOut_55 : decode cX4_letFirstOut 55 = .ok (.iadd, 1) := by decide +kernel
theorem dX4_letFirstOut_56 : decode cX4_letFirstOut 56 = .ok (.putfield 210, 3) := by decide +kernel
theorem dX4_letFirstOut_59 : decode cX4_letFirstOut 59 = .ok (.aload_n 0, 1) := by decide +kernel
theorem dX4_letFirstOut_60 : decode cX4_letFirstOut 60 = .ok (.getfield 24, 3) := by decide +kernel
theorem dX4_letFirstOut_63 : decode cX4_letFirstOut 63 = .ok (.iload_n 2, 1) := by decide +kernel
theorem dX4_letFirstOut_64 : decode cX4_letFirstOut 64 = .ok (.aaload, 1) := by decide +kernel
theorem dX4_letFirstOut_65 : decode cX4_letFirstOut 65 = .ok (.iload_n 3, 1) := by decide +kernel
theorem dX4_letFirstOut_66 : decode cX4_letFirstOut 66 = .ok (.putfield 213, 3) := by decide +kernel
theorem dX4_letFirstOut_69 : decode cX4_letFirstOut 69 = .ok (.return_, 1) := by decide +kernel
theorem dX4_sumOverFlows_0 : decode cX4_sumOverFlows 0 = .ok (.iconst 0, 1) := by decide +kernel
theorem dX4_sumOverFlows_1 : decode cX4_sumOverFlows 1 = .ok (.istore_n 2, 1) := by decide +kernel
theorem dX4_sumOverFlows_2 : decode cX4_sumOverFlows 2 = .ok (.iconst 0, 1) := by decide +kernel
theorem dX4_sumOverFlows_3 : decode cX4_sumOverFlows 3 = .ok (.istore_n 3, 1) := by decide +kernel
theorem dX4_sumOverFlows_4 : decode cX4_sumOverFlows 4 = .ok (.iload_n 3, 1) := by decide +kernel
theorem dX4_sumOverFlows_5 : decode cX4_sumOverFlows 5 = .ok (.bipush 12, 2) := by decide +kernel
theorem dX4_sumOverFlows_7 : decode cX4_sumOverFlows 7 = .ok (.if_icmp .ge 18, 3) := by decide +kernel
theorem dX4_sumOverFlows_10 : decode cX4_sumOverFlows 10 = .ok (.iload_n 2, 1) := by decide +kernel
theorem dX4_sumOverFlows_11 : decode cX4_sumOverFlows 11 = .ok (.aload_n 0, 1) := by decide +kernel
theorem dX4_sumOverFlows_12 : decode cX4_sumOverFlows 12 = .ok (.iload_n 3, 1) := by decide +kernel
theorem dX4_sumOverFlows_13 : decode cX4_sumOverFlows 13 = .ok (.iload_n 1, 1) := by decide +kernel
theorem dX4_sumOverFlows_14 : decode cX4_sumOverFlows 14 = .ok (.invokevirtual 238, 3) := by decide +kernel
theorem dX4_sumOverFlows_17 : decode cX4_sumOverFlows 17 = .ok (.iadd, 1) := by decide +kernel
theorem dX4_sumOverFlows_18 : decode cX4_sumOverFlows 18 = .ok (.istore_n 2, 1) := by decide +kernel
theorem dX4_sumOverFlows_19 : decode cX4_sumOverFlows 19 = .ok (.iinc 3 1, 3) := by decide +kernel
theorem dX4_sumOverFlows_22 : decode cX4_sumOverFlows 22 = .ok (.goto (-18), 3) := by decide +kernel
theorem dX4_sumOverFlows_25 : decode cX4_sumOverFlows 25 = .ok (.iload_n 2, 1) := by decide +kernel
theorem dX4_sumOverFlows_26 : decode cX4_sumOverFlows 26 = .ok (.ireturn, 1) := by decide +kernel
theorem dJ6_bitCount_0f7a4_0 : decode cJ6_bitCount_0f7a4 0 = .ok (.iload_n 0, 1) := by decide +kernel
theorem dJ6_bitCount_0f7a4_1 : decode cJ6_bitCount_0f7a4 1 = .ok (.iload_n 0, 1) := by decide +kernel
theorem dJ6_bitCount_0f7a4_2 : decode cJ6_bitCount_0f7a4 2 = .ok (.iconst 1, 1) := by decide +kernel
theorem dJ6_bitCount_0f7a4_3 : decode cJ6_bitCount_0f7a4 3 = .ok (.iushr, 1) := by decide +kernel
theorem dJ6_bitCount_0f7a4_4 : decode cJ6_bitCount_0f7a4 4 = .ok (.ldc_w 265, 3) := by decide +kernel
theorem dJ6_bitCount_0f7a4_7 : decode cJ6_bitCount_0f7a4 7 = .ok (.iand, 1) := by decide +kernel
theorem dJ6_bitCount_0f7a4_8 : decode cJ6_bitCount_0f7a4 8 = .ok (.isub, 1) := by decide +kernel
theorem dJ6_bitCount_0f7a4_9 : decode cJ6_bitCount_0f7a4 9 = .ok (.istore_n 0, 1) := by decide +kernel
theorem dJ6_bitCount_0f7a4_10 : decode cJ6_bitCount_0f7a4 10 = .ok (.iload_n 0, 1) := by decide +kernel
theorem dJ6_bitCount_0f7a4_11 : decode cJ6_bitCount_0f7a4 11 = .ok (.ldc_w 266, 3) := by decide +kernel
theorem dJ6_bitCount_0f7a4_14 : decode cJ6_bitCount_0f7a4 14 = .ok (.iand, 1) := by decide +kernel
theorem dJ6_bitCount_0f7a4_15 : decode cJ6_bitCount_0f7a4 15 = .ok (.iload_n 0, 1) := by decide +kernel
theorem dJ6_bitCount_0f7a4_16 : decode cJ6_bitCount_0f7a4 16 = .ok (.iconst 2, 1) := by decide +kernel
theorem dJ6_bitCount_0f7a4_17 : decode cJ6_bitCount_0f7a4 17 = .ok (.iushr, 1) := by decide +kernel
theorem dJ6_bitCount_0f7a4_18 : decode cJ6_bitCount_0f7a4 18 = .ok (.ldc_w 266, 3) := by decide +kernel
theorem dJ6_bitCount_0f7a4_21 : decode cJ6_bitCount_0f7a4 21 = .ok (.iand, 1) := by decide +kernel
theorem dJ6_bitCount_0f7a4_22 : decode cJ6_bitCount_0f7a4 22 = .ok (.iadd, 1) := by decide +kernel
theorem dJ6_bitCount_0f7a4_23 : decode cJ6_bitCount_0f7a4 23 = .ok (.istore_n 0, 1) := by decide +kernel
theorem dJ6_bitCount_0f7a4_24 : decode cJ6_bitCount_0f7a4 24 = .ok (.iload_n 0, 1) := by decide +kernel
theorem dJ6_bitCount_0f7a4_25 : decode cJ6_bitCount_0f7a4 25 = .ok (.iload_n 0, 1) := by decide +kernel
theorem dJ6_bitCount_0f7a4_26 : decode cJ6_bitCount_0f7a4 26 = .ok (.iconst 4, 1) := by decide +kernel
theorem dJ6_bitCount_0f7a4_27 : decode cJ6_bitCount_0f7a4 27 = .ok (.iushr, 1) := by decide +kernel
theorem dJ6_bitCount_0f7a4_28 : decode cJ6_bitCount_0f7a4 28 = .ok (.iadd, 1) := by decide +kernel
theorem dJ6_bitCount_0f7a4_29 : decode cJ6_bitCount_0f7a4 29 = .ok (.ldc_w 267, 3) := by decide +kernel
theorem dJ6_bitCount_0f7a4_32 : decode cJ6_bitCount_0f7a4 32 = .ok (.iand, 1) := by decide +kernel
theorem dJ6_bitCount_0f7a4_33 : decode cJ6_bitCount_0f7a4 33 = .ok (.istore_n 0, 1) := by decide +kernel
theorem dJ6_bitCount_0f7a4_34 : decode cJ6_bitCount_0f7a4 34 = .ok (.iload_n 0, 1) := by decide +kernel
theorem dJ6_bitCount_0f7a4_35 : decode cJ6_bitCount_0f7a4 35 = .ok (.iload_n 0, 1) := by decide +kernel
theorem dJ6_bitCount_0f7a4_36 : decode cJ6_bitCount_0f7a4 36 = .ok (.bipush 8, 2) := by decide +kernel
theorem dJ6_bitCount_0f7a4_38 : decode cJ6_bitCount_0f7a4 38 = .ok (.iushr, 1) := by decide +kernel
theorem dJ6_bitCount_0f7a4_39 : decode cJ6_bitCount_0f7a4 39 = .ok (.iadd, 1) := by decide +kernel
theorem dJ6_bitCount_0f7a4_40 : decode cJ6_bitCount_0f7a4 40 = .ok (.istore_n 0, 1) := by decide +kernel
theorem dJ6_bitCount_0f7a4_41 : decode cJ6_bitCount_0f7a4 41 = .ok (.iload_n 0, 1) := by decide +kernel
theorem dJ6_bitCount_0f7a4_42 : decode cJ6_bitCount_0f7a4 42 = .ok (.iload_n 0, 1) := by decide +kernel
theorem dJ6_bitCount_0f7a4_43 : decode cJ6_bitCount_0f7a4 43 = .ok (.bipush 16, 2) := by decide +kernel
theorem dJ6_bitCount_0f7a4_45 : decode cJ6_bitCount_0f7a4 45 = .ok (.iushr, 1) := by decide +kernel
theorem dJ6_bitCount_0f7a4_46 : decode cJ6_bitCount_0f7a4 46 = .ok (.iadd, 1) := by decide +kernel
theorem dJ6_bitCount_0f7a4_47 : decode cJ6_bitCount_0f7a4 47 = .ok (.istore_n 0, 1) := by decide +kernel
theorem dJ6_bitCount_0f7a4_48 : decode cJ6_bitCount_0f7a4 48 = .ok (.iload_n 0, 1) := by decide +kernel
theorem dJ6_bitCount_0f7a4_49 : decode cJ6_bitCount_0f7a4 49 = .ok (.bipush 63, 2) := by decide +kernel
theorem dJ6_bitCount_0f7a4_51 : decode cJ6_bitCount_0f7a4 51 = .ok (.iand, 1) := by decide +kernel
theorem dJ6_bitCount_0f7a4_52 : decode cJ6_bitCount_0f7a4 52 = .ok (.ireturn, 1) := by decide +kernel
