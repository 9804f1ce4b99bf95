theorem dX3_window_1 : decode cX3_window 1 = .ok (.invokestatic 194, 3) := by decide +kernel
theorem dX3_window_4 : decode cX3_window 4 = .ok (.aload_n 0, 1) := by decide +kernel
theorem dX3_window_5 : decode cX3_window 5 = .ok (.iload_n 1, 1) := by decide +kernel
theorem dX3_window_6 : decode cX3_window 6 = .ok (.invokevirtual 168, 3) := by decide +kernel
theorem dX3_window_9 : decode cX3_window 9 = .ok (.getfield 214, 3) := by decide +kernel
theorem dX3_window_12 : decode cX3_window 12 = .ok (.ireturn, 1) := by decide +kernel
theorem dX3_windowAt_0 : decode cX3_windowAt 0 = .ok (.iload_n 1, 1) := by decide +kernel
theorem dX3_windowAt_1 : decode cX3_windowAt 1 = .ok (.invokestatic 194, 3) := by decide +kernel
theorem dX3_windowAt_4 : decode cX3_windowAt 4 = .ok (.aload_n 0, 1) := by decide +kernel
theorem dX3_windowAt_5 : decode cX3_windowAt 5 = .ok (.iload_n 1, 1) := by decide +kernel
theorem dX3_windowAt_6 : decode cX3_windowAt 6 = .ok (.invokevirtual 168, 3) := by decide +kernel
theorem dX3_windowAt_9 : decode cX3_windowAt 9 = .ok (.astore_n 3, 1) := by decide +kernel
theorem dX3_windowAt_10 : decode cX3_windowAt 10 = .ok (.aload_n 3, 1) := by decide +kernel
theorem dX3_windowAt_11 : decode cX3_windowAt 11 = .ok (.iload_n 2, 1) := by decide +kernel
theorem dX3_windowAt_12 : decode cX3_windowAt 12 = .ok (.invokevirtual 217, 3) := by decide +kernel
theorem dX3_windowAt_15 : decode cX3_windowAt 15 = .ok (.ifCond .ne 13, 3) := by decide +kernel
theorem dX3_windowAt_18 : decode cX3_windowAt 18 = .ok (.new 220, 3) := by decide +kernel
theorem dX3_windowAt_21 : decode cX3_windowAt 21 = .ok (.dup, 1) := by decide +kernel
theorem dX3_windowAt_22 : decode cX3_windowAt 22 = .ok (.ldc 222, 2) := by decide +kernel
theorem dX3_windowAt_24 : decode cX3_windowAt 24 = .ok (.invokespecial 224, 3) := by decide +kernel
theorem dX3_windowAt_27 : decode cX3_windowAt 27 = .ok (.athrow, 1) := by decide +kernel
theorem dX3_windowAt_28 : decode cX3_windowAt 28 = .ok (.aload_n 3, 1) := by decide +kernel
theorem dX3_windowAt_29 : decode cX3_windowAt 29 = .ok (.getfield 225, 3) := by decide +kernel
theorem dX3_windowAt_32 : decode cX3_windowAt 32 = .ok (.iload_n 2, 1) := by decide +kernel
theorem dX3_windowAt_33 : decode cX3_windowAt 33 = .ok (.iaload, 1) := by decide +kernel
theorem dX3_windowAt_34 : decode cX3_windowAt 34 = .ok (.ireturn, 1) := by decide +kernel
theorem dX3_known_0 : decode cX3_known 0 = .ok (.iload_n 1, 1) := by decide +kernel
theorem dX3_known_1 : decode cX3_known 1 = .ok (.invokestatic 194, 3) := by decide +kernel
theorem dX3_known_4 : decode cX3_known 4 = .ok (.aload_n 0, 1) := by decide +kernel
theorem dX3_known_5 : decode cX3_known 5 = .ok (.iload_n 1, 1) := by decide +kernel
theorem dX3_known_6 : decode cX3_known 6 = .ok (.invokevirtual 168, 3) := by decide +kernel
theorem dX3_known_9 : decode cX3_known 9 = .ok (.astore_n 3, 1) := by decide +kernel
theorem dX3_known_10 : decode cX3_known 10 = .ok (.aload_n 3, 1) := by decide +kernel
theorem dX3_known_11 : decode cX3_known 11 = .ok (.iload_n 2, 1) := by decide +kernel
theorem dX3_known_12 : decode cX3_known 12 = .ok (.invokevirtual 217, 3) := by decide +kernel
theorem dX3_known_15 : decode cX3_known 15 = .ok (.ifCond .ne 13, 3) := by decide +kernel
theorem dX3_known_18 : decode cX3_known 18 = .ok (.new 220, 3) := by decide +kernel
theorem dX3_known_21 : decode cX3_known 21 = .ok (.dup, 1) := by decide +kernel
theorem dX3_known_22 : decode cX3_known 22 = .ok (.ldc 222, 2) := by decide +kernel
theorem dX3_known_24 : decode cX3_known 24 = .ok (.invokespecial 224, 3) := by decide +kernel
theorem dX3_known_27 : decode cX3_known 27 = .ok (.athrow, 1) := by decide +kernel
theorem dX3_known_28 : decode cX3_known 28 = .ok (.aload_n 3, 1) := by decide +kernel
theorem dX3_known_29 : decode cX3_known 29 = .ok (.getfield 229, 3) := by decide +kernel
theorem dX3_known_32 : decode cX3_known 32 = .ok (.iload_n 2, 1) := by decide +kernel
theorem dX3_known_33 : decode cX3_known 33 = .ok (.iaload, 1) := by decide +kernel
theorem dX3_known_34 : decode cX3_known 34 = .ok (.ireturn, 1) := by decide +kernel
theorem dX3_isWithin_0 : decode cX3_isWithin 0 = .ok (.iload_n 0, 1) := by decide +kernel
theorem dX3_isWithin_1 : decode cX3_isWithin 1 = .ok (.iload_n 1, 1) := by decide +kernel
theorem dX3_isWithin_2 : decode cX3_isWithin 2 = .ok (.if_icmp .lt 12, 3) := by decide +kernel
theorem dX3_isWithin_5 : decode cX3_isWithin 5 = .ok (.iload_n 0, 1) := by decide +kernel
theorem dX3_isWithin_6 : decode cX3_isWithin 6 = .ok (.iload_n 2, 1) := by decide +kernel
theorem dX3_isWithin_7 : decode cX3_isWithin 7 = .ok (.if_icmp .gt 7, 3) := by decide +kernel
theorem dX3_isWithin_10 : decode cX3_isWithin 10 = .ok (.iconst 1, 1) := by decide +kernel
theorem dX3_isWithin_11 : decode cX3_isWithin 11 = .ok (.goto 4, 3) := by decide +kernel
theorem dX3_isWithin_14 : decode cX3_isWithin 14 = .ok (.iconst 0, 1) := by decide +kernel
theorem dX3_isWithin_15 : decode cX3_isWithin 15 = .ok (.ireturn, 1) := by decide +kernel
theorem dX3_isBox_0 : decode cX3_isBox 0 = .ok (.iload_n 0, 1) := by decide +kernel
theorem dX3_isBox_1 : decode cX3_isBox 1 = .ok (.iconst 0, 1) := by decide +kernel
theorem dX3_isBox_2 : decode cX3_isBox 2 = .ok (.iconst 5, 1) := by decide +kernel
theorem dX3_isBox_3 : decode cX3_isBox 3 = .ok (.invokestatic 26, 3) := by decide +kernel
theorem dX3_isBox_6 : decode cX3_isBox 6 = .ok (.ireturn, 1) := by decide +kernel
theorem dX3_isBoxSet_0 : decode cX3_isBoxSet 0 = .ok (.iload_n 0, 1) := by decide +kernel
theorem dX3_isBoxSet_1 : decode cX3_isBoxSet 1 = .ok (.iconst 1, 1) := by decide +kernel
theorem dX3_isBoxSet_2 : decode cX3_isBoxSet 2 = .ok (.bipush 63, 2) := by decide +kernel
theorem dX3_isBoxSet_4 : decode cX3_isBoxSet 4 = .ok (.invokestatic 26, 3) := by decide +kernel
theorem dX3_isBoxSet_7 : decode cX3_isBoxSet 7 = .ok (.ireturn, 1) := by decide +kernel
theorem dX3_isThread_0 : decode cX3_isThread 0 = .ok (.iload_n 0, 1) := by decide +kernel
theorem dX3_isThread_1 : decode cX3_isThread 1 = .ok (.iconst 0, 1) := by decide +kernel
theorem dX3_isThread_2 : decode cX3_isThread 2 = .ok (.bipush 9, 2) := by decide +kernel
theorem dX3_isThread_4 : decode cX3_isThread 4 = .ok (.invokestatic 26, 3) := by decide +kernel
theorem dX3_isThread_7 : decode cX3_isThread 7 = .ok (.ireturn, 1) := by decide +kernel
theorem dX3_isKeyword_0 : decode cX3_isKeyword 0 = .ok (.iload_n 0, 1) := by decide +kernel
theorem dX3_isKeyword_1 : decode cX3_isKeyword 1 = .ok (.iconst 0, 1) := by decide +kernel
theorem dX3_isKeyword_2 : decode cX3_isKeyword 2 = .ok (.iconst 3, 1) := by decide +kernel
theorem dX3_isKeyword_3 : decode cX3_isKeyword 3 = .ok (.invokestatic 26, 3) := by decide +kernel
theorem dX3_isKeyword_6 : decode cX3_isKeyword 6 = .ok (.ireturn, 1) := by decide +kernel
theorem dX3_isQueryKeyword_0 : decode cX3_isQueryKeyword 0 = .ok (.iload_n 0, 1) := by decide +kernel
theorem dX3_isQueryKeyword_1 : decode cX3_isQueryKeyword 1 = .ok (.iconst (-1), 1) := by decide +kernel
theorem dX3_isQueryKeyword_2 : decode cX3_isQueryKeyword 2 = .ok (.if_icmp .eq 10, 3) := by decide +kernel
theorem dX3_isQueryKeyword_5 : decode cX3_isQueryKeyword 5 = .ok (.iload_n 0, 1) := by decide +kernel
theorem dX3_isQueryKeyword_6 : decode cX3_isQueryKeyword 6 = .ok (.invokestatic 76, 3) := by decide +kernel
theorem dX3_isQueryKeyword_9 : decode cX3_isQueryKeyword 9 = .ok (.ifCond .eq 7, 3) := by decide +kernel
theorem dX3_isQueryKeyword_12 : decode cX3_isQueryKeyword 12 = .ok (.iconst 1, 1) := by decide +kernel
theorem dX3_isQueryKeyword_13 : decode cX3_isQueryKeyword 13 = .ok (.goto 4, 3) := by decide +kernel
theorem dX3_isQueryKeyword_16 : decode cX3_isQueryKeyword 16 = .ok (.iconst 0, 1) := by decide +kernel
theorem dX3_isQueryKeyword_17 : decode cX3_isQueryKeyword 17 = .ok (.ireturn, 1) := by decide +kernel
theorem dX3_isWay_0 : decode cX3_isWay 0 = .ok (.iload_n 0, 1) := by decide +kernel
theorem dX3_isWay_1 : decode cX3_isWay 1 = .ok (.iconst 0, 1) := by decide +kernel
theorem dX3_isWay_2 : decode cX3_isWay 2 = .ok (.iconst 2, 1) := by decide +kernel
theorem dX3_isWay_3 : decode cX3_isWay 3 = .ok (.invokestatic 26, 3) := by decide +kernel
theorem dX3_isWay_6 : decode cX3_isWay 6 = .ok (.ireturn, 1) := by decide +kernel
theorem dX3_isClient_0 : decode cX3_isClient 0 = .ok (.iload_n 0, 1) := by decide +kernel
theorem dX3_isClient_1 : decode cX3_isClient 1 = .ok (.iconst 0, 1) := by decide +kernel
theorem dX3_isClient_2 : decode cX3_isClient 2 = .ok (.iconst 1, 1) := by decide +kernel
theorem dX3_isClient_3 : decode cX3_isClient 3 = .ok (.invokestatic 26, 3) := by decide +kernel
theorem dX3_isClient_6 : decode cX3_isClient 6 = .ok (.ireturn, 1) := by decide +kernel
theorem dX3_requireClient_0 : decode cX3_requireClient 0 = .ok (.iload_n 0, 1) := by decide +kernel
theorem dX3_requireClient_1 : decode cX3_requireClient 1 = .ok (.invokestatic 163, 3) := by decide +kernel
theorem dX3_requireClient_4 : decode cX3_requireClient 4 = .ok (.ifCond .ne 13, 3) := by decide +kernel
theorem dX3_requireClient_7 : decode cX3_requireClient 7 = .ok (.new 37, 3) := by decide +kernel
theorem dX3_requireClient_10 : decode cX3_requireClient 10 = .ok (.dup, 1) := by decide +kernel
theorem dX3_requireClient_11 : decode cX3_requireClient 11 = .ok (.ldc 232, 2) := by decide +kernel
theorem dX3_requireClient_13 : decode cX3_requireClient 13 = .ok (.invokespecial 41, 3) := by decide +kernel
theorem dX3_requireClient_16 : decode cX3_requireClient 16 = .ok (.athrow, 1) := by decide +kernel
theorem dX3_requireClient_17 : decode cX3_requireClient 17 = .ok (.return_, 1) := by decide +kernel
theorem dX3_requireMail_0 : decode cX3_requireMail 0 = .ok (.iload_n 0, 1) := by decide +kernel
theorem dX3_requireMail_1 : decode cX3_requireMail 1 = .ok (.ifCond .ne 13, 3) := by decide +kernel
theorem dX3_requireMail_4 : decode cX3_requireMail 4 = .ok (.new 220, 3) := by decide +kernel
theorem dX3_requireMail_7 : decode cX3_requireMail 7 = .ok (.dup, 1) := by decide +kernel
theorem dX3_requireMail_8 : decode cX3_requireMail 8 = .ok (.ldc 222, 2) := by decide +kernel
theorem dX3_requireMail_10 : decode cX3_requireMail 10 = .ok (.invokespecial 224, 3) := by decide +kernel
theorem dX3_requireMail_13 : decode cX3_requireMail 13 = .ok (.athrow, 1) := by decide +kernel
theorem dX3_requireMail_14 : decode cX3_requireMail 14 = .ok (.return_, 1) := by decide +kernel
theorem dX3_requireTelling_0 : decode cX3_requireTelling 0 = .ok (.aload_n 0, 1) := by decide +kernel
theorem dX3_requireTelling_1 : decode cX3_requireTelling 1 = .ok (.getfield 10, 3) := by decide +kernel
theorem dX3_requireTelling_4 : decode cX3_requireTelling 4 = .ok (.getfield 85, 3) := by decide +kernel
theorem dX3_requireTelling_7 : decode cX3_requireTelling 7 = .ok (.iload_n 1, 1) := by decide +kernel
theorem dX3_requireTelling_8 : decode cX3_requireTelling 8 = .ok (.invokevirtual 121, 3) := by decide +kernel
theorem dX3_requireTelling_11 : decode cX3_requireTelling 11 = .ok (.ifCond .ne 13, 3) := by decide +kernel
theorem dX3_requireTelling_14 : decode cX3_requireTelling 14 = .ok (.new 48, 3) := by decide +kernel
theorem dX3_requireTelling_17 : decode cX3_requireTelling 17 = .ok (.dup, 1) := by decide +kernel
theorem dX3_requireTelling_18 : decode cX3_requireTelling 18 = .ok (.ldc 234, 2) := by decide +kernel
theorem dX3_requireTelling_20 : decode cX3_requireTelling 20 = .ok (.invokespecial 52, 3) := by decide +kernel
theorem dX3_requireTelling_23 : decode cX3_requireTelling 23 = .ok (.athrow, 1) := by decide +kernel
theorem dX3_requireTelling_24 : decode cX3_requireTelling 24 = .ok (.return_, 1) := by decide +kernel
theorem dX3_isState_0 : decode cX3_isState 0 = .ok (.iload_n 1, 1) := by decide +kernel
theorem dX3_isState_1 : decode cX3_isState 1 = .ok (.iconst 0, 1) := by decide +kernel
theorem dX3_isState_2 : decode cX3_isState 2 = .ok (.aload_n 0, 1) := by decide +kernel
theorem dX3_isState_3 : decode cX3_isState 3 = .ok (.getfield 10, 3) := by decide +kernel
theorem dX3_isState_6 : decode cX3_isState 6 = .ok (.getfield 85, 3) := by decide +kernel
theorem dX3_isState_9 : decode cX3_isState 9 = .ok (.getfield 89, 3) := by decide +kernel
theorem dX3_isState_12 : decode cX3_isState 12 = .ok (.invokestatic 26, 3) := by decide +kernel
theorem dX3_isState_15 : decode cX3_isState 15 = .ok (.ireturn, 1) := by decide +kernel
theorem dX3_clientOf_0 : decode cX3_clientOf 0 = .ok (.iload_n 1, 1) := by decide +kernel
theorem dX3_clientOf_1 : decode cX3_clientOf 1 = .ok (.ifCond .ne 10, 3) := by decide +kernel
theorem dX3_clientOf_4 : decode cX3_clientOf 4 = .ok (.aload_n 0, 1) := by decide +kernel
theorem dX3_clientOf_5 : decode cX3_clientOf 5 = .ok (.getfield 19, 3) := by decide +kernel
theorem dX3_clientOf_8 : decode cX3_clientOf 8 = .ok (.goto 7, 3) := by decide +kernel
theorem dX3_clientOf_11 : decode cX3_clientOf 11 = .ok (.aload_n 0, 1) := by decide +kernel
theorem dX3_clientOf_12 : decode cX3_clientOf 12 = .ok (.getfield 23, 3) := by decide +kernel
theorem dX3_clientOf_15 : decode cX3_clientOf 15 = .ok (.areturn, 1) := by decide +kernel
theorem dX3_asked_0 : decode cX3_asked 0 = .ok (.iload_n 0, 1) := by decide +kernel
theorem dX3_asked_1 : decode cX3_asked 1 = .ok (.iconst (-1), 1) := by decide +kernel
theorem dX3_asked_2 : decode cX3_asked 2 = .ok (.if_icmp .ne 7, 3) := by decide +kernel
theorem dX3_asked_5 : decode cX3_asked 5 = .ok (.iconst 0, 1) := by decide +kernel
theorem dX3_asked_6 : decode cX3_asked 6 = .ok (.goto 6, 3) := by decide +kernel
theorem dX3_asked_9 : decode cX3_asked 9 = .ok (.iconst 1, 1) := by decide +kernel
theorem dX3_asked_10 : decode cX3_asked 10 = .ok (.iload_n 0, 1) := by decide +kernel
theorem dX3_asked_11 : decode cX3_asked 11 = .ok (.ishl, 1) := by decide +kernel
theorem dX3_asked_12 : decode cX3_asked 12 = .ok (.ireturn, 1) := by decide +kernel
theorem dX3_holds_0 : decode cX3_holds 0 = .ok (.lload_n 0, 1) := by decide +kernel
theorem dX3_holds_1 : decode cX3_holds 1 = .ok (.iload_n 2, 1) := by decide +kernel
theorem dX3_holds_2 : decode cX3_holds 2 = .ok (.lshr, 1) := by decide +kernel
theorem dX3_holds_3 : decode cX3_holds 3 = .ok (.lconst 1, 1) := by decide +kernel
theorem dX3_holds_4 : decode cX3_holds 4 = .ok (.land, 1) := by decide +kernel
theorem dX3_holds_5 : decode cX3_holds 5 = .ok (.lconst 1, 1) := by decide +kernel
theorem dX3_holds_6 : decode cX3_holds 6 = .ok (.lcmp, 1) := by decide +kernel
theorem dX3_holds_7 : decode cX3_holds 7 = .ok (.ifCond .ne 7, 3) := by decide +kernel
theorem dX3_holds_10 : decode cX3_holds 10 = .ok (.iconst 1, 1) := by decide +kernel
theorem dX3_holds_11 : decode cX3_holds 11 = .ok (.goto 4, 3) := by decide +kernel
theorem dX3_holds_14 : decode cX3_holds 14 = .ok (.iconst 0, 1) := by decide +kernel
theorem dX3_holds_15 : decode cX3_holds 15 = .ok (.ireturn, 1) := by decide +kernel
theorem dX3_with_0 : decode cX3_with 0 = .ok (.iload_n 3, 1) := by decide +kernel
theorem dX3_with_1 : decode cX3_with 1 = .ok (.ifCond .eq 11, 3) := by decide +kernel
theorem dX3_with_4 : decode cX3_with 4 = .ok (.lload_n 0, 1) := by decide +kernel
theorem dX3_with_5 : decode cX3_with 5 = .ok (.lconst 1, 1) := by decide +kernel
theorem dX3_with_6 : decode cX3_with 6 = .ok (.iload_n 2, 1) := by decide +kernel
theorem dX3_with_7 : decode cX3_with 7 = .ok (.lshl, 1) := by decide +kernel
theorem dX3_with_8 : decode cX3_with 8 = .ok (.lor, 1) := by decide +kernel
theorem dX3_with_9 : decode cX3_with 9 = .ok (.goto 12, 3) := by decide +kernel
theorem dX3_with_12 : decode cX3_with 12 = .ok (.lload_n 0, 1) := by decide +kernel
theorem dX3_with_13 : decode cX3_with 13 = .ok (.lconst 1, 1) := by decide +kernel
theorem dX3_with_14 : decode cX3_with 14 = .ok (.iload_n 2, 1) := by decide +kernel
theorem dX3_with_15 : decode cX3_with 15 = .ok (.lshl, 1) := by decide +kernel
theorem dX3_with_16 : decode cX3_with 16 = .ok (.ldc2_w 161, 3) := by decide +kernel
theorem dX3_with_19 : decode cX3_with 19 = .ok (.lxor, 1) := by decide +kernel
theorem dX3_with_20 : decode cX3_with 20 = .ok (.land, 1) := by decide +kernel
theorem dX3_with_21 : decode cX3_with 21 = .ok (.lreturn, 1) := by decide +kernel
theorem dX3_matches_0 : decode cX3_matches 0 = .ok (.iload_n 0, 1) := by decide +kernel
theorem dX3_matches_1 : decode cX3_matches 1 = .ok (.iload_n 2, 1) := by decide +kernel
theorem dX3_matches_2 : decode cX3_matches 2 = .ok (.iand, 1) := by decide +kernel
theorem dX3_matches_3 : decode cX3_matches 3 = .ok (.ifCond .eq 14, 3) := by decide +kernel
theorem dX3_matches_6 : decode cX3_matches 6 = .ok (.iload_n 1, 1) := by decide +kernel
theorem dX3_matches_7 : decode cX3_matches 7 = .ok (.iload_n 3, 1) := by decide +kernel
theorem dX3_matches_8 : decode cX3_matches 8 = .ok (.iand, 1) := by decide +kernel
theorem dX3_matches_9 : decode cX3_matches 9 = .ok (.iload_n 3, 1) := by decide +kernel
theorem dX3_matches_10 : decode cX3_matches 10 = .ok (.if_icmp .ne 7, 3) := by decide +kernel
theorem dX3_matches_13 : decode cX3_matches 13 = .ok (.iconst 1, 1) := by decide +kernel
theorem dX3_matches_14 : decode cX3_matches 14 = .ok (.goto 4, 3) := by decide +kernel
theorem dX3_matches_17 : decode cX3_matches 17 = .ok (.iconst 0, 1) := by decide +kernel
theorem dX3_matches_18 : decode cX3_matches 18 = .ok (.ireturn, 1) := by decide +kernel
theorem dJ13_bitCount_95d88_0 : decode cJ13_bitCount_95d88 0 = .ok (.lload_n 0, 1) := by decide +kernel
theorem dJ13_bitCount_95d88_1 : decode cJ13_bitCount_95d88 1 = .ok (.lload_n 0, 1) := by decide +kernel
theorem dJ13_bitCount_95d88_2 : decode cJ13_bitCount_95d88 2 = .ok (.iconst 1, 1) := by decide +kernel
theorem dJ13_bitCount_95d88_3 : decode cJ13_bitCount_95d88 3 = .ok (.lushr, 1) := by decide +kernel
theorem dJ13_bitCount_95d88_4 : decode cJ13_bitCount_95d88 4 = .ok (.ldc2_w 314, 3) := by decide +kernel
theorem dJ13_bitCount_95d88_7 : decode cJ13_bitCount_95d88 7 = .ok (.land, 1) := by decide +kernel
theorem dJ13_bitCount_95d88_8 : decode cJ13_bitCount_95d88 8 = .ok (.lsub, 1) := by decide +kernel
theorem dJ13_bitCount_95d88_9 : decode cJ13_bitCount_95d88 9 = .ok (.lstore_n 0, 1) := by decide +kernel
theorem dJ13_bitCount_95d88_10 : decode cJ13_bitCount_95d88 10 = .ok (.lload_n 0, 1) := by decide +kernel
theorem dJ13_bitCount_95d88_11 : decode cJ13_bitCount_95d88 11 = .ok (.ldc2_w 316, 3) := by decide +kernel
theorem dJ13_bitCount_95d88_14 : decode cJ13_bitCount_95d88 14 = .ok (.land, 1) := by decide +kernel
theorem dJ13_bitCount_95d88_15 : decode cJ13_bitCount_95d88 15 = .ok (.lload_n 0, 1) := by decide +kernel
theorem dJ13_bitCount_95d88_16 : decode cJ13_bitCount_95d88 16 = .ok (.iconst 2, 1) := by decide +kernel
theorem dJ13_bitCount_95d88_17 : decode cJ13_bitCount_95d88 17 = .ok (.lushr, 1) := by decide +kernel
theorem dJ13_bitCount_95d88_18 : decode cJ13_bitCount_95d88 18 = .ok (.ldc2_w 316, 3) := by decide +kernel
theorem dJ13_bitCount_95d88_21 : decode cJ13_bitCount_95d88 21 = .ok (.land, 1) := by decide +kernel
theorem dJ13_bitCount_95d88_22 : decode cJ13_bitCount_95d88 22 = .ok (.ladd, 1) := by decide +kernel
theorem dJ13_bitCount_95d88_23 : decode cJ13_bitCount_95d88 23 = .ok (.lstore_n 0, 1) := by decide +kernel
theorem dJ13_bitCount_95d88_24 : decode cJ13_bitCount_95d88 24 = .ok (.lload_n 0, 1) := by decide +kernel
theorem dJ13_bitCount_95d88_25 : decode cJ13_bitCount_95d88 25 = .ok (.lload_n 0, 1) := by decide +kernel
theorem dJ13_bitCount_95d88_26 : decode cJ13_bitCount_95d88 26 = .ok (.iconst 4, 1) := by decide +kernel
theorem dJ13_bitCount_95d88_27 : decode cJ13_bitCount_95d88 27 = .ok (.lushr, 1) := by decide +kernel
theorem dJ13_bitCount_95d88_28 : decode cJ13_bitCount_95d88 28 = .ok (.ladd, 1) := by decide +kernel
theorem dJ13_bitCount_95d88_29 : decode cJ13_bitCount_95d88 29 = .ok (.ldc2_w 318, 3) := by decide +kernel
theorem dJ13_bitCount_95d88_32 : decode cJ13_bitCount_95d88 32 = .ok (.land, 1) := by decide +kernel
theorem dJ13_bitCount_95d88_33 : decode cJ13_bitCount_95d88 33 = .ok (.lstore_n 0, 1) := by decide +kernel
theorem dJ13_bitCount_95d88_34 : decode cJ13_bitCount_95d88 34 = .ok (.lload_n 0, 1) := by decide +kernel
theorem dJ13_bitCount_95d88_35 : decode cJ13_bitCount_95d88 35 = .ok (.lload_n 0, 1) := by decide +kernel
theorem dJ13_bitCount_95d88_36 : decode cJ13_bitCount_95d88 36 = .ok (.bipush 8, 2) := by decide +kernel
theorem dJ13_bitCount_95d88_38 : decode cJ13_bitCount_95d88 38 = .ok (.lushr, 1) := by decide +kernel
theorem dJ13_bitCount_95d88_39 : decode cJ13_bitCount_95d88 39 = .ok (.ladd, 1) := by decide +kernel
theorem dJ13_bitCount_95d88_40 : decode cJ13_bitCount_95d88 40 = .ok (.lstore_n 0, 1) := by decide +kernel
theorem dJ13_bitCount_95d88_41 : decode cJ13_bitCount_95d88 41 = .ok (.lload_n 0, 1) := by decide +kernel
theorem dJ13_bitCount_95d88_42 : decode cJ13_bitCount_95d88 42 = .ok (.lload_n 0, 1) := by decide +kernel
theorem dJ13_bitCount_95d88_43 : decode cJ13_bitCount_95d88 43 = .ok (.bipush 16, 2) := by decide +kernel
theorem dJ13_bitCount_95d88_45 : decode cJ13_bitCount_95d88 45 = .ok (.lushr, 1) := by decide +kernel
theorem dJ13_bitCount_95d88_46 : decode cJ13_bitCount_95d88 46 = .ok (.ladd, 1) := by decide +kernel
theorem dJ13_bitCount_95d88_47 : decode cJ13_bitCount_95d88 47 = .ok (.lstore_n 0, 1) := by decide +kernel
theorem dJ13_bitCount_95d88_48 : decode cJ13_bitCount_95d88 48 = .ok (.lload_n 0, 1) := by decide +kernel
theorem dJ13_bitCount_95d88_49 : decode cJ13_bitCount_95d88 49 = .ok (.lload_n 0, 1) := by decide +kernel
theorem dJ13_bitCount_95d88_50 : decode cJ13_bitCount_95d88 50 = .ok (.bipush 32, 2) := by decide +kernel
theorem dJ13_bitCount_95d88_52 : decode cJ13_bitCount_95d88 52 = .ok (.lushr, 1) := by decide +kernel
theorem dJ13_bitCount_95d88_53 : decode cJ13_bitCount_95d88 53 = .ok (.ladd, 1) := by decide +kernel
theorem dJ13_bitCount_95d88_54 : decode cJ13_bitCount_95d88 54 = .ok (.lstore_n 0, 1) := by decide +kernel
theorem dJ13_bitCount_95d88_55 : decode cJ13_bitCount_95d88 55 = .ok (.lload_n 0, 1) := by decide +kernel
theorem dJ13_bitCount_95d88_56 : decode cJ13_bitCount_95d88 56 = .ok (.l2i, 1) := by decide +kernel
theorem dJ13_bitCount_95d88_57 : decode cJ13_bitCount_95d88 57 = .ok (.bipush 127, 2) := by decide +kernel
theorem dJ13_bitCount_95d88_59 : decode cJ13_bitCount_95d88 59 = .ok (.iand, 1) := by decide +kernel
theorem dJ13_bitCount_95d88_60 : decode cJ13_bitCount_95d88 60 = .ok (.ireturn, 1) := by decide +kernel
theorem dJ9_floorMod_7cf53_0 : decode cJ9_floorMod_7cf53 0 = .ok (.iload_n 0, 1) := by decide +kernel
theorem dJ9_floorMod_7cf53_1 : decode cJ9_floorMod_7cf53 1 = .ok (.iload_n 1, 1) := by decide +kernel
theorem dJ9_floorMod_7cf53_2 : decode cJ9_floorMod_7cf53 2 = .ok (.irem, 1) := by decide +kernel
theorem dJ9_floorMod_7cf53_3 : decode cJ9_floorMod_7cf53 3 = .ok (.istore_n 2, 1) := by decide +kernel
theorem dJ9_floorMod_7cf53_4 : decode cJ9_floorMod_7cf53 4 = .ok (.iload_n 0, 1) := by decide +kernel
theorem dJ9_floorMod_7cf53_5 : decode cJ9_floorMod_7cf53 5 = .ok (.iload_n 1, 1) := by decide +kernel
theorem dJ9_floorMod_7cf53_6 : decode cJ9_floorMod_7cf53 6 = .ok (.ixor, 1) := by decide +kernel
theorem dJ9_floorMod_7cf53_7 : decode cJ9_floorMod_7cf53 7 = .ok (.ifCond .ge 11, 3) := by decide +kernel
theorem dJ9_floorMod_7cf53_10 : decode cJ9_floorMod_7cf53 10 = .ok (.iload_n 2, 1) := by decide +kernel
theorem dJ9_floorMod_7cf53_11 : decode cJ9_floorMod_7cf53 11 = .ok (.ifCond .eq 7, 3) := by decide +kernel
theorem dJ9_floorMod_7cf53_14 : decode cJ9_floorMod_7cf53 14 = .ok (.iload_n 2, 1) := by decide +kernel
theorem dJ9_floorMod_7cf53_15 : decode cJ9_floorMod_7cf53 15 = .ok (.iload_n 1, 1) := by decide +kernel
theorem dJ9_floorMod_7cf53_16 : decode cJ9_floorMod_7cf53 16 = .ok (.iadd, 1) := by decide +kernel
theorem dJ9_floorMod_7cf53_17 : decode cJ9_floorMod_7cf53 17 = .ok (.ireturn, 1) := by decide +kernel
theorem dJ9_floorMod_7cf53_18 : decode cJ9_floorMod_7cf53 18 = .ok (.iload_n 2, 1) := by decide +kernel
theorem dJ9_floorMod_7cf53_19 : decode cJ9_floorMod_7cf53 19 = .ok (.ireturn, 1) := by decide +kernel
theorem dJ9_min_7cf53_0 : decode cJ9_min_7cf53 0 = .ok (.iload_n 0, 1) := by decide +kernel
theorem dJ9_min_7cf53_1 : decode cJ9_min_7cf53 1 = .ok (.iload_n 1, 1) := by decide +kernel
theorem dJ9_min_7cf53_2 : decode cJ9_min_7cf53 2 = .ok (.if_icmp .gt 7, 3) := by decide +kernel
theorem dJ9_min_7cf53_5 : decode cJ9_min_7cf53 5 = .ok (.iload_n 0, 1) := by decide +kernel
theorem dJ9_min_7cf53_6 : decode cJ9_min_7cf53 6 = .ok (.goto 4, 3) := by decide +kernel
theorem dJ9_min_7cf53_9 : decode cJ9_min_7cf53 9 = .ok (.iload_n 1, 1) := by decide +kernel
theorem dJ9_min_7cf53_10 : decode cJ9_min_7cf53 10 = .ok (.ireturn, 1) := by decide +kernel
theorem dL_told_0 : decode cL_told 0 = .ok (.iload_n 1, 1) := by decide +kernel
theorem dL_told_1 : decode cL_told 1 = .ok (.aload_n 0, 1) := by decide +kernel
theorem dL_told_2 : decode cL_told 2 = .ok (.arraylength, 1) := by decide +kernel
theorem dL_told_3 : decode cL_told 3 = .ok (.if_icmp .ge 9, 3) := by decide +kernel
theorem dL_told_6 : decode cL_told 6 = .ok (.aload_n 0, 1) := by decide +kernel
theorem dL_told_7 : decode cL_told 7 = .ok (.iload_n 1, 1) := by decide +kernel
theorem dL_told_8 : decode cL_told 8 = .ok (.iaload, 1) := by decide +kernel
theorem dL_told_9 : decode cL_told 9 = .ok (.goto 15, 3) := by decide +kernel
theorem dL_told_12 : decode cL_told 12 = .ok (.sipush 26003, 3) := by decide +kernel
theorem dL_told_15 : decode cL_told 15 = .ok (.iload_n 1, 1) := by decide +kernel
theorem dL_told_16 : decode cL_told 16 = .ok (.iconst 3, 1) := by decide +kernel
theorem dL_told_17 : decode cL_told 17 = .ok (.iadd, 1) := by decide +kernel
theorem dL_told_18 : decode cL_told 18 = .ok (.imul, 1) := by decide +kernel
theorem dL_told_19 : decode cL_told 19 = .ok (.iload_n 1, 1) := by decide +kernel
theorem dL_told_20 : decode cL_told 20 = .ok (.bipush 10, 2) := by decide +kernel
theorem dL_told_22 : decode cL_told 22 = .ok (.iadd, 1) := by decide +kernel
theorem dL_told_23 : decode cL_told 23 = .ok (.imul, 1) := by decide +kernel
theorem dL_told_24 : decode cL_told 24 = .ok (.ldc 7, 2) := by decide +kernel
theorem dL_told_26 : decode cL_told 26 = .ok (.iand, 1) := by decide +kernel
theorem dL_told_27 : decode cL_told 27 = .ok (.ireturn, 1) := by decide +kernel
theorem dL_there_0 : decode cL_there 0 = .ok (.iconst 0, 1) := by decide +kernel
theorem dL_there_1 : decode cL_there 1 = .ok (.istore_n 3, 1) := by decide +kernel
theorem dL_there_2 : decode cL_there 2 = .ok (.iload_n 3, 1) := by decide +kernel
theorem dL_there_3 : decode cL_there 3 = .ok (.iload_n 1, 1) := by decide +kernel
theorem dL_there_4 : decode cL_there 4 = .ok (.if_icmp .ge 25, 3) := by decide +kernel
theorem dL_there_7 : decode cL_there 7 = .ok (.aload_n 0, 1) := by decide +kernel
theorem dL_there_8 : decode cL_there 8 = .ok (.iload_n 2, 1) := by decide +kernel
theorem dL_there_9 : decode cL_there 9 = .ok (.iload_n 3, 1) := by decide +kernel
theorem dL_there_10 : decode cL_there 10 = .ok (.iadd, 1) := by decide +kernel
theorem dL_there_11 : decode cL_there 11 = .ok (.iload_n 1, 1) := by decide +kernel
theorem dL_there_12 : decode cL_there 12 = .ok (.irem, 1) := by decide +kernel
theorem dL_there_13 : decode cL_there 13 = .ok (.iaload, 1) := by decide +kernel
theorem dL_there_14 : decode cL_there 14 = .ok (.ifCond .ne 9, 3) := by decide +kernel
theorem dL_there_17 : decode cL_there 17 = .ok (.iload_n 2, 1) := by decide +kernel
theorem dL_there_18 : decode cL_there 18 = .ok (.iload_n 3, 1) := by decide +kernel
theorem dL_there_19 : decode cL_there 19 = .ok (.iadd, 1) := by decide +kernel
theorem dL_there_20 : decode cL_there 20 = .ok (.iload_n 1, 1) := by decide +kernel
theorem dL_there_21 : decode cL_there 21 = .ok (.irem, 1) := by decide +kernel
theorem dL_there_22 : decode cL_there 22 = .ok (.ireturn, 1) := by decide +kernel
theorem dL_there_23 : decode cL_there 23 = .ok (.iinc 3 1, 3) := by decide +kernel
theorem dL_there_26 : decode cL_there 26 = .ok (.goto (-24), 3) := by decide +kernel
theorem dL_there_29 : decode cL_there 29 = .ok (.iconst (-1), 1) := by decide +kernel
theorem dL_there_30 : decode cL_there 30 = .ok (.ireturn, 1) := by decide +kernel
theorem dL_isFresh_0 : decode cL_isFresh 0 = .ok (.aload_n 0, 1) := by decide +kernel
theorem dL_isFresh_1 : decode cL_isFresh 1 = .ok (.iload_n 2, 1) := by decide +kernel
theorem dL_isFresh_2 : decode cL_isFresh 2 = .ok (.iconst (-1), 1) := by decide +kernel
theorem dL_isFresh_3 : decode cL_isFresh 3 = .ok (.invokevirtual 8, 3) := by decide +kernel
theorem dL_isFresh_6 : decode cL_isFresh 6 = .ok (.istore 4, 2) := by decide +kernel
theorem dL_isFresh_8 : decode cL_isFresh 8 = .ok (.aload_n 0, 1) := by decide +kernel
theorem dL_isFresh_9 : decode cL_isFresh 9 = .ok (.iload_n 1, 1) := by decide +kernel
theorem dL_isFresh_10 : decode cL_isFresh 10 = .ok (.invokevirtual 14, 3) := by decide +kernel
theorem dL_isFresh_13 : decode cL_isFresh 13 = .ok (.aload_n 0, 1) := by decide +kernel
theorem dL_isFresh_14 : decode cL_isFresh 14 = .ok (.invokevirtual 18, 3) := by decide +kernel
theorem dL_isFresh_17 : decode cL_isFresh 17 = .ok (.if_icmp .ne 27, 3) := by decide +kernel
theorem dL_isFresh_20 : decode cL_isFresh 20 = .ok (.aload_n 0, 1) := by decide +kernel
theorem dL_isFresh_21 : decode cL_isFresh 21 = .ok (.iload_n 1, 1) := by decide +kernel
theorem dL_isFresh_22 : decode cL_isFresh 22 = .ok (.invokevirtual 22, 3) := by decide +kernel
theorem dL_isFresh_25 : decode cL_isFresh 25 = .ok (.iload 4, 2) := by decide +kernel
theorem dL_isFresh_27 : decode cL_isFresh 27 = .ok (.iload_n 3, 1) := by decide +kernel
theorem dL_isFresh_28 : decode cL_isFresh 28 = .ok (.if_icmp .ge 8, 3) := by decide +kernel
theorem dL_isFresh_31 : decode cL_isFresh 31 = .ok (.iload 4, 2) := by decide +kernel
theorem dL_isFresh_33 : decode cL_isFresh 33 = .ok (.goto 4, 3) := by decide +kernel
theorem dL_isFresh_36 : decode cL_isFresh 36 = .ok (.iload_n 3, 1) := by decide +kernel
theorem dL_isFresh_37 : decode cL_isFresh 37 = .ok (.if_icmp .ne 7, 3) := by decide +kernel
theorem dL_isFresh_40 : decode cL_isFresh 40 = .ok (.iconst 1, 1) := by decide +kernel
theorem dL_isFresh_41 : decode cL_isFresh 41 = .ok (.goto 4, 3) := by decide +kernel
theorem dL_isFresh_44 : decode cL_isFresh 44 = .ok (.iconst 0, 1) := by decide +kernel
theorem dL_isFresh_45 : decode cL_isFresh 45 = .ok (.istore 5, 2) := by decide +kernel
theorem dL_isFresh_47 : decode cL_isFresh 47 = .ok (.iconst 0, 1) := by decide +kernel
theorem dL_isFresh_48 : decode cL_isFresh 48 = .ok (.istore 6, 2) := by decide +kernel
theorem dL_isFresh_50 : decode cL_isFresh 50 = .ok (.iload 6, 2) := by decide +kernel
theorem dL_isFresh_52 : decode cL_isFresh 52 = .ok (.aload_n 0, 1) := by decide +kernel
theorem dL_isFresh_53 : decode cL_isFresh 53 = .ok (.iload_n 1, 1) := by decide +kernel
theorem dL_isFresh_54 : decode cL_isFresh 54 = .ok (.invokevirtual 22, 3) := by decide +kernel
theorem dL_isFresh_57 : decode cL_isFresh 57 = .ok (.if_icmp .ge 60, 3) := by decide +kernel
theorem dL_isFresh_60 : decode cL_isFresh 60 = .ok (.iload 5, 2) := by decide +kernel
theorem dL_isFresh_62 : decode cL_isFresh 62 = .ok (.ifCond .eq 55, 3) := by decide +kernel
theorem dL_isFresh_65 : decode cL_isFresh 65 = .ok (.aload_n 0, 1) := by decide +kernel
theorem dL_isFresh_66 : decode cL_isFresh 66 = .ok (.iload_n 1, 1) := by decide +kernel
theorem dL_isFresh_67 : decode cL_isFresh 67 = .ok (.iload 6, 2) := by decide +kernel
theorem dL_isFresh_69 : decode cL_isFresh 69 = .ok (.invokevirtual 25, 3) := by decide +kernel
theorem dL_isFresh_72 : decode cL_isFresh 72 = .ok (.aload_n 0, 1) := by decide +kernel
theorem dL_isFresh_73 : decode cL_isFresh 73 = .ok (.iload_n 2, 1) := by decide +kernel
theorem dL_isFresh_74 : decode cL_isFresh 74 = .ok (.iconst (-1), 1) := by decide +kernel
theorem dL_isFresh_75 : decode cL_isFresh 75 = .ok (.iload 6, 2) := by decide +kernel
theorem dL_isFresh_77 : decode cL_isFresh 77 = .ok (.invokevirtual 28, 3) := by decide +kernel
theorem dL_isFresh_80 : decode cL_isFresh 80 = .ok (.if_icmp .ne 28, 3) := by decide +kernel
theorem dL_isFresh_83 : decode cL_isFresh 83 = .ok (.aload_n 0, 1) := by decide +kernel
theorem dL_isFresh_84 : decode cL_isFresh 84 = .ok (.iload_n 1, 1) := by decide +kernel
theorem dL_isFresh_85 : decode cL_isFresh 85 = .ok (.iload 6, 2) := by decide +kernel
theorem dL_isFresh_87 : decode cL_isFresh 87 = .ok (.invokevirtual 32, 3) := by decide +kernel
theorem dL_isFresh_90 : decode cL_isFresh 90 = .ok (.aload_n 0, 1) := by decide +kernel
theorem dL_isFresh_91 : decode cL_isFresh 91 = .ok (.aload_n 0, 1) := by decide +kernel
theorem dL_isFresh_92 : decode cL_isFresh 92 = .ok (.iload_n 1, 1) := by decide +kernel
theorem dL_isFresh_93 : decode cL_isFresh 93 = .ok (.iload 6, 2) := by decide +kernel
theorem dL_isFresh_95 : decode cL_isFresh 95 = .ok (.invokevirtual 25, 3) := by decide +kernel
theorem dL_isFresh_98 : decode cL_isFresh 98 = .ok (.invokevirtual 35, 3) := by decide +kernel
theorem dL_isFresh_101 : decode cL_isFresh 101 = .ok (.if_icmp .ne 7, 3) := by decide +kernel
theorem dL_isFresh_104 : decode cL_isFresh 104 = .ok (.iconst 1, 1) := by decide +kernel
theorem dL_isFresh_105 : decode cL_isFresh 105 = .ok (.goto 4, 3) := by decide +kernel
theorem dL_isFresh_108 : decode cL_isFresh 108 = .ok (.iconst 0, 1) := by decide +kernel
theorem dL_isFresh_109 : decode cL_isFresh 109 = .ok (.istore 5, 2) := by decide +kernel
theorem dL_isFresh_111 : decode cL_isFresh 111 = .ok (.iinc 6 1, 3) := by decide +kernel
theorem dL_isFresh_114 : decode cL_isFresh 114 = .ok (.goto (-64), 3) := by decide +kernel
theorem dL_isFresh_117 : decode cL_isFresh 117 = .ok (.iload 5, 2) := by decide +kernel
theorem dL_isFresh_119 : decode cL_isFresh 119 = .ok (.ireturn, 1) := by decide +kernel
theorem dL_isTold_0 : decode cL_isTold 0 = .ok (.aload_n 0, 1) := by decide +kernel
theorem dL_isTold_1 : decode cL_isTold 1 = .ok (.iload_n 1, 1) := by decide +kernel
theorem dL_isTold_2 : decode cL_isTold 2 = .ok (.invokevirtual 38, 3) := by decide +kernel
theorem dL_isTold_5 : decode cL_isTold 5 = .ok (.ifCond .ne 20, 3) := by decide +kernel
theorem dL_isTold_8 : decode cL_isTold 8 = .ok (.aload_n 0, 1) := by decide +kernel
theorem dL_isTold_9 : decode cL_isTold 9 = .ok (.invokevirtual 18, 3) := by decide +kernel
theorem dL_isTold_12 : decode cL_isTold 12 = .ok (.iload_n 1, 1) := by decide +kernel
theorem dL_isTold_13 : decode cL_isTold 13 = .ok (.isub, 1) := by decide +kernel
theorem dL_isTold_14 : decode cL_isTold 14 = .ok (.bipush 40, 2) := by decide +kernel
theorem dL_isTold_16 : decode cL_isTold 16 = .ok (.if_icmp .le 7, 3) := by decide +kernel
theorem dL_isTold_19 : decode cL_isTold 19 = .ok (.iconst 1, 1) := by decide +kernel
theorem dL_isTold_20 : decode cL_isTold 20 = .ok (.goto 4, 3) := by decide +kernel
theorem dL_isTold_23 : decode cL_isTold 23 = .ok (.iconst 0, 1) := by decide +kernel
theorem dL_isTold_24 : decode cL_isTold 24 = .ok (.ireturn, 1) := by decide +kernel
theorem dL_isTold_25 : decode cL_isTold 25 = .ok (.aload_n 0, 1) := by decide +kernel
theorem dL_isTold_26 : decode cL_isTold 26 = .ok (.invokevirtual 18, 3) := by decide +kernel
theorem dL_isTold_29 : decode cL_isTold 29 = .ok (.iload_n 1, 1) := by decide +kernel
theorem dL_isTold_30 : decode cL_isTold 30 = .ok (.isub, 1) := by decide +kernel
theorem dL_isTold_31 : decode cL_isTold 31 = .ok (.bipush 40, 2) := by decide +kernel
theorem dL_isTold_33 : decode cL_isTold 33 = .ok (.if_icmp .gt 7, 3) := by decide +kernel
theorem dL_isTold_36 : decode cL_isTold 36 = .ok (.iconst 1, 1) := by decide +kernel
theorem dL_isTold_37 : decode cL_isTold 37 = .ok (.goto 4, 3) := by decide +kernel
theorem dL_isTold_40 : decode cL_isTold 40 = .ok (.iconst 0, 1) := by decide +kernel
theorem dL_isTold_41 : decode cL_isTold 41 = .ok (.istore 5, 2) := by decide +kernel
theorem dL_isTold_43 : decode cL_isTold 43 = .ok (.iload 5, 2) := by decide +kernel
theorem dL_isTold_45 : decode cL_isTold 45 = .ok (.ifCond .eq 29, 3) := by decide +kernel
theorem dL_isTold_48 : decode cL_isTold 48 = .ok (.aload_n 0, 1) := by decide +kernel
theorem dL_isTold_49 : decode cL_isTold 49 = .ok (.invokevirtual 42, 3) := by decide +kernel
theorem dL_isTold_52 : decode cL_isTold 52 = .ok (.iload_n 2, 1) := by decide +kernel
theorem dL_isTold_53 : decode cL_isTold 53 = .ok (.aload_n 0, 1) := by decide +kernel
theorem dL_isTold_54 : decode cL_isTold 54 = .ok (.iload_n 1, 1) := by decide +kernel
theorem dL_isTold_55 : decode cL_isTold 55 = .ok (.iconst 0, 1) := by decide +kernel
theorem dL_isTold_56 : decode cL_isTold 56 = .ok (.invokevirtual 45, 3) := by decide +kernel
theorem dL_isTold_59 : decode cL_isTold 59 = .ok (.iadd, 1) := by decide +kernel
theorem dL_isTold_60 : decode cL_isTold 60 = .ok (.aload_n 0, 1) := by decide +kernel
theorem dL_isTold_61 : decode cL_isTold 61 = .ok (.iload_n 1, 1) := by decide +kernel
theorem dL_isTold_62 : decode cL_isTold 62 = .ok (.iconst 2, 1) := by decide +kernel
theorem dL_isTold_63 : decode cL_isTold 63 = .ok (.invokevirtual 45, 3) := by decide +kernel
theorem dL_isTold_66 : decode cL_isTold 66 = .ok (.isub, 1) := by decide +kernel
theorem dL_isTold_67 : decode cL_isTold 67 = .ok (.if_icmp .ne 7, 3) := by decide +kernel
theorem dL_isTold_70 : decode cL_isTold 70 = .ok (.iconst 1, 1) := by decide +kernel
theorem dL_isTold_71 : decode cL_isTold 71 = .ok (.goto 4, 3) := by decide +kernel
theorem dL_isTold_74 : decode cL_isTold 74 = .ok (.iconst 0, 1) := by decide +kernel
theorem dL_isTold_75 : decode cL_isTold 75 = .ok (.istore 5, 2) := by decide +kernel
theorem dL_isTold_77 : decode cL_isTold 77 = .ok (.iload 5, 2) := by decide +kernel
theorem dL_isTold_79 : decode cL_isTold 79 = .ok (.ifCond .eq 34, 3) := by decide +kernel
theorem dL_isTold_82 : decode cL_isTold 82 = .ok (.aload_n 0, 1) := by decide +kernel
theorem dL_isTold_83 : decode cL_isTold 83 = .ok (.iload_n 3, 1) := by decide +kernel
theorem dL_isTold_84 : decode cL_isTold 84 = .ok (.iconst (-1), 1) := by decide +kernel
theorem dL_isTold_85 : decode cL_isTold 85 = .ok (.invokevirtual 8, 3) := by decide +kernel
theorem dL_isTold_88 : decode cL_isTold 88 = .ok (.iload 4, 2) := by decide +kernel
theorem dL_isTold_90 : decode cL_isTold 90 = .ok (.aload_n 0, 1) := by decide +kernel
theorem dL_isTold_91 : decode cL_isTold 91 = .ok (.iload_n 1, 1) := by decide +kernel
theorem dL_isTold_92 : decode cL_isTold 92 = .ok (.iload_n 3, 1) := by decide +kernel
theorem dL_isTold_93 : decode cL_isTold 93 = .ok (.iconst (-1), 1) := by decide +kernel
theorem dL_isTold_94 : decode cL_isTold 94 = .ok (.invokevirtual 48, 3) := by decide +kernel
theorem dL_isTold_97 : decode cL_isTold 97 = .ok (.iadd, 1) := by decide +kernel
theorem dL_isTold_98 : decode cL_isTold 98 = .ok (.aload_n 0, 1) := by decide +kernel
theorem dL_isTold_99 : decode cL_isTold 99 = .ok (.iload_n 1, 1) := by decide +kernel
theorem dL_isTold_100 : decode cL_isTold 100 = .ok (.iload_n 3, 1) := by decide +kernel
theorem dL_isTold_101 : decode cL_isTold 101 = .ok (.iconst (-1), 1) := by decide +kernel
theorem dL_isTold_102 : decode cL_isTold 102 = .ok (.invokevirtual 51, 3) := by decide +kernel
theorem dL_isTold_105 : decode cL_isTold 105 = .ok (.isub, 1) := by decide +kernel
theorem dL_isTold_106 : decode cL_isTold 106 = .ok (.if_icmp .ne 7, 3) := by decide +kernel
theorem dL_isTold_109 : decode cL_isTold 109 = .ok (.iconst 1, 1) := by decide +kernel
theorem dL_isTold_110 : decode cL_isTold 110 = .ok (.goto 4, 3) := by decide +kernel
theorem dL_isTold_113 : decode cL_isTold 113 = .ok (.iconst 0, 1) := by decide +kernel
theorem dL_isTold_114 : decode cL_isTold 114 = .ok (.istore 5, 2) := by decide +kernel
theorem dL_isTold_116 : decode cL_isTold 116 = .ok (.iload_n 1, 1) := by decide +kernel
theorem dL_isTold_117 : decode cL_isTold 117 = .ok (.istore 6, 2) := by decide +kernel
theorem dL_isTold_119 : decode cL_isTold 119 = .ok (.iconst 0, 1) := by decide +kernel
theorem dL_isTold_120 : decode cL_isTold 120 = .ok (.istore 7, 2) := by decide +kernel
theorem dL_isTold_122 : decode cL_isTold 122 = .ok (.iload 7, 2) := by decide +kernel
theorem dL_isTold_124 : decode cL_isTold 124 = .ok (.bipush 41, 2) := by decide +kernel
theorem dL_isTold_126 : decode cL_isTold 126 = .ok (.if_icmp .ge 64, 3) := by decide +kernel
theorem dL_isTold_129 : decode cL_isTold 129 = .ok (.iload 6, 2) := by decide +kernel
theorem dL_isTold_131 : decode cL_isTold 131 = .ok (.aload_n 0, 1) := by decide +kernel
theorem dL_isTold_132 : decode cL_isTold 132 = .ok (.invokevirtual 18, 3) := by decide +kernel
theorem dL_isTold_135 : decode cL_isTold 135 = .ok (.if_icmp .ge 55, 3) := by decide +kernel
theorem dL_isTold_138 : decode cL_isTold 138 = .ok (.iload 5, 2) := by decide +kernel
theorem dL_isTold_140 : decode cL_isTold 140 = .ok (.ifCond .eq 50, 3) := by decide +kernel
theorem dL_isTold_143 : decode cL_isTold 143 = .ok (.aload_n 0, 1) := by decide +kernel
theorem dL_isTold_144 : decode cL_isTold 144 = .ok (.iload 6, 2) := by decide +kernel
theorem dL_isTold_146 : decode cL_isTold 146 = .ok (.iconst 1, 1) := by decide +kernel
theorem dL_isTold_147 : decode cL_isTold 147 = .ok (.iload 7, 2) := by decide +kernel
theorem dL_isTold_149 : decode cL_isTold 149 = .ok (.iconst 4, 1) := by decide +kernel
theorem dL_isTold_150 : decode cL_isTold 150 = .ok (.irem, 1) := by decide +kernel
theorem dL_isTold_151 : decode cL_isTold 151 = .ok (.iadd, 1) := by decide +kernel
theorem dL_isTold_152 : decode cL_isTold 152 = .ok (.invokevirtual 54, 3) := by decide +kernel
theorem dL_isTold_155 : decode cL_isTold 155 = .ok (.istore 8, 2) := by decide +kernel
theorem dL_isTold_157 : decode cL_isTold 157 = .ok (.iload 8, 2) := by decide +kernel
theorem dL_isTold_159 : decode cL_isTold 159 = .ok (.iload 6, 2) := by decide +kernel
theorem dL_isTold_161 : decode cL_isTold 161 = .ok (.if_icmp .le 16, 3) := by decide +kernel
theorem dL_isTold_164 : decode cL_isTold 164 = .ok (.iload 8, 2) := by decide +kernel
theorem dL_isTold_166 : decode cL_isTold 166 = .ok (.aload_n 0, 1) := by decide +kernel
theorem dL_isTold_167 : decode cL_isTold 167 = .ok (.invokevirtual 18, 3) := by decide +kernel
theorem dL_isTold_170 : decode cL_isTold 170 = .ok (.if_icmp .gt 7, 3) := by decide +kernel
theorem dL_isTold_173 : decode cL_isTold 173 = .ok (.iconst 1, 1) := by decide +kernel
theorem dL_isTold_174 : decode cL_isTold 174 = .ok (.goto 4, 3) := by decide +kernel
theorem dL_isTold_177 : decode cL_isTold 177 = .ok (.iconst 0, 1) := by decide +kernel
theorem dL_isTold_178 : decode cL_isTold 178 = .ok (.istore 5, 2) := by decide +kernel
theorem dL_isTold_180 : decode cL_isTold 180 = .ok (.iload 8, 2) := by decide +kernel
theorem dL_isTold_182 : decode cL_isTold 182 = .ok (.istore 6, 2) := by decide +kernel
theorem dL_isTold_184 : decode cL_isTold 184 = .ok (.iinc 7 1, 3) := by decide +kernel
theorem dL_isTold_187 : decode cL_isTold 187 = .ok (.goto (-65), 3) := by decide +kernel
theorem dL_isTold_190 : decode cL_isTold 190 = .ok (.iload 5, 2) := by decide +kernel
theorem dL_isTold_192 : decode cL_isTold 192 = .ok (.ifCond .eq 28, 3) := by decide +kernel
theorem dL_isTold_195 : decode cL_isTold 195 = .ok (.iload 6, 2) := by decide +kernel
theorem dL_isTold_197 : decode cL_isTold 197 = .ok (.aload_n 0, 1) := by decide +kernel
theorem dL_isTold_198 : decode cL_isTold 198 = .ok (.invokevirtual 18, 3) := by decide +kernel
theorem dL_isTold_201 : decode cL_isTold 201 = .ok (.if_icmp .ne 19, 3) := by decide +kernel
theorem dL_isTold_204 : decode cL_isTold 204 = .ok (.aload_n 0, 1) := by decide +kernel
theorem dL_isTold_205 : decode cL_isTold 205 = .ok (.iload 6, 2) := by decide +kernel
theorem dL_isTold_207 : decode cL_isTold 207 = .ok (.iconst 1, 1) := by decide +kernel
theorem dL_isTold_208 : decode cL_isTold 208 = .ok (.invokevirtual 54, 3) := by decide +kernel
theorem dL_isTold_211 : decode cL_isTold 211 = .ok (.iload 6, 2) := by decide +kernel
theorem dL_isTold_213 : decode cL_isTold 213 = .ok (.if_icmp .ne 7, 3) := by decide +kernel
theorem dL_isTold_216 : decode cL_isTold 216 = .ok (.iconst 1, 1) := by decide +kernel
theorem dL_isTold_217 : decode cL_isTold 217 = .ok (.goto 4, 3) := by decide +kernel
theorem dL_isTold_220 : decode cL_isTold 220 = .ok (.iconst 0, 1) := by decide +kernel
theorem dL_isTold_221 : decode cL_isTold 221 = .ok (.ireturn, 1) := by decide +kernel
theorem dL_law_0 : decode cL_law 0 = .ok (.new 9, 3) := by decide +kernel
theorem dL_law_3 : decode cL_law 3 = .ok (.dup, 1) := by decide +kernel
theorem dL_law_4 : decode cL_law 4 = .ok (.invokespecial 57, 3) := by decide +kernel
theorem dL_law_7 : decode cL_law 7 = .ok (.astore_n 1, 1) := by decide +kernel
theorem dL_law_8 : decode cL_law 8 = .ok (.bipush 60, 2) := by decide +kernel
theorem dL_law_10 : decode cL_law 10 = .ok (.newarray .int, 2) := by decide +kernel
theorem dL_law_12 : decode cL_law 12 = .ok (.astore_n 2, 1) := by decide +kernel
theorem dL_law_13 : decode cL_law 13 = .ok (.iconst 2, 1) := by decide +kernel
theorem dL_law_14 : decode cL_law 14 = .ok (.newarray .int, 2) := by decide +kernel
theorem dL_law_16 : decode cL_law 16 = .ok (.astore_n 3, 1) := by decide +kernel
theorem dL_law_17 : decode cL_law 17 = .ok (.iconst 2, 1) := by decide +kernel
theorem dL_law_18 : decode cL_law 18 = .ok (.newarray .int, 2) := by decide +kernel
theorem dL_law_20 : decode cL_law 20 = .ok (.astore 4, 2) := by decide +kernel
theorem dL_law_22 : decode cL_law 22 = .ok (.aload 4, 2) := by decide +kernel
theorem dL_law_24 : decode cL_law 24 = .ok (.iconst 0, 1) := by decide +kernel
theorem dL_law_25 : decode cL_law 25 = .ok (.iconst 5, 1) := by decide +kernel
theorem dL_law_26 : decode cL_law 26 = .ok (.iastore, 1) := by decide +kernel
theorem dL_law_27 : decode cL_law 27 = .ok (.aload 4, 2) := by decide +kernel
theorem dL_law_29 : decode cL_law 29 = .ok (.iconst 1, 1) := by decide +kernel
theorem dL_law_30 : decode cL_law 30 = .ok (.iconst 5, 1) := by decide +kernel
theorem dL_law_31 : decode cL_law 31 = .ok (.iastore, 1) := by decide +kernel
theorem dL_law_32 : decode cL_law 32 = .ok (.iconst 0, 1) := by decide +kernel
theorem dL_law_33 : decode cL_law 33 = .ok (.istore 5, 2) := by decide +kernel
theorem dL_law_35 : decode cL_law 35 = .ok (.iconst 0, 1) := by decide +kernel
theorem dL_law_36 : decode cL_law 36 = .ok (.istore 6, 2) := by decide +kernel
theorem dL_law_38 : decode cL_law 38 = .ok (.iconst 0, 1) := by decide +kernel
theorem dL_law_39 : decode cL_law 39 = .ok (.istore 7, 2) := by decide +kernel
theorem dL_law_41 : decode cL_law 41 = .ok (.iconst 0, 1) := by decide +kernel
theorem dL_law_42 : decode cL_law 42 = .ok (.istore 8, 2) := by decide +kernel
theorem dL_law_44 : decode cL_law 44 = .ok (.iconst 0, 1) := by decide +kernel
theorem dL_law_45 : decode cL_law 45 = .ok (.istore 9, 2) := by decide +kernel
theorem dL_law_47 : decode cL_law 47 = .ok (.iconst 1, 1) := by decide +kernel
theorem dL_law_48 : decode cL_law 48 = .ok (.istore 10, 2) := by decide +kernel
theorem dL_law_50 : decode cL_law 50 = .ok (.iconst 0, 1) := by decide +kernel
theorem dL_law_51 : decode cL_law 51 = .ok (.istore 11, 2) := by decide +kernel
theorem dL_law_53 : decode cL_law 53 = .ok (.iload 11, 2) := by decide +kernel
theorem dL_law_55 : decode cL_law 55 = .ok (.bipush 90, 2) := by decide +kernel
theorem dL_law_57 : decode cL_law 57 = .ok (.if_icmp .ge 715, 3) := by decide +kernel
theorem dL_law_60 : decode cL_law 60 = .ok (.iload 10, 2) := by decide +kernel
theorem dL_law_62 : decode cL_law 62 = .ok (.ifCond .eq 710, 3) := by decide +kernel
theorem dL_law_65 : decode cL_law 65 = .ok (.aload_n 0, 1) := by decide +kernel
theorem dL_law_66 : decode cL_law 66 = .ok (.iload 11, 2) := by decide +kernel
theorem dL_law_68 : decode cL_law 68 = .ok (.invokestatic 58, 3) := by decide +kernel
theorem dL_law_71 : decode cL_law 71 = .ok (.istore 12, 2) := by decide +kernel
theorem dL_law_73 : decode cL_law 73 = .ok (.iload 5, 2) := by decide +kernel
theorem dL_law_75 : decode cL_law 75 = .ok (.ifCond .ne 7, 3) := by decide +kernel
theorem dL_law_78 : decode cL_law 78 = .ok (.iconst (-1), 1) := by decide +kernel
theorem dL_law_79 : decode cL_law 79 = .ok (.goto 17, 3) := by decide +kernel
theorem dL_law_82 : decode cL_law 82 = .ok (.aload_n 2, 1) := by decide +kernel
theorem dL_law_83 : decode cL_law 83 = .ok (.iload 5, 2) := by decide +kernel
theorem dL_law_85 : decode cL_law 85 = .ok (.iload 12, 2) := by decide +kernel
theorem dL_law_87 : decode cL_law 87 = .ok (.bipush 10, 2) := by decide +kernel
theorem dL_law_89 : decode cL_law 89 = .ok (.idiv, 1) := by decide +kernel
theorem dL_law_90 : decode cL_law 90 = .ok (.iload 5, 2) := by decide +kernel
theorem dL_law_92 : decode cL_law 92 = .ok (.irem, 1) := by decide +kernel
theorem dL_law_93 : decode cL_law 93 = .ok (.invokestatic 64, 3) := by decide +kernel
theorem dL_law_96 : decode cL_law 96 = .ok (.istore 13, 2) := by decide +kernel
theorem dL_law_98 : decode cL_law 98 = .ok (.iload 12, 2) := by decide +kernel
theorem dL_law_100 : decode cL_law 100 = .ok (.bipush 10, 2) := by decide +kernel
theorem dL_law_102 : decode cL_law 102 = .ok (.idiv, 1) := by decide +kernel
theorem dL_law_103 : decode cL_law 103 = .ok (.iconst 2, 1) := by decide +kernel
theorem dL_law_104 : decode cL_law 104 = .ok (.irem, 1) := by decide +kernel
theorem dL_law_105 : decode cL_law 105 = .ok (.istore 14, 2) := by decide +kernel
theorem dL_law_107 : decode cL_law 107 = .ok (.iload 12, 2) := by decide +kernel
theorem dL_law_109 : decode cL_law 109 = .ok (.bipush 10, 2) := by decide +kernel
theorem dL_law_111 : decode cL_law 111 = .ok (.irem, 1) := by decide +kernel
theorem dL_law_112 : decode cL_law 112 = .ok (.tableswitch 593 0 8 #[52, 52, 108, 172, 172, 283, 327, 480, 559], 52) := by decide +kernel
theorem dL_law_164 : decode cL_law 164 = .ok (.iload 5, 2) := by decide +kernel
theorem dL_law_166 : decode cL_law 166 = .ok (.bipush 60, 2) := by decide +kernel
theorem dL_law_168 : decode cL_law 168 = .ok (.if_icmp .ge 571, 3) := by decide +kernel
theorem dL_law_171 : decode cL_law 171 = .ok (.aload_n 1, 1) := by decide +kernel
theorem dL_law_172 : decode cL_law 172 = .ok (.iload 12, 2) := by decide +kernel
theorem dL_law_174 : decode cL_law 174 = .ok (.bipush 10, 2) := by decide +kernel
theorem dL_law_176 : decode cL_law 176 = .ok (.idiv, 1) := by decide +kernel
theorem dL_law_177 : decode cL_law 177 = .ok (.bipush 50, 2) := by decide +kernel
theorem dL_law_179 : decode cL_law 179 = .ok (.irem, 1) := by decide +kernel
theorem dL_law_180 : decode cL_law 180 = .ok (.iconst 1, 1) := by decide +kernel
theorem dL_law_181 : decode cL_law 181 = .ok (.iload 12, 2) := by decide +kernel
theorem dL_law_183 : decode cL_law 183 = .ok (.sipush 500, 3) := by decide +kernel
theorem dL_law_186 : decode cL_law 186 = .ok (.idiv, 1) := by decide +kernel
theorem dL_law_187 : decode cL_law 187 = .ok (.bipush 63, 2) := by decide +kernel
theorem dL_law_189 : decode cL_law 189 = .ok (.irem, 1) := by decide +kernel
theorem dL_law_190 : decode cL_law 190 = .ok (.iadd, 1) := by decide +kernel
theorem dL_law_191 : decode cL_law 191 = .ok (.iload 12, 2) := by decide +kernel
theorem dL_law_193 : decode cL_law 193 = .ok (.bipush 7, 2) := by decide +kernel
theorem dL_law_195 : decode cL_law 195 = .ok (.idiv, 1) := by decide +kernel
theorem dL_law_196 : decode cL_law 196 = .ok (.bipush 10, 2) := by decide +kernel
theorem dL_law_198 : decode cL_law 198 = .ok (.irem, 1) := by decide +kernel
theorem dL_law_199 : decode cL_law 199 = .ok (.invokevirtual 68, 3) := by decide +kernel
theorem dL_law_202 : decode cL_law 202 = .ok (.iload 5, 2) := by decide +kernel
theorem dL_law_204 : decode cL_law 204 = .ok (.if_icmp .ne 7, 3) := by decide +kernel
theorem dL_law_207 : decode cL_law 207 = .ok (.iconst 1, 1) := by decide +kernel
theorem dL_law_208 : decode cL_law 208 = .ok (.goto 4, 3) := by decide +kernel
theorem dL_law_211 : decode cL_law 211 = .ok (.iconst 0, 1) := by decide +kernel
theorem dL_law_212 : decode cL_law 212 = .ok (.istore 10, 2) := by decide +kernel
theorem dL_law_214 : decode cL_law 214 = .ok (.iinc 5 1, 3) := by decide +kernel
theorem dL_law_217 : decode cL_law 217 = .ok (.goto 522, 3) := by decide +kernel
theorem dL_law_220 : decode cL_law 220 = .ok (.iload 13, 2) := by decide +kernel
theorem dL_law_222 : decode cL_law 222 = .ok (.ifCond .lt 517, 3) := by decide +kernel
theorem dL_law_225 : decode cL_law 225 = .ok (.aload_n 1, 1) := by decide +kernel
theorem dL_law_226 : decode cL_law 226 = .ok (.iload 13, 2) := by decide +kernel
theorem dL_law_228 : decode cL_law 228 = .ok (.iconst 1, 1) := by decide +kernel
theorem dL_law_229 : decode cL_law 229 = .ok (.iload 12, 2) := by decide +kernel
theorem dL_law_231 : decode cL_law 231 = .ok (.sipush 600, 3) := by decide +kernel
theorem dL_law_234 : decode cL_law 234 = .ok (.idiv, 1) := by decide +kernel
theorem dL_law_235 : decode cL_law 235 = .ok (.bipush 63, 2) := by decide +kernel
theorem dL_law_237 : decode cL_law 237 = .ok (.irem, 1) := by decide +kernel
theorem dL_law_238 : decode cL_law 238 = .ok (.iadd, 1) := by decide +kernel
theorem dL_law_239 : decode cL_law 239 = .ok (.invokevirtual 71, 3) := by decide +kernel
theorem dL_law_242 : decode cL_law 242 = .ok (.pop, 1) := by decide +kernel
theorem dL_law_243 : decode cL_law 243 = .ok (.aload_n 1, 1) := by decide +kernel
theorem dL_law_244 : decode cL_law 244 = .ok (.iload 13, 2) := by decide +kernel
theorem dL_law_246 : decode cL_law 246 = .ok (.iconst 1, 1) := by decide +kernel
theorem dL_law_247 : decode cL_law 247 = .ok (.iload 12, 2) := by decide +kernel
theorem dL_law_249 : decode cL_law 249 = .ok (.sipush 600, 3) := by decide +kernel
theorem dL_law_252 : decode cL_law 252 = .ok (.idiv, 1) := by decide +kernel
theorem dL_law_253 : decode cL_law 253 = .ok (.bipush 63, 2) := by decide +kernel
theorem dL_law_255 : decode cL_law 255 = .ok (.irem, 1) := by decide +kernel
theorem dL_law_256 : decode cL_law 256 = .ok (.iadd, 1) := by decide +kernel
theorem dL_law_257 : decode cL_law 257 = .ok (.invokevirtual 71, 3) := by decide +kernel
theorem dL_law_260 : decode cL_law 260 = .ok (.iconst 1, 1) := by decide +kernel
theorem dL_law_261 : decode cL_law 261 = .ok (.iload 12, 2) := by decide +kernel
theorem dL_law_263 : decode cL_law 263 = .ok (.sipush 600, 3) := by decide +kernel
theorem dL_law_266 : decode cL_law 266 = .ok (.idiv, 1) := by decide +kernel
theorem dL_law_267 : decode cL_law 267 = .ok (.bipush 63, 2) := by decide +kernel
theorem dL_law_269 : decode cL_law 269 = .ok (.irem, 1) := by decide +kernel
theorem dL_law_270 : decode cL_law 270 = .ok (.iadd, 1) := by decide +kernel
theorem dL_law_271 : decode cL_law 271 = .ok (.if_icmp .ne 7, 3) := by decide +kernel
theorem dL_law_274 : decode cL_law 274 = .ok (.iconst 1, 1) := by decide +kernel
theorem dL_law_275 : decode cL_law 275 = .ok (.goto 4, 3) := by decide +kernel
theorem dL_law_278 : decode cL_law 278 = .ok (.iconst 0, 1) := by decide +kernel
theorem dL_law_279 : decode cL_law 279 = .ok (.istore 10, 2) := by decide +kernel
theorem dL_law_281 : decode cL_law 281 = .ok (.goto 458, 3) := by decide +kernel
theorem dL_law_284 : decode cL_law 284 = .ok (.iload 13, 2) := by decide +kernel
theorem dL_law_286 : decode cL_law 286 = .ok (.ifCond .lt 453, 3) := by decide +kernel
theorem dL_law_289 : decode cL_law 289 = .ok (.aload_n 1, 1) := by decide +kernel
theorem dL_law_290 : decode cL_law 290 = .ok (.invokevirtual 18, 3) := by decide +kernel
theorem dL_law_293 : decode cL_law 293 = .ok (.istore 15, 2) := by decide +kernel
theorem dL_law_295 : decode cL_law 295 = .ok (.aload_n 1, 1) := by decide +kernel
theorem dL_law_296 : decode cL_law 296 = .ok (.iload 13, 2) := by decide +kernel
theorem dL_law_298 : decode cL_law 298 = .ok (.iload 12, 2) := by decide +kernel
theorem dL_law_300 : decode cL_law 300 = .ok (.sipush 600, 3) := by decide +kernel
theorem dL_law_303 : decode cL_law 303 = .ok (.idiv, 1) := by decide +kernel
theorem dL_law_304 : decode cL_law 304 = .ok (.iconst 4, 1) := by decide +kernel
theorem dL_law_305 : decode cL_law 305 = .ok (.irem, 1) := by decide +kernel
theorem dL_law_306 : decode cL_law 306 = .ok (.iload 12, 2) := by decide +kernel
theorem dL_law_308 : decode cL_law 308 = .ok (.sipush 2400, 3) := by decide +kernel
theorem dL_law_311 : decode cL_law 311 = .ok (.idiv, 1) := by decide +kernel
theorem dL_law_312 : decode cL_law 312 = .ok (.iconst 2, 1) := by decide +kernel
theorem dL_law_313 : decode cL_law 313 = .ok (.irem, 1) := by decide +kernel
theorem dL_law_314 : decode cL_law 314 = .ok (.ifCond .ne 7, 3) := by decide +kernel
theorem dL_law_317 : decode cL_law 317 = .ok (.iconst 1, 1) := by decide +kernel
theorem dL_law_318 : decode cL_law 318 = .ok (.goto 4, 3) := by decide +kernel
theorem dL_law_321 : decode cL_law 321 = .ok (.iconst 0, 1) := by decide +kernel
theorem dL_law_322 : decode cL_law 322 = .ok (.invokevirtual 74, 3) := by decide +kernel
theorem dL_law_325 : decode cL_law 325 = .ok (.istore 16, 2) := by decide +kernel
theorem dL_law_327 : decode cL_law 327 = .ok (.aload_n 1, 1) := by decide +kernel
theorem dL_law_328 : decode cL_law 328 = .ok (.invokevirtual 18, 3) := by decide +kernel
theorem dL_law_331 : decode cL_law 331 = .ok (.iload 16, 2) := by decide +kernel
theorem dL_law_333 : decode cL_law 333 = .ok (.ifCond .eq 10, 3) := by decide +kernel
theorem dL_law_336 : decode cL_law 336 = .ok (.iload 15, 2) := by decide +kernel
theorem dL_law_338 : decode cL_law 338 = .ok (.iconst 1, 1) := by decide +kernel
theorem dL_law_339 : decode cL_law 339 = .ok (.iadd, 1) := by decide +kernel
theorem dL_law_340 : decode cL_law 340 = .ok (.goto 5, 3) := by decide +kernel
theorem dL_law_343 : decode cL_law 343 = .ok (.iload 15, 2) := by decide +kernel
theorem dL_law_345 : decode cL_law 345 = .ok (.if_icmp .ne 44, 3) := by decide +kernel
theorem dL_law_348 : decode cL_law 348 = .ok (.aload_n 1, 1) := by decide +kernel
theorem dL_law_349 : decode cL_law 349 = .ok (.iload 13, 2) := by decide +kernel
theorem dL_law_351 : decode cL_law 351 = .ok (.iload 12, 2) := by decide +kernel
theorem dL_law_353 : decode cL_law 353 = .ok (.sipush 600, 3) := by decide +kernel
theorem dL_law_356 : decode cL_law 356 = .ok (.idiv, 1) := by decide +kernel
theorem dL_law_357 : decode cL_law 357 = .ok (.iconst 4, 1) := by decide +kernel
theorem dL_law_358 : decode cL_law 358 = .ok (.irem, 1) := by decide +kernel
theorem dL_law_359 : decode cL_law 359 = .ok (.iload 12, 2) := by decide +kernel
theorem dL_law_361 : decode cL_law 361 = .ok (.sipush 2400, 3) := by decide +kernel
theorem dL_law_364 : decode cL_law 364 = .ok (.idiv, 1) := by decide +kernel
theorem dL_law_365 : decode cL_law 365 = .ok (.iconst 2, 1) := by decide +kernel
theorem dL_law_366 : decode cL_law 366 = .ok (.irem, 1) := by decide +kernel
theorem dL_law_367 : decode cL_law 367 = .ok (.ifCond .ne 7, 3) := by decide +kernel
theorem dL_law_370 : decode cL_law 370 = .ok (.iconst 1, 1) := by decide +kernel
theorem dL_law_371 : decode cL_law 371 = .ok (.goto 4, 3) := by decide +kernel
theorem dL_law_374 : decode cL_law 374 = .ok (.iconst 0, 1) := by decide +kernel
theorem dL_law_375 : decode cL_law 375 = .ok (.aload_n 1, 1) := by decide +kernel
theorem dL_law_376 : decode cL_law 376 = .ok (.invokevirtual 18, 3) := by decide +kernel
theorem dL_law_379 : decode cL_law 379 = .ok (.invokevirtual 78, 3) := by decide +kernel
theorem dL_law_382 : decode cL_law 382 = .ok (.ifCond .ne 7, 3) := by decide +kernel
theorem dL_law_385 : decode cL_law 385 = .ok (.iconst 1, 1) := by decide +kernel
theorem dL_law_386 : decode cL_law 386 = .ok (.goto 4, 3) := by decide +kernel
theorem dL_law_389 : decode cL_law 389 = .ok (.iconst 0, 1) := by decide +kernel
theorem dL_law_390 : decode cL_law 390 = .ok (.istore 10, 2) := by decide +kernel
theorem dL_law_392 : decode cL_law 392 = .ok (.goto 347, 3) := by decide +kernel
theorem dL_law_395 : decode cL_law 395 = .ok (.iload 13, 2) := by decide +kernel
theorem dL_law_397 : decode cL_law 397 = .ok (.ifCond .lt 342, 3) := by decide +kernel
theorem dL_law_400 : decode cL_law 400 = .ok (.iload 12, 2) := by decide +kernel
theorem dL_law_402 : decode cL_law 402 = .ok (.sipush 600, 3) := by decide +kernel
theorem dL_law_405 : decode cL_law 405 = .ok (.idiv, 1) := by decide +kernel
theorem dL_law_406 : decode cL_law 406 = .ok (.iconst 2, 1) := by decide +kernel
theorem dL_law_407 : decode cL_law 407 = .ok (.irem, 1) := by decide +kernel
theorem dL_law_408 : decode cL_law 408 = .ok (.ifCond .ne 331, 3) := by decide +kernel
theorem dL_law_411 : decode cL_law 411 = .ok (.aload_n 2, 1) := by decide +kernel
theorem dL_law_412 : decode cL_law 412 = .ok (.iload 13, 2) := by decide +kernel
theorem dL_law_414 : decode cL_law 414 = .ok (.iconst 1, 1) := by decide +kernel
theorem dL_law_415 : decode cL_law 415 = .ok (.iastore, 1) := by decide +kernel
theorem dL_law_416 : decode cL_law 416 = .ok (.aload_n 1, 1) := by decide +kernel
theorem dL_law_417 : decode cL_law 417 = .ok (.iload 13, 2) := by decide +kernel
theorem dL_law_419 : decode cL_law 419 = .ok (.invokevirtual 82, 3) := by decide +kernel
theorem dL_law_422 : decode cL_law 422 = .ok (.aload_n 1, 1) := by decide +kernel
theorem dL_law_423 : decode cL_law 423 = .ok (.invokevirtual 18, 3) := by decide +kernel
theorem dL_law_426 : decode cL_law 426 = .ok (.if_icmp .ne 7, 3) := by decide +kernel
theorem dL_law_429 : decode cL_law 429 = .ok (.iconst 1, 1) := by decide +kernel
theorem dL_law_430 : decode cL_law 430 = .ok (.goto 4, 3) := by decide +kernel
theorem dL_law_433 : decode cL_law 433 = .ok (.iconst 0, 1) := by decide +kernel
theorem dL_law_434 : decode cL_law 434 = .ok (.istore 10, 2) := by decide +kernel
theorem dL_law_436 : decode cL_law 436 = .ok (.goto 303, 3) := by decide +kernel
theorem dL_law_439 : decode cL_law 439 = .ok (.iconst 0, 1) := by decide +kernel
theorem dL_law_440 : decode cL_law 440 = .ok (.istore 15, 2) := by decide +kernel
theorem dL_law_442 : decode cL_law 442 = .ok (.iload 15, 2) := by decide +kernel
theorem dL_law_444 : decode cL_law 444 = .ok (.aload_n 1, 1) := by decide +kernel
theorem dL_law_445 : decode cL_law 445 = .ok (.iload 14, 2) := by decide +kernel
theorem dL_law_447 : decode cL_law 447 = .ok (.invokevirtual 22, 3) := by decide +kernel
theorem dL_law_450 : decode cL_law 450 = .ok (.if_icmp .ge 100, 3) := by decide +kernel
theorem dL_law_453 : decode cL_law 453 = .ok (.iload 15, 2) := by decide +kernel
theorem dL_law_455 : decode cL_law 455 = .ok (.iconst 2, 1) := by decide +kernel
theorem dL_law_456 : decode cL_law 456 = .ok (.if_icmp .ge 94, 3) := by decide +kernel
theorem dL_law_459 : decode cL_law 459 = .ok (.aload_n 1, 1) := by decide +kernel
theorem dL_law_460 : decode cL_law 460 = .ok (.iload 14, 2) := by decide +kernel
theorem dL_law_462 : decode cL_law 462 = .ok (.aload_n 1, 1) := by decide +kernel
theorem dL_law_463 : decode cL_law 463 = .ok (.iload 14, 2) := by decide +kernel
theorem dL_law_465 : decode cL_law 465 = .ok (.iload 15, 2) := by decide +kernel
theorem dL_law_467 : decode cL_law 467 = .ok (.invokevirtual 25, 3) := by decide +kernel
theorem dL_law_470 : decode cL_law 470 = .ok (.iload 12, 2) := by decide +kernel
theorem dL_law_472 : decode cL_law 472 = .ok (.bipush 20, 2) := by decide +kernel
theorem dL_law_474 : decode cL_law 474 = .ok (.idiv, 1) := by decide +kernel
theorem dL_law_475 : decode cL_law 475 = .ok (.iconst 4, 1) := by decide +kernel
theorem dL_law_476 : decode cL_law 476 = .ok (.irem, 1) := by decide +kernel
theorem dL_law_477 : decode cL_law 477 = .ok (.iload 12, 2) := by decide +kernel
theorem dL_law_479 : decode cL_law 479 = .ok (.bipush 80, 2) := by decide +kernel
theorem dL_law_481 : decode cL_law 481 = .ok (.idiv, 1) := by decide +kernel
theorem dL_law_482 : decode cL_law 482 = .ok (.iconst 2, 1) := by decide +kernel
theorem dL_law_483 : decode cL_law 483 = .ok (.irem, 1) := by decide +kernel
theorem dL_law_484 : decode cL_law 484 = .ok (.ifCond .ne 7, 3) := by decide +kernel
theorem dL_law_487 : decode cL_law 487 = .ok (.iconst 1, 1) := by decide +kernel
theorem dL_law_488 : decode cL_law 488 = .ok (.goto 4, 3) := by decide +kernel
theorem dL_law_491 : decode cL_law 491 = .ok (.iconst 0, 1) := by decide +kernel
theorem dL_law_492 : decode cL_law 492 = .ok (.invokevirtual 85, 3) := by decide +kernel
theorem dL_law_495 : decode cL_law 495 = .ok (.pop, 1) := by decide +kernel
theorem dL_law_496 : decode cL_law 496 = .ok (.iload 10, 2) := by decide +kernel
theorem dL_law_498 : decode cL_law 498 = .ok (.ifCond .eq 43, 3) := by decide +kernel
theorem dL_law_501 : decode cL_law 501 = .ok (.aload_n 1, 1) := by decide +kernel
theorem dL_law_502 : decode cL_law 502 = .ok (.iload 14, 2) := by decide +kernel
theorem dL_law_504 : decode cL_law 504 = .ok (.iload 15, 2) := by decide +kernel
theorem dL_law_506 : decode cL_law 506 = .ok (.invokevirtual 32, 3) := by decide +kernel
theorem dL_law_509 : decode cL_law 509 = .ok (.iload 12, 2) := by decide +kernel
theorem dL_law_511 : decode cL_law 511 = .ok (.bipush 20, 2) := by decide +kernel
theorem dL_law_513 : decode cL_law 513 = .ok (.idiv, 1) := by decide +kernel
theorem dL_law_514 : decode cL_law 514 = .ok (.iconst 4, 1) := by decide +kernel
theorem dL_law_515 : decode cL_law 515 = .ok (.irem, 1) := by decide +kernel
theorem dL_law_516 : decode cL_law 516 = .ok (.ishr, 1) := by decide +kernel
theorem dL_law_517 : decode cL_law 517 = .ok (.iconst 1, 1) := by decide +kernel
theorem dL_law_518 : decode cL_law 518 = .ok (.iand, 1) := by decide +kernel
theorem dL_law_519 : decode cL_law 519 = .ok (.iload 12, 2) := by decide +kernel
theorem dL_law_521 : decode cL_law 521 = .ok (.bipush 80, 2) := by decide +kernel
theorem dL_law_523 : decode cL_law 523 = .ok (.idiv, 1) := by decide +kernel
theorem dL_law_524 : decode cL_law 524 = .ok (.iconst 2, 1) := by decide +kernel
theorem dL_law_525 : decode cL_law 525 = .ok (.irem, 1) := by decide +kernel
theorem dL_law_526 : decode cL_law 526 = .ok (.ifCond .ne 7, 3) := by decide +kernel
theorem dL_law_529 : decode cL_law 529 = .ok (.iconst 1, 1) := by decide +kernel
theorem dL_law_530 : decode cL_law 530 = .ok (.goto 4, 3) := by decide +kernel
theorem dL_law_533 : decode cL_law 533 = .ok (.iconst 0, 1) := by decide +kernel
theorem dL_law_534 : decode cL_law 534 = .ok (.if_icmp .ne 7, 3) := by decide +kernel
theorem dL_law_537 : decode cL_law 537 = .ok (.iconst 1, 1) := by decide +kernel
theorem dL_law_538 : decode cL_law 538 = .ok (.goto 4, 3) := by decide +kernel
theorem dL_law_541 : decode cL_law 541 = .ok (.iconst 0, 1) := by decide +kernel
theorem dL_law_542 : decode cL_law 542 = .ok (.istore 10, 2) := by decide +kernel
theorem dL_law_544 : decode cL_law 544 = .ok (.iinc 15 1, 3) := by decide +kernel
theorem dL_law_547 : decode cL_law 547 = .ok (.goto (-105), 3) := by decide +kernel
theorem dL_law_550 : decode cL_law 550 = .ok (.iload 10, 2) := by decide +kernel
theorem dL_law_552 : decode cL_law 552 = .ok (.ifCond .eq 34, 3) := by decide +kernel
theorem dL_law_555 : decode cL_law 555 = .ok (.aload_n 1, 1) := by decide +kernel
theorem dL_law_556 : decode cL_law 556 = .ok (.iload 14, 2) := by decide +kernel
theorem dL_law_558 : decode cL_law 558 = .ok (.invokevirtual 89, 3) := by decide +kernel
theorem dL_law_561 : decode cL_law 561 = .ok (.ifCond .lt 25, 3) := by decide +kernel
theorem dL_law_564 : decode cL_law 564 = .ok (.aload_n 1, 1) := by decide +kernel
theorem dL_law_565 : decode cL_law 565 = .ok (.iload 14, 2) := by decide +kernel
theorem dL_law_567 : decode cL_law 567 = .ok (.aload_n 3, 1) := by decide +kernel
theorem dL_law_568 : decode cL_law 568 = .ok (.iload 14, 2) := by decide +kernel
theorem dL_law_570 : decode cL_law 570 = .ok (.iaload, 1) := by decide +kernel
theorem dL_law_571 : decode cL_law 571 = .ok (.aload 4, 2) := by decide +kernel
theorem dL_law_573 : decode cL_law 573 = .ok (.iload 14, 2) := by decide +kernel
theorem dL_law_575 : decode cL_law 575 = .ok (.iaload, 1) := by decide +kernel
theorem dL_law_576 : decode cL_law 576 = .ok (.invokestatic 92, 3) := by decide +kernel
theorem dL_law_579 : decode cL_law 579 = .ok (.ifCond .eq 7, 3) := by decide +kernel
theorem dL_law_582 : decode cL_law 582 = .ok (.iconst 1, 1) := by decide +kernel
theorem dL_law_583 : decode cL_law 583 = .ok (.goto 4, 3) := by decide +kernel
theorem dL_law_586 : decode cL_law 586 = .ok (.iconst 0, 1) := by decide +kernel
theorem dL_law_587 : decode cL_law 587 = .ok (.istore 10, 2) := by decide +kernel
theorem dL_law_589 : decode cL_law 589 = .ok (.goto 150, 3) := by decide +kernel
theorem dL_law_592 : decode cL_law 592 = .ok (.aload_n 3, 1) := by decide +kernel
theorem dL_law_593 : decode cL_law 593 = .ok (.iload 14, 2) := by decide +kernel
theorem dL_law_595 : decode cL_law 595 = .ok (.iload 12, 2) := by decide +kernel
theorem dL_law_597 : decode cL_law 597 = .ok (.bipush 20, 2) := by decide +kernel
theorem dL_law_599 : decode cL_law 599 = .ok (.idiv, 1) := by decide +kernel
theorem dL_law_600 : decode cL_law 600 = .ok (.bipush 6, 2) := by decide +kernel
theorem dL_law_602 : decode cL_law 602 = .ok (.irem, 1) := by decide +kernel
theorem dL_law_603 : decode cL_law 603 = .ok (.iastore, 1) := by decide +kernel
theorem dL_law_604 : decode cL_law 604 = .ok (.aload 4, 2) := by decide +kernel
theorem dL_law_606 : decode cL_law 606 = .ok (.iload 14, 2) := by decide +kernel
theorem dL_law_608 : decode cL_law 608 = .ok (.iconst 1, 1) := by decide +kernel
theorem dL_law_609 : decode cL_law 609 = .ok (.iload 12, 2) := by decide +kernel
theorem dL_law_611 : decode cL_law 611 = .ok (.bipush 120, 2) := by decide +kernel
theorem dL_law_613 : decode cL_law 613 = .ok (.idiv, 1) := by decide +kernel
theorem dL_law_614 : decode cL_law 614 = .ok (.bipush 10, 2) := by decide +kernel
theorem dL_law_616 : decode cL_law 616 = .ok (.irem, 1) := by decide +kernel
theorem dL_law_617 : decode cL_law 617 = .ok (.iadd, 1) := by decide +kernel
theorem dL_law_618 : decode cL_law 618 = .ok (.iastore, 1) := by decide +kernel
theorem dL_law_619 : decode cL_law 619 = .ok (.aload_n 1, 1) := by decide +kernel
theorem dL_law_620 : decode cL_law 620 = .ok (.iload 14, 2) := by decide +kernel
theorem dL_law_622 : decode cL_law 622 = .ok (.aload_n 3, 1) := by decide +kernel
theorem dL_law_623 : decode cL_law 623 = .ok (.iload 14, 2) := by decide +kernel
theorem dL_law_625 : decode cL_law 625 = .ok (.iaload, 1) := by decide +kernel
theorem dL_law_626 : decode cL_law 626 = .ok (.aload 4, 2) := by decide +kernel
theorem dL_law_628 : decode cL_law 628 = .ok (.iload 14, 2) := by decide +kernel
theorem dL_law_630 : decode cL_law 630 = .ok (.iaload, 1) := by decide +kernel
theorem dL_law_631 : decode cL_law 631 = .ok (.invokevirtual 96, 3) := by decide +kernel
theorem dL_law_634 : decode cL_law 634 = .ok (.aload_n 1, 1) := by decide +kernel
theorem dL_law_635 : decode cL_law 635 = .ok (.iload 14, 2) := by decide +kernel
theorem dL_law_637 : decode cL_law 637 = .ok (.invokevirtual 89, 3) := by decide +kernel
theorem dL_law_640 : decode cL_law 640 = .ok (.ifCond .ne 25, 3) := by decide +kernel
theorem dL_law_643 : decode cL_law 643 = .ok (.aload_n 1, 1) := by decide +kernel
theorem dL_law_644 : decode cL_law 644 = .ok (.iload 14, 2) := by decide +kernel
theorem dL_law_646 : decode cL_law 646 = .ok (.aload_n 3, 1) := by decide +kernel
theorem dL_law_647 : decode cL_law 647 = .ok (.iload 14, 2) := by decide +kernel
theorem dL_law_649 : decode cL_law 649 = .ok (.iaload, 1) := by decide +kernel
theorem dL_law_650 : decode cL_law 650 = .ok (.aload 4, 2) := by decide +kernel
theorem dL_law_652 : decode cL_law 652 = .ok (.iload 14, 2) := by decide +kernel
theorem dL_law_654 : decode cL_law 654 = .ok (.iaload, 1) := by decide +kernel
theorem dL_law_655 : decode cL_law 655 = .ok (.invokestatic 92, 3) := by decide +kernel
theorem dL_law_658 : decode cL_law 658 = .ok (.ifCond .eq 7, 3) := by decide +kernel
theorem dL_law_661 : decode cL_law 661 = .ok (.iconst 1, 1) := by decide +kernel
theorem dL_law_662 : decode cL_law 662 = .ok (.goto 4, 3) := by decide +kernel
theorem dL_law_665 : decode cL_law 665 = .ok (.iconst 0, 1) := by decide +kernel
theorem dL_law_666 : decode cL_law 666 = .ok (.istore 10, 2) := by decide +kernel
theorem dL_law_668 : decode cL_law 668 = .ok (.goto 71, 3) := by decide +kernel
theorem dL_law_671 : decode cL_law 671 = .ok (.aload_n 1, 1) := by decide +kernel
theorem dL_law_672 : decode cL_law 672 = .ok (.invokevirtual 18, 3) := by decide +kernel
theorem dL_law_675 : decode cL_law 675 = .ok (.istore 6, 2) := by decide +kernel
theorem dL_law_677 : decode cL_law 677 = .ok (.aload_n 1, 1) := by decide +kernel
theorem dL_law_678 : decode cL_law 678 = .ok (.invokevirtual 42, 3) := by decide +kernel
theorem dL_law_681 : decode cL_law 681 = .ok (.istore 7, 2) := by decide +kernel
theorem dL_law_683 : decode cL_law 683 = .ok (.iload 12, 2) := by decide +kernel
theorem dL_law_685 : decode cL_law 685 = .ok (.bipush 10, 2) := by decide +kernel
theorem dL_law_687 : decode cL_law 687 = .ok (.idiv, 1) := by decide +kernel
theorem dL_law_688 : decode cL_law 688 = .ok (.bipush 6, 2) := by decide +kernel
theorem dL_law_690 : decode cL_law 690 = .ok (.irem, 1) := by decide +kernel
theorem dL_law_691 : decode cL_law 691 = .ok (.istore 9, 2) := by decide +kernel
theorem dL_law_693 : decode cL_law 693 = .ok (.aload_n 1, 1) := by decide +kernel
theorem dL_law_694 : decode cL_law 694 = .ok (.iload 9, 2) := by decide +kernel
theorem dL_law_696 : decode cL_law 696 = .ok (.iconst (-1), 1) := by decide +kernel
theorem dL_law_697 : decode cL_law 697 = .ok (.invokevirtual 8, 3) := by decide +kernel
theorem dL_law_700 : decode cL_law 700 = .ok (.istore 8, 2) := by decide +kernel
theorem dL_law_702 : decode cL_law 702 = .ok (.goto 37, 3) := by decide +kernel
theorem dL_law_705 : decode cL_law 705 = .ok (.aload_n 1, 1) := by decide +kernel
theorem dL_law_706 : decode cL_law 706 = .ok (.iload 14, 2) := by decide +kernel
theorem dL_law_708 : decode cL_law 708 = .ok (.invokevirtual 89, 3) := by decide +kernel
theorem dL_law_711 : decode cL_law 711 = .ok (.ifCond .ne 25, 3) := by decide +kernel
theorem dL_law_714 : decode cL_law 714 = .ok (.aload_n 1, 1) := by decide +kernel
theorem dL_law_715 : decode cL_law 715 = .ok (.iload 14, 2) := by decide +kernel
theorem dL_law_717 : decode cL_law 717 = .ok (.aload_n 3, 1) := by decide +kernel
theorem dL_law_718 : decode cL_law 718 = .ok (.iload 14, 2) := by decide +kernel
theorem dL_law_720 : decode cL_law 720 = .ok (.iaload, 1) := by decide +kernel
theorem dL_law_721 : decode cL_law 721 = .ok (.aload 4, 2) := by decide +kernel
theorem dL_law_723 : decode cL_law 723 = .ok (.iload 14, 2) := by decide +kernel
theorem dL_law_725 : decode cL_law 725 = .ok (.iaload, 1) := by decide +kernel
theorem dL_law_726 : decode cL_law 726 = .ok (.invokestatic 92, 3) := by decide +kernel
theorem dL_law_729 : decode cL_law 729 = .ok (.ifCond .eq 7, 3) := by decide +kernel
theorem dL_law_732 : decode cL_law 732 = .ok (.iconst 1, 1) := by decide +kernel
theorem dL_law_733 : decode cL_law 733 = .ok (.goto 4, 3) := by decide +kernel
theorem dL_law_736 : decode cL_law 736 = .ok (.iconst 0, 1) := by decide +kernel
theorem dL_law_737 : decode cL_law 737 = .ok (.istore 10, 2) := by decide +kernel
theorem dL_law_739 : decode cL_law 739 = .ok (.iload 10, 2) := by decide +kernel
theorem dL_law_741 : decode cL_law 741 = .ok (.ifCond .eq 22, 3) := by decide +kernel
theorem dL_law_744 : decode cL_law 744 = .ok (.aload_n 1, 1) := by decide +kernel
theorem dL_law_745 : decode cL_law 745 = .ok (.iload 6, 2) := by decide +kernel
theorem dL_law_747 : decode cL_law 747 = .ok (.iload 7, 2) := by decide +kernel
theorem dL_law_749 : decode cL_law 749 = .ok (.iload 9, 2) := by decide +kernel
theorem dL_law_751 : decode cL_law 751 = .ok (.iload 8, 2) := by decide +kernel
theorem dL_law_753 : decode cL_law 753 = .ok (.invokestatic 100, 3) := by decide +kernel
theorem dL_law_756 : decode cL_law 756 = .ok (.ifCond .eq 7, 3) := by decide +kernel
theorem dL_law_759 : decode cL_law 759 = .ok (.iconst 1, 1) := by decide +kernel
theorem dL_law_760 : decode cL_law 760 = .ok (.goto 4, 3) := by decide +kernel
theorem dL_law_763 : decode cL_law 763 = .ok (.iconst 0, 1) := by decide +kernel
theorem dL_law_764 : decode cL_law 764 = .ok (.istore 10, 2) := by decide +kernel
theorem dL_law_766 : decode cL_law 766 = .ok (.iinc 11 1, 3) := by decide +kernel
theorem dL_law_769 : decode cL_law 769 = .ok (.goto (-716), 3) := by decide +kernel
theorem dL_law_772 : decode cL_law 772 = .ok (.iload 10, 2) := by decide +kernel
theorem dL_law_774 : decode cL_law 774 = .ok (.ireturn, 1) := by decide +kernel
