theorem dX3_watch_11 : decode cX3_watch 11 = .ok (.ifCond .eq 13, 3) := by decide +kernel
theorem dX3_watch_14 : decode cX3_watch 14 = .ok (.iload_n 3, 1) := by decide +kernel
theorem dX3_watch_15 : decode cX3_watch 15 = .ok (.iconst 1, 1) := by decide +kernel
theorem dX3_watch_16 : decode cX3_watch 16 = .ok (.bipush 10, 2) := by decide +kernel
theorem dX3_watch_18 : decode cX3_watch 18 = .ok (.invokestatic 26, 3) := by decide +kernel
theorem dX3_watch_21 : decode cX3_watch 21 = .ok (.ifCond .ne 13, 3) := by decide +kernel
theorem dX3_watch_24 : decode cX3_watch 24 = .ok (.new 37, 3) := by decide +kernel
theorem dX3_watch_27 : decode cX3_watch 27 = .ok (.dup, 1) := by decide +kernel
theorem dX3_watch_28 : decode cX3_watch 28 = .ok (.ldc 166, 2) := by decide +kernel
theorem dX3_watch_30 : decode cX3_watch 30 = .ok (.invokespecial 41, 3) := by decide +kernel
theorem dX3_watch_33 : decode cX3_watch 33 = .ok (.athrow, 1) := by decide +kernel
theorem dX3_watch_34 : decode cX3_watch 34 = .ok (.aload_n 0, 1) := by decide +kernel
theorem dX3_watch_35 : decode cX3_watch 35 = .ok (.iload_n 1, 1) := by decide +kernel
theorem dX3_watch_36 : decode cX3_watch 36 = .ok (.invokevirtual 168, 3) := by decide +kernel
theorem dX3_watch_39 : decode cX3_watch 39 = .ok (.astore 4, 2) := by decide +kernel
theorem dX3_watch_41 : decode cX3_watch 41 = .ok (.aload 4, 2) := by decide +kernel
theorem dX3_watch_43 : decode cX3_watch 43 = .ok (.iload_n 2, 1) := by decide +kernel
theorem dX3_watch_44 : decode cX3_watch 44 = .ok (.putfield 172, 3) := by decide +kernel
theorem dX3_watch_47 : decode cX3_watch 47 = .ok (.aload 4, 2) := by decide +kernel
theorem dX3_watch_49 : decode cX3_watch 49 = .ok (.iload_n 3, 1) := by decide +kernel
theorem dX3_watch_50 : decode cX3_watch 50 = .ok (.putfield 175, 3) := by decide +kernel
theorem dX3_watch_53 : decode cX3_watch 53 = .ok (.return_, 1) := by decide +kernel
theorem dX3_flagOffline_0 : decode cX3_flagOffline 0 = .ok (.iload_n 1, 1) := by decide +kernel
theorem dX3_flagOffline_1 : decode cX3_flagOffline 1 = .ok (.invokestatic 163, 3) := by decide +kernel
theorem dX3_flagOffline_4 : decode cX3_flagOffline 4 = .ok (.ifCond .eq 10, 3) := by decide +kernel
theorem dX3_flagOffline_7 : decode cX3_flagOffline 7 = .ok (.iload_n 3, 1) := by decide +kernel
theorem dX3_flagOffline_8 : decode cX3_flagOffline 8 = .ok (.invokestatic 76, 3) := by decide +kernel
theorem dX3_flagOffline_11 : decode cX3_flagOffline 11 = .ok (.ifCond .ne 13, 3) := by decide +kernel
theorem dX3_flagOffline_14 : decode cX3_flagOffline 14 = .ok (.new 37, 3) := by decide +kernel
theorem dX3_flagOffline_17 : decode cX3_flagOffline 17 = .ok (.dup, 1) := by decide +kernel
theorem dX3_flagOffline_18 : decode cX3_flagOffline 18 = .ok (.ldc 178, 2) := by decide +kernel
theorem dX3_flagOffline_20 : decode cX3_flagOffline 20 = .ok (.invokespecial 41, 3) := by decide +kernel
theorem dX3_flagOffline_23 : decode cX3_flagOffline 23 = .ok (.athrow, 1) := by decide +kernel
theorem dX3_flagOffline_24 : decode cX3_flagOffline 24 = .ok (.aload_n 0, 1) := by decide +kernel
theorem dX3_flagOffline_25 : decode cX3_flagOffline 25 = .ok (.iload_n 1, 1) := by decide +kernel
theorem dX3_flagOffline_26 : decode cX3_flagOffline 26 = .ok (.invokevirtual 168, 3) := by decide +kernel
theorem dX3_flagOffline_29 : decode cX3_flagOffline 29 = .ok (.astore 5, 2) := by decide +kernel
theorem dX3_flagOffline_31 : decode cX3_flagOffline 31 = .ok (.aload 5, 2) := by decide +kernel
theorem dX3_flagOffline_33 : decode cX3_flagOffline 33 = .ok (.iload_n 2, 1) := by decide +kernel
theorem dX3_flagOffline_34 : decode cX3_flagOffline 34 = .ok (.invokevirtual 180, 3) := by decide +kernel
theorem dX3_flagOffline_37 : decode cX3_flagOffline 37 = .ok (.istore 6, 2) := by decide +kernel
theorem dX3_flagOffline_39 : decode cX3_flagOffline 39 = .ok (.iload 6, 2) := by decide +kernel
theorem dX3_flagOffline_41 : decode cX3_flagOffline 41 = .ok (.iconst (-1), 1) := by decide +kernel
theorem dX3_flagOffline_42 : decode cX3_flagOffline 42 = .ok (.if_icmp .ne 13, 3) := by decide +kernel
theorem dX3_flagOffline_45 : decode cX3_flagOffline 45 = .ok (.new 37, 3) := by decide +kernel
theorem dX3_flagOffline_48 : decode cX3_flagOffline 48 = .ok (.dup, 1) := by decide +kernel
theorem dX3_flagOffline_49 : decode cX3_flagOffline 49 = .ok (.ldc 183, 2) := by decide +kernel
theorem dX3_flagOffline_51 : decode cX3_flagOffline 51 = .ok (.invokespecial 41, 3) := by decide +kernel
theorem dX3_flagOffline_54 : decode cX3_flagOffline 54 = .ok (.athrow, 1) := by decide +kernel
theorem dX3_flagOffline_55 : decode cX3_flagOffline 55 = .ok (.aload 5, 2) := by decide +kernel
theorem dX3_flagOffline_57 : decode cX3_flagOffline 57 = .ok (.getfield 185, 3) := by decide +kernel
theorem dX3_flagOffline_60 : decode cX3_flagOffline 60 = .ok (.bipush 10, 2) := by decide +kernel
theorem dX3_flagOffline_62 : decode cX3_flagOffline 62 = .ok (.if_icmp .lt 13, 3) := by decide +kernel
theorem dX3_flagOffline_65 : decode cX3_flagOffline 65 = .ok (.new 48, 3) := by decide +kernel
theorem dX3_flagOffline_68 : decode cX3_flagOffline 68 = .ok (.dup, 1) := by decide +kernel
theorem dX3_flagOffline_69 : decode cX3_flagOffline 69 = .ok (.ldc 188, 2) := by decide +kernel
theorem dX3_flagOffline_71 : decode cX3_flagOffline 71 = .ok (.invokespecial 52, 3) := by decide +kernel
theorem dX3_flagOffline_74 : decode cX3_flagOffline 74 = .ok (.athrow, 1) := by decide +kernel
theorem dX3_flagOffline_75 : decode cX3_flagOffline 75 = .ok (.aload 5, 2) := by decide +kernel
theorem dX3_flagOffline_77 : decode cX3_flagOffline 77 = .ok (.iload 6, 2) := by decide +kernel
theorem dX3_flagOffline_79 : decode cX3_flagOffline 79 = .ok (.iload_n 3, 1) := by decide +kernel
theorem dX3_flagOffline_80 : decode cX3_flagOffline 80 = .ok (.iload 4, 2) := by decide +kernel
theorem dX3_flagOffline_82 : decode cX3_flagOffline 82 = .ok (.invokevirtual 190, 3) := by decide +kernel
theorem dX3_flagOffline_85 : decode cX3_flagOffline 85 = .ok (.aload 5, 2) := by decide +kernel
theorem dX3_flagOffline_87 : decode cX3_flagOffline 87 = .ok (.getfield 185, 3) := by decide +kernel
theorem dX3_flagOffline_90 : decode cX3_flagOffline 90 = .ok (.ireturn, 1) := by decide +kernel
theorem dX3_sync_0 : decode cX3_sync 0 = .ok (.iload_n 1, 1) := by decide +kernel
theorem dX3_sync_1 : decode cX3_sync 1 = .ok (.invokestatic 194, 3) := by decide +kernel
theorem dX3_sync_4 : decode cX3_sync 4 = .ok (.aload_n 0, 1) := by decide +kernel
theorem dX3_sync_5 : decode cX3_sync 5 = .ok (.iload_n 1, 1) := by decide +kernel
theorem dX3_sync_6 : decode cX3_sync 6 = .ok (.invokevirtual 168, 3) := by decide +kernel
theorem dX3_sync_9 : decode cX3_sync 9 = .ok (.astore_n 2, 1) := by decide +kernel
theorem dX3_sync_10 : decode cX3_sync 10 = .ok (.aload_n 0, 1) := by decide +kernel
theorem dX3_sync_11 : decode cX3_sync 11 = .ok (.getfield 10, 3) := by decide +kernel
theorem dX3_sync_14 : decode cX3_sync 14 = .ok (.getfield 85, 3) := by decide +kernel
theorem dX3_sync_17 : decode cX3_sync 17 = .ok (.aload_n 2, 1) := by decide +kernel
theorem dX3_sync_18 : decode cX3_sync 18 = .ok (.getfield 197, 3) := by decide +kernel
theorem dX3_sync_21 : decode cX3_sync 21 = .ok (.invokevirtual 121, 3) := by decide +kernel
theorem dX3_sync_24 : decode cX3_sync 24 = .ok (.ifCond .ne 13, 3) := by decide +kernel
theorem dX3_sync_27 : decode cX3_sync 27 = .ok (.aload_n 2, 1) := by decide +kernel
theorem dX3_sync_28 : decode cX3_sync 28 = .ok (.dup, 1) := by decide +kernel
theorem dX3_sync_29 : decode cX3_sync 29 = .ok (.getfield 200, 3) := by decide +kernel
theorem dX3_sync_32 : decode cX3_sync 32 = .ok (.iconst 1, 1) := by decide +kernel
theorem dX3_sync_33 : decode cX3_sync 33 = .ok (.iadd, 1) := by decide +kernel
theorem dX3_sync_34 : decode cX3_sync 34 = .ok (.putfield 200, 3) := by decide +kernel
theorem dX3_sync_37 : decode cX3_sync 37 = .ok (.aload_n 2, 1) := by decide +kernel
theorem dX3_sync_38 : decode cX3_sync 38 = .ok (.aload_n 0, 1) := by decide +kernel
theorem dX3_sync_39 : decode cX3_sync 39 = .ok (.getfield 10, 3) := by decide +kernel
theorem dX3_sync_42 : decode cX3_sync 42 = .ok (.invokevirtual 203, 3) := by decide +kernel
theorem dX3_sync_45 : decode cX3_sync 45 = .ok (.istore_n 3, 1) := by decide +kernel
theorem dX3_sync_46 : decode cX3_sync 46 = .ok (.aload_n 2, 1) := by decide +kernel
theorem dX3_sync_47 : decode cX3_sync 47 = .ok (.aload_n 0, 1) := by decide +kernel
theorem dX3_sync_48 : decode cX3_sync 48 = .ok (.getfield 10, 3) := by decide +kernel
theorem dX3_sync_51 : decode cX3_sync 51 = .ok (.invokevirtual 207, 3) := by decide +kernel
theorem dX3_sync_54 : decode cX3_sync 54 = .ok (.aload_n 2, 1) := by decide +kernel
theorem dX3_sync_55 : decode cX3_sync 55 = .ok (.aload_n 0, 1) := by decide +kernel
theorem dX3_sync_56 : decode cX3_sync 56 = .ok (.getfield 10, 3) := by decide +kernel
theorem dX3_sync_59 : decode cX3_sync 59 = .ok (.invokevirtual 211, 3) := by decide +kernel
theorem dX3_sync_62 : decode cX3_sync 62 = .ok (.iload_n 3, 1) := by decide +kernel
theorem dX3_sync_63 : decode cX3_sync 63 = .ok (.ireturn, 1) := by decide +kernel
theorem dX3_stateOf_0 : decode cX3_stateOf 0 = .ok (.iload_n 1, 1) := by decide +kernel
theorem dX3_stateOf_1 : decode cX3_stateOf 1 = .ok (.invokestatic 194, 3) := by decide +kernel
theorem dX3_stateOf_4 : decode cX3_stateOf 4 = .ok (.aload_n 0, 1) := by decide +kernel
theorem dX3_stateOf_5 : decode cX3_stateOf 5 = .ok (.iload_n 1, 1) := by decide +kernel
theorem dX3_stateOf_6 : decode cX3_stateOf 6 = .ok (.invokevirtual 168, 3) := by decide +kernel
theorem dX3_stateOf_9 : decode cX3_stateOf 9 = .ok (.getfield 197, 3) := by decide +kernel
theorem dX3_stateOf_12 : decode cX3_stateOf 12 = .ok (.ireturn, 1) := by decide +kernel
theorem dX3_window_0 : decode cX3_window 0 = .ok (.iload_n 1, 1) := by decide +kernel
theorem dX3_window_1 : decode cX3_window 1 = .ok (.invokestatic 194, 3) := by decide +kernel
theorem dX3_window_4 : decode cX3_window 4 = .ok (.aload_n 0, 1) := by decide +kernel
theorem dX3_window_5 : decode cX3_window 5 = .ok (.iload_n 1, 1) := by decide +kernel
theorem dX3_window_6 : decode cX3_window 6 = .ok (.invokevirtual 168, 3) := by decide +kernel
theorem dX3_window_9 : decode cX3_window 9 = .ok (.getfield 214, 3) := by decide +kernel
theorem dX3_window_12 : decode cX3_window 12 = .ok (.ireturn, 1) := by decide +kernel
theorem dX3_windowAt_0 : decode cX3_windowAt 0 = .ok (.iload_n 1, 1) := by decide +kernel
theorem dX3_windowAt_1 : decode cX3_windowAt 1 = .ok (.invokestatic 194, 3) := by decide +kernel
theorem dX3_windowAt_4 : decode cX3_windowAt 4 = .ok (.aload_n 0, 1) := by decide +kernel
theorem dX3_windowAt_5 : decode cX3_windowAt 5 = .ok (.iload_n 1, 1) := by decide +kernel
theorem dX3_windowAt_6 : decode cX3_windowAt 6 = .ok (.invokevirtual 168, 3) := by decide +kernel
theorem dX3_windowAt_9 : decode cX3_windowAt 9 = .ok (.astore_n 3, 1) := by decide +kernel
theorem dX3_windowAt_10 : decode cX3_windowAt 10 = .ok (.aload_n 3, 1) := by decide +kernel
theorem dX3_windowAt_11 : decode cX3_windowAt 11 = .ok (.iload_n 2, 1) := by decide +kernel
theorem dX3_windowAt_12 : decode cX3_windowAt 12 = .ok (.invokevirtual 217, 3) := by decide +kernel
theorem dX3_windowAt_15 : decode cX3_windowAt 15 = .ok (.ifCond .ne 13, 3) := by decide +kernel
theorem dX3_windowAt_18 : decode cX3_windowAt 18 = .ok (.new 220, 3) := by decide +kernel
theorem dX3_windowAt_21 : decode cX3_windowAt 21 = .ok (.dup, 1) := by decide +kernel
theorem dX3_windowAt_22 : decode cX3_windowAt 22 = .ok (.ldc 222, 2) := by decide +kernel
theorem dX3_windowAt_24 : decode cX3_windowAt 24 = .ok (.invokespecial 224, 3) := by decide +kernel
theorem dX3_windowAt_27 : decode cX3_windowAt 27 = .ok (.athrow, 1) := by decide +kernel
theorem dX3_windowAt_28 : decode cX3_windowAt 28 = .ok (.aload_n 3, 1) := by decide +kernel
theorem dX3_windowAt_29 : decode cX3_windowAt 29 = .ok (.getfield 225, 3) := by decide +kernel
theorem dX3_windowAt_32 : decode cX3_windowAt 32 = .ok (.iload_n 2, 1) := by decide +kernel
theorem dX3_windowAt_33 : decode cX3_windowAt 33 = .ok (.iaload, 1) := by decide +kernel
theorem dX3_windowAt_34 : decode cX3_windowAt 34 = .ok (.ireturn, 1) := by decide +kernel
theorem dX3_known_0 : decode cX3_known 0 = .ok (.iload_n 1, 1) := by decide +kernel
theorem dX3_known_1 : decode cX3_known 1 = .ok (.invokestatic 194, 3) := by decide +kernel
theorem dX3_known_4 : decode cX3_known 4 = .ok (.aload_n 0, 1) := by decide +kernel
theorem dX3_known_5 : decode cX3_known 5 = .ok (.iload_n 1, 1) := by decide +kernel
theorem dX3_known_6 : decode cX3_known 6 = .ok (.invokevirtual 168, 3) := by decide +kernel
theorem dX3_known_9 : decode cX3_known 9 = .ok (.astore_n 3, 1) := by decide +kernel
theorem dX3_known_10 : decode cX3_known 10 = .ok (.aload_n 3, 1) := by decide +kernel
theorem dX3_known_11 : decode cX3_known 11 = .ok (.iload_n 2, 1) := by decide +kernel
theorem dX3_known_12 : decode cX3_known 12 = .ok (.invokevirtual 217, 3) := by decide +kernel
theorem dX3_known_15 : decode cX3_known 15 = .ok (.ifCond .ne 13, 3) := by decide +kernel
theorem dX3_known_18 : decode cX3_known 18 = .ok (.new 220, 3) := by decide +kernel
theorem dX3_known_21 : decode cX3_known 21 = .ok (.dup, 1) := by decide +kernel
theorem dX3_known_22 : decode cX3_known 22 = .ok (.ldc 222, 2) := by decide +kernel
theorem dX3_known_24 : decode cX3_known 24 = .ok (.invokespecial 224, 3) := by decide +kernel
theorem dX3_known_27 : decode cX3_known 27 = .ok (.athrow, 1) := by decide +kernel
theorem dX3_known_28 : decode cX3_known 28 = .ok (.aload_n 3, 1) := by decide +kernel
theorem dX3_known_29 : decode cX3_known 29 = .ok (.getfield 229, 3) := by decide +kernel
theorem dX3_known_32 : decode cX3_known 32 = .ok (.iload_n 2, 1) := by decide +kernel
theorem dX3_known_33 : decode cX3_known 33 = .ok (.iaload, 1) := by decide +kernel
theorem dX3_known_34 : decode cX3_known 34 = .ok (.ireturn, 1) := by decide +kernel
theorem dX3_freshLoads_0 : decode cX3_freshLoads 0 = .ok (.iload_n 1, 1) := by decide +kernel
theorem dX3_freshLoads_1 : decode cX3_freshLoads 1 = .ok (.invokestatic 194, 3) := by decide +kernel
theorem dX3_freshLoads_4 : decode cX3_freshLoads 4 = .ok (.aload_n 0, 1) := by decide +kernel
theorem dX3_freshLoads_5 : decode cX3_freshLoads 5 = .ok (.iload_n 1, 1) := by decide +kernel
theorem dX3_freshLoads_6 : decode cX3_freshLoads 6 = .ok (.invokevirtual 168, 3) := by decide +kernel
theorem dX3_freshLoads_9 : decode cX3_freshLoads 9 = .ok (.getfield 200, 3) := by decide +kernel
theorem dX3_freshLoads_12 : decode cX3_freshLoads 12 = .ok (.ireturn, 1) := by decide +kernel
theorem dX3_isWithin_0 : decode cX3_isWithin 0 = .ok (.iload_n 0, 1) := by decide +kernel
theorem dX3_isWithin_1 : decode cX3_isWithin 1 = .ok (.iload_n 1, 1) := by decide +kernel
theorem dX3_isWithin_2 : decode cX3_isWithin 2 = .ok (.if_icmp .lt 12, 3) := by decide +kernel
theorem dX3_isWithin_5 : decode cX3_isWithin 5 = .ok (.iload_n 0, 1) := by decide +kernel
theorem dX3_isWithin_6 : decode cX3_isWithin 6 = .ok (.iload_n 2, 1) := by decide +kernel
theorem dX3_isWithin_7 : decode cX3_isWithin 7 = .ok (.if_icmp .gt 7, 3) := by decide +kernel
theorem dX3_isWithin_10 : decode cX3_isWithin 10 = .ok (.iconst 1, 1) := by decide +kernel
theorem dX3_isWithin_11 : decode cX3_isWithin 11 = .ok (.goto 4, 3) := by decide +kernel
theorem dX3_isWithin_14 : decode cX3_isWithin 14 = .ok (.iconst 0, 1) := by decide +kernel
theorem dX3_isWithin_15 : decode cX3_isWithin 15 = .ok (.ireturn, 1) := by decide +kernel
theorem dX3_isBox_0 : decode cX3_isBox 0 = .ok (.iload_n 0, 1) := by decide +kernel
theorem dX3_isBox_1 : decode cX3_isBox 1 = .ok (.iconst 0, 1) := by decide +kernel
theorem dX3_isBox_2 : decode cX3_isBox 2 = .ok (.iconst 5, 1) := by decide +kernel
theorem dX3_isBox_3 : decode cX3_isBox 3 = .ok (.invokestatic 26, 3) := by decide +kernel
theorem dX3_isBox_6 : decode cX3_isBox 6 = .ok (.ireturn, 1) := by decide +kernel
theorem dX3_isBoxSet_0 : decode cX3_isBoxSet 0 = .ok (.iload_n 0, 1) := by decide +kernel
theorem dX3_isBoxSet_1 : decode cX3_isBoxSet 1 = .ok (.iconst 1, 1) := by decide +kernel
theorem dX3_isBoxSet_2 : decode cX3_isBoxSet 2 = .ok (.bipush 63, 2) := by decide +kernel
theorem dX3_isBoxSet_4 : decode cX3_isBoxSet 4 = .ok (.invokestatic 26, 3) := by decide +kernel
theorem dX3_isBoxSet_7 : decode cX3_isBoxSet 7 = .ok (.ireturn, 1) := by decide +kernel
theorem dX3_isThread_0 : decode cX3_isThread 0 = .ok (.iload_n 0, 1) := by decide +kernel
theorem dX3_isThread_1 : decode cX3_isThread 1 = .ok (.iconst 0, 1) := by decide +kernel
theorem dX3_isThread_2 : decode cX3_isThread 2 = .ok (.bipush 9, 2) := by decide +kernel
theorem dX3_isThread_4 : decode cX3_isThread 4 = .ok (.invokestatic 26, 3) := by decide +kernel
theorem dX3_isThread_7 : decode cX3_isThread 7 = .ok (.ireturn, 1) := by decide +kernel
theorem dX3_isKeyword_0 : decode cX3_isKeyword 0 = .ok (.iload_n 0, 1) := by decide +kernel
theorem dX3_isKeyword_1 : decode cX3_isKeyword 1 = .ok (.iconst 0, 1) := by decide +kernel
theorem dX3_isKeyword_2 : decode cX3_isKeyword 2 = .ok (.iconst 3, 1) := by decide +kernel
theorem dX3_isKeyword_3 : decode cX3_isKeyword 3 = .ok (.invokestatic 26, 3) := by decide +kernel
theorem dX3_isKeyword_6 : decode cX3_isKeyword 6 = .ok (.ireturn, 1) := by decide +kernel
theorem dX3_isQueryKeyword_0 : decode cX3_isQueryKeyword 0 = .ok (.iload_n 0, 1) := by decide +kernel
theorem dX3_isQueryKeyword_1 : decode cX3_isQueryKeyword 1 = .ok (.iconst (-1), 1) := by decide +kernel
theorem dX3_isQueryKeyword_2 : decode cX3_isQueryKeyword 2 = .ok (.if_icmp .eq 10, 3) := by decide +kernel
theorem dX3_isQueryKeyword_5 : decode cX3_isQueryKeyword 5 = .ok (.iload_n 0, 1) := by decide +kernel
theorem dX3_isQueryKeyword_6 : decode cX3_isQueryKeyword 6 = .ok (.invokestatic 76, 3) := by decide +kernel
theorem dX3_isQueryKeyword_9 : decode cX3_isQueryKeyword 9 = .ok (.ifCond .eq 7, 3) := by decide +kernel
theorem dX3_isQueryKeyword_12 : decode cX3_isQueryKeyword 12 = .ok (.iconst 1, 1) := by decide +kernel
theorem dX3_isQueryKeyword_13 : decode cX3_isQueryKeyword 13 = .ok (.goto 4, 3) := by decide +kernel
theorem dX3_isQueryKeyword_16 : decode cX3_isQueryKeyword 16 = .ok (.iconst 0, 1) := by decide +kernel
theorem dX3_isQueryKeyword_17 : decode cX3_isQueryKeyword 17 = .ok (.ireturn, 1) := by decide +kernel
theorem dX3_isWay_0 : decode cX3_isWay 0 = .ok (.iload_n 0, 1) := by decide +kernel
theorem dX3_isWay_1 : decode cX3_isWay 1 = .ok (.iconst 0, 1) := by decide +kernel
theorem dX3_isWay_2 : decode cX3_isWay 2 = .ok (.iconst 2, 1) := by decide +kernel
theorem dX3_isWay_3 : decode cX3_isWay 3 = .ok (.invokestatic 26, 3) := by decide +kernel
theorem dX3_isWay_6 : decode cX3_isWay 6 = .ok (.ireturn, 1) := by decide +kernel
theorem dX3_isClient_0 : decode cX3_isClient 0 = .ok (.iload_n 0, 1) := by decide +kernel
theorem dX3_isClient_1 : decode cX3_isClient 1 = .ok (.iconst 0, 1) := by decide +kernel
theorem dX3_isClient_2 : decode cX3_isClient 2 = .ok (.iconst 1, 1) := by decide +kernel
theorem dX3_isClient_3 : decode cX3_isClient 3 = .ok (.invokestatic 26, 3) := by decide +kernel
theorem dX3_isClient_6 : decode cX3_isClient 6 = .ok (.ireturn, 1) := by decide +kernel
theorem dX3_requireClient_0 : decode cX3_requireClient 0 = .ok (.iload_n 0, 1) := by decide +kernel
theorem dX3_requireClient_1 : decode cX3_requireClient 1 = .ok (.invokestatic 163, 3) := by decide +kernel
theorem dX3_requireClient_4 : decode cX3_requireClient 4 = .ok (.ifCond .ne 13, 3) := by decide +kernel
theorem dX3_requireClient_7 : decode cX3_requireClient 7 = .ok (.new 37, 3) := by decide +kernel
theorem dX3_requireClient_10 : decode cX3_requireClient 10 = .ok (.dup, 1) := by decide +kernel
theorem dX3_requireClient_11 : decode cX3_requireClient 11 = .ok (.ldc 232, 2) := by decide +kernel
theorem dX3_requireClient_13 : decode cX3_requireClient 13 = .ok (.invokespecial 41, 3) := by decide +kernel
theorem dX3_requireClient_16 : decode cX3_requireClient 16 = .ok (.athrow, 1) := by decide +kernel
theorem dX3_requireClient_17 : decode cX3_requireClient 17 = .ok (.return_, 1) := by decide +kernel
theorem dX3_requireMail_0 : decode cX3_requireMail 0 = .ok (.iload_n 0, 1) := by decide +kernel
theorem dX3_requireMail_1 : decode cX3_requireMail 1 = .ok (.ifCond .ne 13, 3) := by decide +kernel
theorem dX3_requireMail_4 : decode cX3_requireMail 4 = .ok (.new 220, 3) := by decide +kernel
theorem dX3_requireMail_7 : decode cX3_requireMail 7 = .ok (.dup, 1) := by decide +kernel
theorem dX3_requireMail_8 : decode cX3_requireMail 8 = .ok (.ldc 222, 2) := by decide +kernel
theorem dX3_requireMail_10 : decode cX3_requireMail 10 = .ok (.invokespecial 224, 3) := by decide +kernel
theorem dX3_requireMail_13 : decode cX3_requireMail 13 = .ok (.athrow, 1) := by decide +kernel
theorem dX3_requireMail_14 : decode cX3_requireMail 14 = .ok (.return_, 1) := by decide +kernel
theorem dX3_requireTelling_0 : decode cX3_requireTelling 0 = .ok (.aload_n 0, 1) := by decide +kernel
theorem dX3_requireTelling_1 : decode cX3_requireTelling 1 = .ok (.getfield 10, 3) := by decide +kernel
theorem dX3_requireTelling_4 : decode cX3_requireTelling 4 = .ok (.getfield 85, 3) := by decide +kernel
theorem dX3_requireTelling_7 : decode cX3_requireTelling 7 = .ok (.iload_n 1, 1) := by decide +kernel
theorem dX3_requireTelling_8 : decode cX3_requireTelling 8 = .ok (.invokevirtual 121, 3) := by decide +kernel
theorem dX3_requireTelling_11 : decode cX3_requireTelling 11 = .ok (.ifCond .ne 13, 3) := by decide +kernel
theorem dX3_requireTelling_14 : decode cX3_requireTelling 14 = .ok (.new 48, 3) := by decide +kernel
theorem dX3_requireTelling_17 : decode cX3_requireTelling 17 = .ok (.dup, 1) := by decide +kernel
theorem dX3_requireTelling_18 : decode cX3_requireTelling 18 = .ok (.ldc 234, 2) := by decide +kernel
theorem dX3_requireTelling_20 : decode cX3_requireTelling 20 = .ok (.invokespecial 52, 3) := by decide +kernel
theorem dX3_requireTelling_23 : decode cX3_requireTelling 23 = .ok (.athrow, 1) := by decide +kernel
theorem dX3_requireTelling_24 : decode cX3_requireTelling 24 = .ok (.return_, 1) := by decide +kernel
theorem dX3_isState_0 : decode cX3_isState 0 = .ok (.iload_n 1, 1) := by decide +kernel
theorem dX3_isState_1 : decode cX3_isState 1 = .ok (.iconst 0, 1) := by decide +kernel
theorem dX3_isState_2 : decode cX3_isState 2 = .ok (.aload_n 0, 1) := by decide +kernel
theorem dX3_isState_3 : decode cX3_isState 3 = .ok (.getfield 10, 3) := by decide +kernel
theorem dX3_isState_6 : decode cX3_isState 6 = .ok (.getfield 85, 3) := by decide +kernel
theorem dX3_isState_9 : decode cX3_isState 9 = .ok (.getfield 89, 3) := by decide +kernel
theorem dX3_isState_12 : decode cX3_isState 12 = .ok (.invokestatic 26, 3) := by decide +kernel
theorem dX3_isState_15 : decode cX3_isState 15 = .ok (.ireturn, 1) := by decide +kernel
theorem dX3_clientOf_0 : decode cX3_clientOf 0 = .ok (.iload_n 1, 1) := by decide +kernel
theorem dX3_clientOf_1 : decode cX3_clientOf 1 = .ok (.ifCond .ne 10, 3) := by decide +kernel
theorem dX3_clientOf_4 : decode cX3_clientOf 4 = .ok (.aload_n 0, 1) := by decide +kernel
theorem dX3_clientOf_5 : decode cX3_clientOf 5 = .ok (.getfield 19, 3) := by decide +kernel
theorem dX3_clientOf_8 : decode cX3_clientOf 8 = .ok (.goto 7, 3) := by decide +kernel
theorem dX3_clientOf_11 : decode cX3_clientOf 11 = .ok (.aload_n 0, 1) := by decide +kernel
theorem dX3_clientOf_12 : decode cX3_clientOf 12 = .ok (.getfield 23, 3) := by decide +kernel
theorem dX3_clientOf_15 : decode cX3_clientOf 15 = .ok (.areturn, 1) := by decide +kernel
theorem dX3_asked_0 : decode cX3_asked 0 = .ok (.iload_n 0, 1) := by decide +kernel
theorem dX3_asked_1 : decode cX3_asked 1 = .ok (.iconst (-1), 1) := by decide +kernel
theorem dX3_asked_2 : decode cX3_asked 2 = .ok (.if_icmp .ne 7, 3) := by decide +kernel
theorem dX3_asked_5 : decode cX3_asked 5 = .ok (.iconst 0, 1) := by decide +kernel
theorem dX3_asked_6 : decode cX3_asked 6 = .ok (.goto 6, 3) := by decide +kernel
theorem dX3_asked_9 : decode cX3_asked 9 = .ok (.iconst 1, 1) := by decide +kernel
theorem dX3_asked_10 : decode cX3_asked 10 = .ok (.iload_n 0, 1) := by decide +kernel
theorem dX3_asked_11 : decode cX3_asked 11 = .ok (.ishl, 1) := by decide +kernel
theorem dX3_asked_12 : decode cX3_asked 12 = .ok (.ireturn, 1) := by decide +kernel
theorem dX3_holds_0 : decode cX3_holds 0 = .ok (.lload_n 0, 1) := by decide +kernel
theorem dX3_holds_1 : decode cX3_holds 1 = .ok (.iload_n 2, 1) := by decide +kernel
theorem dX3_holds_2 : decode cX3_holds 2 = .ok (.lshr, 1) := by decide +kernel
theorem dX3_holds_3 : decode cX3_holds 3 = .ok (.lconst 1, 1) := by decide +kernel
theorem dX3_holds_4 : decode cX3_holds 4 = .ok (.land, 1) := by decide +kernel
theorem dX3_holds_5 : decode cX3_holds 5 = .ok (.lconst 1, 1) := by decide +kernel
theorem dX3_holds_6 : decode cX3_holds 6 = .ok (.lcmp, 1) := by decide +kernel
theorem dX3_holds_7 : decode cX3_holds 7 = .ok (.ifCond .ne 7, 3) := by decide +kernel
theorem dX3_holds_10 : decode cX3_holds 10 = .ok (.iconst 1, 1) := by decide +kernel
theorem dX3_holds_11 : decode cX3_holds 11 = .ok (.goto 4, 3) := by decide +kernel
theorem dX3_holds_14 : decode cX3_holds 14 = .ok (.iconst 0, 1) := by decide +kernel
theorem dX3_holds_15 : decode cX3_holds 15 = .ok (.ireturn, 1) := by decide +kernel
theorem dX3_with_0 : decode cX3_with 0 = .ok (.iload_n 3, 1) := by decide +kernel
theorem dX3_with_1 : decode cX3_with 1 = .ok (.ifCond .eq 11, 3) := by decide +kernel
theorem dX3_with_4 : decode cX3_with 4 = .ok (.lload_n 0, 1) := by decide +kernel
theorem dX3_with_5 : decode cX3_with 5 = .ok (.lconst 1, 1) := by decide +kernel
theorem dX3_with_6 : decode cX3_with 6 = .ok (.iload_n 2, 1) := by decide +kernel
theorem dX3_with_7 : decode cX3_with 7 = .ok (.lshl, 1) := by decide +kernel
theorem dX3_with_8 : decode cX3_with 8 = .ok (.lor, 1) := by decide +kernel
theorem dX3_with_9 : decode cX3_with 9 = .ok (.goto 12, 3) := by decide +kernel
theorem dX3_with_12 : decode cX3_with 12 = .ok (.lload_n 0, 1) := by decide +kernel
theorem dX3_with_13 : decode cX3_with 13 = .ok (.lconst 1, 1) := by decide +kernel
theorem dX3_with_14 : decode cX3_with 14 = .ok (.iload_n 2, 1) := by decide +kernel
theorem dX3_with_15 : decode cX3_with 15 = .ok (.lshl, 1) := by decide +kernel
theorem dX3_with_16 : decode cX3_with 16 = .ok (.ldc2_w 161, 3) := by decide +kernel
theorem dX3_with_19 : decode cX3_with 19 = .ok (.lxor, 1) := by decide +kernel
theorem dX3_with_20 : decode cX3_with 20 = .ok (.land, 1) := by decide +kernel
theorem dX3_with_21 : decode cX3_with 21 = .ok (.lreturn, 1) := by decide +kernel
theorem dX3_lowestAt_0 : decode cX3_lowestAt 0 = .ok (.iconst 0, 1) := by decide +kernel
theorem dX3_lowestAt_1 : decode cX3_lowestAt 1 = .ok (.istore_n 3, 1) := by decide +kernel
theorem dX3_lowestAt_2 : decode cX3_lowestAt 2 = .ok (.iconst 0, 1) := by decide +kernel
theorem dX3_lowestAt_3 : decode cX3_lowestAt 3 = .ok (.istore 4, 2) := by decide +kernel
theorem dX3_lowestAt_5 : decode cX3_lowestAt 5 = .ok (.iload 4, 2) := by decide +kernel
theorem dX3_lowestAt_7 : decode cX3_lowestAt 7 = .ok (.bipush 60, 2) := by decide +kernel
theorem dX3_lowestAt_9 : decode cX3_lowestAt 9 = .ok (.if_icmp .ge 29, 3) := by decide +kernel
theorem dX3_lowestAt_12 : decode cX3_lowestAt 12 = .ok (.lload_n 0, 1) := by decide +kernel
theorem dX3_lowestAt_13 : decode cX3_lowestAt 13 = .ok (.iload 4, 2) := by decide +kernel
theorem dX3_lowestAt_15 : decode cX3_lowestAt 15 = .ok (.invokestatic 236, 3) := by decide +kernel
theorem dX3_lowestAt_18 : decode cX3_lowestAt 18 = .ok (.ifCond .eq 14, 3) := by decide +kernel
theorem dX3_lowestAt_21 : decode cX3_lowestAt 21 = .ok (.iload_n 3, 1) := by decide +kernel
theorem dX3_lowestAt_22 : decode cX3_lowestAt 22 = .ok (.iload_n 2, 1) := by decide +kernel
theorem dX3_lowestAt_23 : decode cX3_lowestAt 23 = .ok (.if_icmp .ne 6, 3) := by decide +kernel
theorem dX3_lowestAt_26 : decode cX3_lowestAt 26 = .ok (.iload 4, 2) := by decide +kernel
theorem dX3_lowestAt_28 : decode cX3_lowestAt 28 = .ok (.ireturn, 1) := by decide +kernel
theorem dX3_lowestAt_29 : decode cX3_lowestAt 29 = .ok (.iinc 3 1, 3) := by decide +kernel
theorem dX3_lowestAt_32 : decode cX3_lowestAt 32 = .ok (.iinc 4 1, 3) := by decide +kernel
theorem dX3_lowestAt_35 : decode cX3_lowestAt 35 = .ok (.goto (-30), 3) := by decide +kernel
theorem dX3_lowestAt_38 : decode cX3_lowestAt 38 = .ok (.iconst (-1), 1) := by decide +kernel
theorem dX3_lowestAt_39 : decode cX3_lowestAt 39 = .ok (.ireturn, 1) := by decide +kernel
theorem dX3_matches_0 : decode cX3_matches 0 = .ok (.iload_n 0, 1) := by decide +kernel
theorem dX3_matches_1 : decode cX3_matches 1 = .ok (.iload_n 2, 1) := by decide +kernel
theorem dX3_matches_2 : decode cX3_matches 2 = .ok (.iand, 1) := by decide +kernel
theorem dX3_matches_3 : decode cX3_matches 3 = .ok (.ifCond .eq 14, 3) := by decide +kernel
theorem dX3_matches_6 : decode cX3_matches 6 = .ok (.iload_n 1, 1) := by decide +kernel
theorem dX3_matches_7 : decode cX3_matches 7 = .ok (.iload_n 3, 1) := by decide +kernel
theorem dX3_matches_8 : decode cX3_matches 8 = .ok (.iand, 1) := by decide +kernel
theorem dX3_matches_9 : decode cX3_matches 9 = .ok (.iload_n 3, 1) := by decide +kernel
theorem dX3_matches_10 : decode cX3_matches 10 = .ok (.if_icmp .ne 7, 3) := by decide +kernel
theorem dX3_matches_13 : decode cX3_matches 13 = .ok (.iconst 1, 1) := by decide +kernel
theorem dX3_matches_14 : decode cX3_matches 14 = .ok (.goto 4, 3) := by decide +kernel
theorem dX3_matches_17 : decode cX3_matches 17 = .ok (.iconst 0, 1) := by decide +kernel
theorem dX3_matches_18 : decode cX3_matches 18 = .ok (.ireturn, 1) := by decide +kernel
theorem dX4_init_0 : decode cX4_init 0 = .ok (.aload_n 0, 1) := by decide +kernel
theorem dX4_init_1 : decode cX4_init 1 = .ok (.invokespecial 1, 3) := by decide +kernel
theorem dX4_init_4 : decode cX4_init 4 = .ok (.aload_n 0, 1) := by decide +kernel
theorem dX4_init_5 : decode cX4_init 5 = .ok (.bipush 60, 2) := by decide +kernel
theorem dX4_init_7 : decode cX4_init 7 = .ok (.newarray .int, 2) := by decide +kernel
theorem dX4_init_9 : decode cX4_init 9 = .ok (.putfield 7, 3) := by decide +kernel
theorem dX4_init_12 : decode cX4_init 12 = .ok (.aload_n 0, 1) := by decide +kernel
theorem dX4_init_13 : decode cX4_init 13 = .ok (.bipush 60, 2) := by decide +kernel
theorem dX4_init_15 : decode cX4_init 15 = .ok (.newarray .int, 2) := by decide +kernel
theorem dX4_init_17 : decode cX4_init 17 = .ok (.putfield 13, 3) := by decide +kernel
theorem dX4_init_20 : decode cX4_init 20 = .ok (.aload_n 0, 1) := by decide +kernel
theorem dX4_init_21 : decode cX4_init 21 = .ok (.bipush 60, 2) := by decide +kernel
theorem dX4_init_23 : decode cX4_init 23 = .ok (.newarray .int, 2) := by decide +kernel
theorem dX4_init_25 : decode cX4_init 25 = .ok (.putfield 16, 3) := by decide +kernel
theorem dX4_init_28 : decode cX4_init 28 = .ok (.aload_n 0, 1) := by decide +kernel
theorem dX4_init_29 : decode cX4_init 29 = .ok (.bipush 60, 2) := by decide +kernel
theorem dX4_init_31 : decode cX4_init 31 = .ok (.newarray .int, 2) := by decide +kernel
theorem dX4_init_33 : decode cX4_init 33 = .ok (.putfield 19, 3) := by decide +kernel
theorem dX4_init_36 : decode cX4_init 36 = .ok (.aload_n 0, 1) := by decide +kernel
theorem dX4_init_37 : decode cX4_init 37 = .ok (.bipush 60, 2) := by decide +kernel
theorem dX4_init_39 : decode cX4_init 39 = .ok (.newarray .int, 2) := by decide +kernel
theorem dX4_init_41 : decode cX4_init 41 = .ok (.putfield 22, 3) := by decide +kernel
theorem dX4_init_44 : decode cX4_init 44 = .ok (.aload_n 0, 1) := by decide +kernel
theorem dX4_init_45 : decode cX4_init 45 = .ok (.bipush 60, 2) := by decide +kernel
theorem dX4_init_47 : decode cX4_init 47 = .ok (.newarray .int, 2) := by decide +kernel
theorem dX4_init_49 : decode cX4_init 49 = .ok (.putfield 25, 3) := by decide +kernel
theorem dX4_init_52 : decode cX4_init 52 = .ok (.aload_n 0, 1) := by decide +kernel
theorem dX4_init_53 : decode cX4_init 53 = .ok (.sipush 2048, 3) := by decide +kernel
theorem dX4_init_56 : decode cX4_init 56 = .ok (.newarray .int, 2) := by decide +kernel
theorem dX4_init_58 : decode cX4_init 58 = .ok (.putfield 28, 3) := by decide +kernel
theorem dX4_init_61 : decode cX4_init 61 = .ok (.aload_n 0, 1) := by decide +kernel
theorem dX4_init_62 : decode cX4_init 62 = .ok (.sipush 2048, 3) := by decide +kernel
theorem dX4_init_65 : decode cX4_init 65 = .ok (.newarray .int, 2) := by decide +kernel
theorem dX4_init_67 : decode cX4_init 67 = .ok (.putfield 31, 3) := by decide +kernel
theorem dX4_init_70 : decode cX4_init 70 = .ok (.aload_n 0, 1) := by decide +kernel
theorem dX4_init_71 : decode cX4_init 71 = .ok (.sipush 2048, 3) := by decide +kernel
theorem dX4_init_74 : decode cX4_init 74 = .ok (.newarray .int, 2) := by decide +kernel
theorem dX4_init_76 : decode cX4_init 76 = .ok (.putfield 34, 3) := by decide +kernel
theorem dX4_init_79 : decode cX4_init 79 = .ok (.aload_n 0, 1) := by decide +kernel
theorem dX4_init_80 : decode cX4_init 80 = .ok (.sipush 2048, 3) := by decide +kernel
theorem dX4_init_83 : decode cX4_init 83 = .ok (.newarray .int, 2) := by decide +kernel
theorem dX4_init_85 : decode cX4_init 85 = .ok (.putfield 37, 3) := by decide +kernel
theorem dX4_init_88 : decode cX4_init 88 = .ok (.aload_n 0, 1) := by decide +kernel
theorem dX4_init_89 : decode cX4_init 89 = .ok (.sipush 2048, 3) := by decide +kernel
theorem dX4_init_92 : decode cX4_init 92 = .ok (.newarray .int, 2) := by decide +kernel
theorem dX4_init_94 : decode cX4_init 94 = .ok (.putfield 40, 3) := by decide +kernel
theorem dX4_init_97 : decode cX4_init 97 = .ok (.aload_n 0, 1) := by decide +kernel
theorem dX4_init_98 : decode cX4_init 98 = .ok (.sipush 2048, 3) := by decide +kernel
theorem dX4_init_101 : decode cX4_init 101 = .ok (.newarray .boolean, 2) := by decide +kernel
theorem dX4_init_103 : decode cX4_init 103 = .ok (.putfield 43, 3) := by decide +kernel
theorem dX4_init_106 : decode cX4_init 106 = .ok (.aload_n 0, 1) := by decide +kernel
theorem dX4_init_107 : decode cX4_init 107 = .ok (.iconst 2, 1) := by decide +kernel
theorem dX4_init_108 : decode cX4_init 108 = .ok (.newarray .int, 2) := by decide +kernel
theorem dX4_init_110 : decode cX4_init 110 = .ok (.putfield 47, 3) := by decide +kernel
theorem dX4_init_113 : decode cX4_init 113 = .ok (.aload_n 0, 1) := by decide +kernel
theorem dX4_init_114 : decode cX4_init 114 = .ok (.iconst 2, 1) := by decide +kernel
theorem dX4_init_115 : decode cX4_init 115 = .ok (.newarray .int, 2) := by decide +kernel
theorem dX4_init_117 : decode cX4_init 117 = .ok (.putfield 50, 3) := by decide +kernel
theorem dX4_init_120 : decode cX4_init 120 = .ok (.aload_n 0, 1) := by decide +kernel
theorem dX4_init_121 : decode cX4_init 121 = .ok (.iconst 2, 1) := by decide +kernel
theorem dX4_init_122 : decode cX4_init 122 = .ok (.newarray .int, 2) := by decide +kernel
theorem dX4_init_124 : decode cX4_init 124 = .ok (.putfield 53, 3) := by decide +kernel
theorem dX4_init_127 : decode cX4_init 127 = .ok (.aload_n 0, 1) := by decide +kernel
theorem dX4_init_128 : decode cX4_init 128 = .ok (.iconst 2, 1) := by decide +kernel
theorem dX4_init_129 : decode cX4_init 129 = .ok (.newarray .int, 2) := by decide +kernel
theorem dX4_init_131 : decode cX4_init 131 = .ok (.putfield 56, 3) := by decide +kernel
theorem dX4_init_134 : decode cX4_init 134 = .ok (.aload_n 0, 1) := by decide +kernel
theorem dX4_init_135 : decode cX4_init 135 = .ok (.bipush 20, 2) := by decide +kernel
theorem dX4_init_137 : decode cX4_init 137 = .ok (.newarray .int, 2) := by decide +kernel
theorem dX4_init_139 : decode cX4_init 139 = .ok (.putfield 59, 3) := by decide +kernel
theorem dX4_init_142 : decode cX4_init 142 = .ok (.aload_n 0, 1) := by decide +kernel
theorem dX4_init_143 : decode cX4_init 143 = .ok (.bipush 20, 2) := by decide +kernel
theorem dX4_init_145 : decode cX4_init 145 = .ok (.newarray .int, 2) := by decide +kernel
theorem dX4_init_147 : decode cX4_init 147 = .ok (.putfield 62, 3) := by decide +kernel
theorem dX4_init_150 : decode cX4_init 150 = .ok (.aload_n 0, 1) := by decide +kernel
theorem dX4_init_151 : decode cX4_init 151 = .ok (.iconst 2, 1) := by decide +kernel
theorem dX4_init_152 : decode cX4_init 152 = .ok (.newarray .int, 2) := by decide +kernel
theorem dX4_init_154 : decode cX4_init 154 = .ok (.putfield 65, 3) := by decide +kernel
theorem dX4_init_157 : decode cX4_init 157 = .ok (.aload_n 0, 1) := by decide +kernel
theorem dX4_init_158 : decode cX4_init 158 = .ok (.bipush 20, 2) := by decide +kernel
theorem dX4_init_160 : decode cX4_init 160 = .ok (.newarray .int, 2) := by decide +kernel
theorem dX4_init_162 : decode cX4_init 162 = .ok (.putfield 68, 3) := by decide +kernel
theorem dX4_init_165 : decode cX4_init 165 = .ok (.aload_n 0, 1) := by decide +kernel
theorem dX4_init_166 : decode cX4_init 166 = .ok (.bipush 20, 2) := by decide +kernel
theorem dX4_init_168 : decode cX4_init 168 = .ok (.newarray .int, 2) := by decide +kernel
theorem dX4_init_170 : decode cX4_init 170 = .ok (.putfield 71, 3) := by decide +kernel
theorem dX4_init_173 : decode cX4_init 173 = .ok (.aload_n 0, 1) := by decide +kernel
theorem dX4_init_174 : decode cX4_init 174 = .ok (.bipush 20, 2) := by decide +kernel
theorem dX4_init_176 : decode cX4_init 176 = .ok (.newarray .boolean, 2) := by decide +kernel
theorem dX4_init_178 : decode cX4_init 178 = .ok (.putfield 74, 3) := by decide +kernel
theorem dX4_init_181 : decode cX4_init 181 = .ok (.aload_n 0, 1) := by decide +kernel
theorem dX4_init_182 : decode cX4_init 182 = .ok (.iconst 2, 1) := by decide +kernel
theorem dX4_init_183 : decode cX4_init 183 = .ok (.newarray .int, 2) := by decide +kernel
theorem dX4_init_185 : decode cX4_init 185 = .ok (.putfield 77, 3) := by decide +kernel
theorem dX4_init_188 : decode cX4_init 188 = .ok (.aload_n 0, 1) := by decide +kernel
theorem dX4_init_189 : decode cX4_init 189 = .ok (.getfield 50, 3) := by decide +kernel
theorem dX4_init_192 : decode cX4_init 192 = .ok (.iconst 0, 1) := by decide +kernel
theorem dX4_init_193 : decode cX4_init 193 = .ok (.iconst 5, 1) := by decide +kernel
theorem dX4_init_194 : decode cX4_init 194 = .ok (.iastore, 1) := by decide +kernel
theorem dX4_init_195 : decode cX4_init 195 = .ok (.aload_n 0, 1) := by decide +kernel
theorem dX4_init_196 : decode cX4_init 196 = .ok (.getfield 50, 3) := by decide +kernel
theorem dX4_init_199 : decode cX4_init 199 = .ok (.iconst 1, 1) := by decide +kernel
theorem dX4_init_200 : decode cX4_init 200 = .ok (.iconst 5, 1) := by decide +kernel
theorem dX4_init_201 : decode cX4_init 201 = .ok (.iastore, 1) := by decide +kernel
theorem dX4_init_202 : decode cX4_init 202 = .ok (.return_, 1) := by decide +kernel
theorem dX4_thrown_0 : decode cX4_thrown 0 = .ok (.aload_n 0, 1) := by decide +kernel
theorem dX4_thrown_1 : decode cX4_thrown 1 = .ok (.getfield 80, 3) := by decide +kernel
theorem dX4_thrown_4 : decode cX4_thrown 4 = .ok (.ireturn, 1) := by decide +kernel
theorem dX4_in_0 : decode cX4_in 0 = .ok (.iload_n 0, 1) := by decide +kernel
theorem dX4_in_1 : decode cX4_in 1 = .ok (.iload_n 1, 1) := by decide +kernel
theorem dX4_in_2 : decode cX4_in 2 = .ok (.if_icmp .lt 12, 3) := by decide +kernel
theorem dX4_in_5 : decode cX4_in 5 = .ok (.iload_n 0, 1) := by decide +kernel
theorem dX4_in_6 : decode cX4_in 6 = .ok (.iload_n 2, 1) := by decide +kernel
theorem dX4_in_7 : decode cX4_in 7 = .ok (.if_icmp .gt 7, 3) := by decide +kernel
theorem dX4_in_10 : decode cX4_in 10 = .ok (.iconst 1, 1) := by decide +kernel
theorem dX4_in_11 : decode cX4_in 11 = .ok (.goto 4, 3) := by decide +kernel
theorem dX4_in_14 : decode cX4_in 14 = .ok (.iconst 0, 1) := by decide +kernel
theorem dX4_in_15 : decode cX4_in 15 = .ok (.ireturn, 1) := by decide +kernel
theorem dX4_isFine_0 : decode cX4_isFine 0 = .ok (.aload_n 0, 1) := by decide +kernel
theorem dX4_isFine_1 : decode cX4_isFine 1 = .ok (.iload_n 1, 1) := by decide +kernel
theorem dX4_isFine_2 : decode cX4_isFine 2 = .ok (.putfield 80, 3) := by decide +kernel
theorem dX4_isFine_5 : decode cX4_isFine 5 = .ok (.iload_n 1, 1) := by decide +kernel
theorem dX4_isFine_6 : decode cX4_isFine 6 = .ok (.ifCond .ne 7, 3) := by decide +kernel
theorem dX4_isFine_9 : decode cX4_isFine 9 = .ok (.iconst 1, 1) := by decide +kernel
theorem dX4_isFine_10 : decode cX4_isFine 10 = .ok (.goto 4, 3) := by decide +kernel
theorem dX4_isFine_13 : decode cX4_isFine 13 = .ok (.iconst 0, 1) := by decide +kernel
theorem dX4_isFine_14 : decode cX4_isFine 14 = .ok (.ireturn, 1) := by decide +kernel
theorem dX4_has_0 : decode cX4_has 0 = .ok (.iload_n 0, 1) := by decide +kernel
theorem dX4_has_1 : decode cX4_has 1 = .ok (.iload_n 1, 1) := by decide +kernel
theorem dX4_has_2 : decode cX4_has 2 = .ok (.ishr, 1) := by decide +kernel
theorem dX4_has_3 : decode cX4_has 3 = .ok (.iconst 1, 1) := by decide +kernel
theorem dX4_has_4 : decode cX4_has 4 = .ok (.iand, 1) := by decide +kernel
theorem dX4_has_5 : decode cX4_has 5 = .ok (.iconst 1, 1) := by decide +kernel
theorem dX4_has_6 : decode cX4_has 6 = .ok (.if_icmp .ne 7, 3) := by decide +kernel
theorem dX4_has_9 : decode cX4_has 9 = .ok (.iconst 1, 1) := by decide +kernel
theorem dX4_has_10 : decode cX4_has 10 = .ok (.goto 4, 3) := by decide +kernel
theorem dX4_has_13 : decode cX4_has 13 = .ok (.iconst 0, 1) := by decide +kernel
theorem dX4_has_14 : decode cX4_has 14 = .ok (.ireturn, 1) := by decide +kernel
theorem dX4_isThere_0 : decode cX4_isThere 0 = .ok (.iload_n 1, 1) := by decide +kernel
theorem dX4_isThere_1 : decode cX4_isThere 1 = .ok (.iconst 0, 1) := by decide +kernel
theorem dX4_isThere_2 : decode cX4_isThere 2 = .ok (.aload_n 0, 1) := by decide +kernel
theorem dX4_isThere_3 : decode cX4_isThere 3 = .ok (.getfield 84, 3) := by decide +kernel
theorem dX4_isThere_6 : decode cX4_isThere 6 = .ok (.iconst 1, 1) := by decide +kernel
theorem dX4_isThere_7 : decode cX4_isThere 7 = .ok (.isub, 1) := by decide +kernel
theorem dX4_isThere_8 : decode cX4_isThere 8 = .ok (.invokestatic 87, 3) := by decide +kernel
theorem dX4_isThere_11 : decode cX4_isThere 11 = .ok (.ifCond .eq 16, 3) := by decide +kernel
theorem dX4_isThere_14 : decode cX4_isThere 14 = .ok (.aload_n 0, 1) := by decide +kernel
theorem dX4_isThere_15 : decode cX4_isThere 15 = .ok (.getfield 25, 3) := by decide +kernel
theorem dX4_isThere_18 : decode cX4_isThere 18 = .ok (.iload_n 1, 1) := by decide +kernel
theorem dX4_isThere_19 : decode cX4_isThere 19 = .ok (.iaload, 1) := by decide +kernel
theorem dX4_isThere_20 : decode cX4_isThere 20 = .ok (.ifCond .ne 7, 3) := by decide +kernel
theorem dX4_isThere_23 : decode cX4_isThere 23 = .ok (.iconst 1, 1) := by decide +kernel
theorem dX4_isThere_24 : decode cX4_isThere 24 = .ok (.goto 4, 3) := by decide +kernel
theorem dX4_isThere_27 : decode cX4_isThere 27 = .ok (.iconst 0, 1) := by decide +kernel
theorem dX4_isThere_28 : decode cX4_isThere 28 = .ok (.ireturn, 1) := by decide +kernel
theorem dX4_wasThere_0 : decode cX4_wasThere 0 = .ok (.aload_n 0, 1) := by decide +kernel
theorem dX4_wasThere_1 : decode cX4_wasThere 1 = .ok (.getfield 22, 3) := by decide +kernel
theorem dX4_wasThere_4 : decode cX4_wasThere 4 = .ok (.iload_n 1, 1) := by decide +kernel
theorem dX4_wasThere_5 : decode cX4_wasThere 5 = .ok (.iaload, 1) := by decide +kernel
theorem dX4_wasThere_6 : decode cX4_wasThere 6 = .ok (.iload_n 2, 1) := by decide +kernel
theorem dX4_wasThere_7 : decode cX4_wasThere 7 = .ok (.if_icmp .gt 26, 3) := by decide +kernel
theorem dX4_wasThere_10 : decode cX4_wasThere 10 = .ok (.aload_n 0, 1) := by decide +kernel
theorem dX4_wasThere_11 : decode cX4_wasThere 11 = .ok (.getfield 25, 3) := by decide +kernel
theorem dX4_wasThere_14 : decode cX4_wasThere 14 = .ok (.iload_n 1, 1) := by decide +kernel
theorem dX4_wasThere_15 : decode cX4_wasThere 15 = .ok (.iaload, 1) := by decide +kernel
theorem dX4_wasThere_16 : decode cX4_wasThere 16 = .ok (.ifCond .eq 13, 3) := by decide +kernel
theorem dX4_wasThere_19 : decode cX4_wasThere 19 = .ok (.aload_n 0, 1) := by decide +kernel
theorem dX4_wasThere_20 : decode cX4_wasThere 20 = .ok (.getfield 25, 3) := by decide +kernel
theorem dX4_wasThere_23 : decode cX4_wasThere 23 = .ok (.iload_n 1, 1) := by decide +kernel
theorem dX4_wasThere_24 : decode cX4_wasThere 24 = .ok (.iaload, 1) := by decide +kernel
theorem dX4_wasThere_25 : decode cX4_wasThere 25 = .ok (.iload_n 2, 1) := by decide +kernel
theorem dX4_wasThere_26 : decode cX4_wasThere 26 = .ok (.if_icmp .le 7, 3) := by decide +kernel
theorem dX4_wasThere_29 : decode cX4_wasThere 29 = .ok (.iconst 1, 1) := by decide +kernel
theorem dX4_wasThere_30 : decode cX4_wasThere 30 = .ok (.goto 4, 3) := by decide +kernel
theorem dX4_wasThere_33 : decode cX4_wasThere 33 = .ok (.iconst 0, 1) := by decide +kernel
theorem dX4_wasThere_34 : decode cX4_wasThere 34 = .ok (.ireturn, 1) := by decide +kernel
theorem dX4_notes_0 : decode cX4_notes 0 = .ok (.aload_n 0, 1) := by decide +kernel
theorem dX4_notes_1 : decode cX4_notes 1 = .ok (.getfield 28, 3) := by decide +kernel
theorem dX4_notes_4 : decode cX4_notes 4 = .ok (.aload_n 0, 1) := by decide +kernel
theorem dX4_notes_5 : decode cX4_notes 5 = .ok (.getfield 91, 3) := by decide +kernel
theorem dX4_notes_8 : decode cX4_notes 8 = .ok (.iload_n 1, 1) := by decide +kernel
theorem dX4_notes_9 : decode cX4_notes 9 = .ok (.iastore, 1) := by decide +kernel
theorem dX4_notes_10 : decode cX4_notes 10 = .ok (.aload_n 0, 1) := by decide +kernel
theorem dX4_notes_11 : decode cX4_notes 11 = .ok (.getfield 31, 3) := by decide +kernel
theorem dX4_notes_14 : decode cX4_notes 14 = .ok (.aload_n 0, 1) := by decide +kernel
theorem dX4_notes_15 : decode cX4_notes 15 = .ok (.getfield 91, 3) := by decide +kernel
theorem dX4_notes_18 : decode cX4_notes 18 = .ok (.iload_n 2, 1) := by decide +kernel
theorem dX4_notes_19 : decode cX4_notes 19 = .ok (.iastore, 1) := by decide +kernel
theorem dX4_notes_20 : decode cX4_notes 20 = .ok (.aload_n 0, 1) := by decide +kernel
theorem dX4_notes_21 : decode cX4_notes 21 = .ok (.getfield 34, 3) := by decide +kernel
theorem dX4_notes_24 : decode cX4_notes 24 = .ok (.aload_n 0, 1) := by decide +kernel
theorem dX4_notes_25 : decode cX4_notes 25 = .ok (.getfield 91, 3) := by decide +kernel
theorem dX4_notes_28 : decode cX4_notes 28 = .ok (.aload_n 0, 1) := by decide +kernel
theorem dX4_notes_29 : decode cX4_notes 29 = .ok (.getfield 13, 3) := by decide +kernel
theorem dX4_notes_32 : decode cX4_notes 32 = .ok (.iload_n 2, 1) := by decide +kernel
theorem dX4_notes_33 : decode cX4_notes 33 = .ok (.iaload, 1) := by decide +kernel
theorem dX4_notes_34 : decode cX4_notes 34 = .ok (.iastore, 1) := by decide +kernel
theorem dX4_notes_35 : decode cX4_notes 35 = .ok (.aload_n 0, 1) := by decide +kernel
theorem dX4_notes_36 : decode cX4_notes 36 = .ok (.getfield 37, 3) := by decide +kernel
theorem dX4_notes_39 : decode cX4_notes 39 = .ok (.aload_n 0, 1) := by decide +kernel
theorem dX4_notes_40 : decode cX4_notes 40 = .ok (.getfield 91, 3) := by decide +kernel
theorem dX4_notes_43 : decode cX4_notes 43 = .ok (.aload_n 0, 1) := by decide +kernel
theorem dX4_notes_44 : decode cX4_notes 44 = .ok (.getfield 16, 3) := by decide +kernel
theorem dX4_notes_47 : decode cX4_notes 47 = .ok (.iload_n 2, 1) := by decide +kernel
theorem dX4_notes_48 : decode cX4_notes 48 = .ok (.iaload, 1) := by decide +kernel
theorem dX4_notes_49 : decode cX4_notes 49 = .ok (.iastore, 1) := by decide +kernel
theorem dX4_notes_50 : decode cX4_notes 50 = .ok (.aload_n 0, 1) := by decide +kernel
theorem dX4_notes_51 : decode cX4_notes 51 = .ok (.getfield 40, 3) := by decide +kernel
theorem dX4_notes_54 : decode cX4_notes 54 = .ok (.aload_n 0, 1) := by decide +kernel
theorem dX4_notes_55 : decode cX4_notes 55 = .ok (.getfield 91, 3) := by decide +kernel
theorem dX4_notes_58 : decode cX4_notes 58 = .ok (.iload_n 3, 1) := by decide +kernel
theorem dX4_notes_59 : decode cX4_notes 59 = .ok (.iastore, 1) := by decide +kernel
theorem dX4_notes_60 : decode cX4_notes 60 = .ok (.aload_n 0, 1) := by decide +kernel
theorem dX4_notes_61 : decode cX4_notes 61 = .ok (.getfield 43, 3) := by decide +kernel
theorem dX4_notes_64 : decode cX4_notes 64 = .ok (.aload_n 0, 1) := by decide +kernel
theorem dX4_notes_65 : decode cX4_notes 65 = .ok (.getfield 91, 3) := by decide +kernel
theorem dX4_notes_68 : decode cX4_notes 68 = .ok (.iload 4, 2) := by decide +kernel
theorem dX4_notes_70 : decode cX4_notes 70 = .ok (.bastore, 1) := by decide +kernel
theorem dX4_notes_71 : decode cX4_notes 71 = .ok (.aload_n 0, 1) := by decide +kernel
theorem dX4_notes_72 : decode cX4_notes 72 = .ok (.dup, 1) := by decide +kernel
theorem dX4_notes_73 : decode cX4_notes 73 = .ok (.getfield 91, 3) := by decide +kernel
theorem dX4_notes_76 : decode cX4_notes 76 = .ok (.iconst 1, 1) := by decide +kernel
theorem dX4_notes_77 : decode cX4_notes 77 = .ok (.iadd, 1) := by decide +kernel
theorem dX4_notes_78 : decode cX4_notes 78 = .ok (.putfield 91, 3) := by decide +kernel
theorem dX4_notes_81 : decode cX4_notes 81 = .ok (.return_, 1) := by decide +kernel
theorem dX4_add_0 : decode cX4_add 0 = .ok (.aload_n 0, 1) := by decide +kernel
theorem dX4_add_1 : decode cX4_add 1 = .ok (.iload_n 1, 1) := by decide +kernel
theorem dX4_add_2 : decode cX4_add 2 = .ok (.iconst 0, 1) := by decide +kernel
theorem dX4_add_3 : decode cX4_add 3 = .ok (.sipush 9999, 3) := by decide +kernel
theorem dX4_add_6 : decode cX4_add 6 = .ok (.invokestatic 87, 3) := by decide +kernel
theorem dX4_add_9 : decode cX4_add 9 = .ok (.ifCond .eq 23, 3) := by decide +kernel
theorem dX4_add_12 : decode cX4_add 12 = .ok (.iload_n 2, 1) := by decide +kernel
theorem dX4_add_13 : decode cX4_add 13 = .ok (.iconst 1, 1) := by decide +kernel
theorem dX4_add_14 : decode cX4_add 14 = .ok (.bipush 63, 2) := by decide +kernel
theorem dX4_add_16 : decode cX4_add 16 = .ok (.invokestatic 87, 3) := by decide +kernel
theorem dX4_add_19 : decode cX4_add 19 = .ok (.ifCond .eq 13, 3) := by decide +kernel
theorem dX4_add_22 : decode cX4_add 22 = .ok (.iload_n 3, 1) := by decide +kernel
theorem dX4_add_23 : decode cX4_add 23 = .ok (.iconst 0, 1) := by decide +kernel
theorem dX4_add_24 : decode cX4_add 24 = .ok (.bipush 9, 2) := by decide +kernel
theorem dX4_add_26 : decode cX4_add 26 = .ok (.invokestatic 87, 3) := by decide +kernel
theorem dX4_add_29 : decode cX4_add 29 = .ok (.ifCond .ne 7, 3) := by decide +kernel
theorem dX4_add_32 : decode cX4_add 32 = .ok (.iconst 1, 1) := by decide +kernel
theorem dX4_add_33 : decode cX4_add 33 = .ok (.goto 17, 3) := by decide +kernel
theorem dX4_add_36 : decode cX4_add 36 = .ok (.aload_n 0, 1) := by decide +kernel
theorem dX4_add_37 : decode cX4_add 37 = .ok (.getfield 84, 3) := by decide +kernel
theorem dX4_add_40 : decode cX4_add 40 = .ok (.bipush 60, 2) := by decide +kernel
theorem dX4_add_42 : decode cX4_add 42 = .ok (.if_icmp .ne 7, 3) := by decide +kernel
theorem dX4_add_45 : decode cX4_add 45 = .ok (.iconst 2, 1) := by decide +kernel
theorem dX4_add_46 : decode cX4_add 46 = .ok (.goto 4, 3) := by decide +kernel
theorem dX4_add_49 : decode cX4_add 49 = .ok (.iconst 0, 1) := by decide +kernel
theorem dX4_add_50 : decode cX4_add 50 = .ok (.invokevirtual 94, 3) := by decide +kernel
theorem dX4_add_53 : decode cX4_add 53 = .ok (.ifCond .ne 5, 3) := by decide +kernel
theorem dX4_add_56 : decode cX4_add 56 = .ok (.iconst 0, 1) := by decide +kernel
theorem dX4_add_57 : decode cX4_add 57 = .ok (.ireturn, 1) := by decide +kernel
theorem dX4_add_58 : decode cX4_add 58 = .ok (.aload_n 0, 1) := by decide +kernel
theorem dX4_add_59 : decode cX4_add 59 = .ok (.iconst 0, 1) := by decide +kernel
theorem dX4_add_60 : decode cX4_add 60 = .ok (.aload_n 0, 1) := by decide +kernel
theorem dX4_add_61 : decode cX4_add 61 = .ok (.getfield 84, 3) := by decide +kernel
theorem dX4_add_64 : decode cX4_add 64 = .ok (.iconst (-1), 1) := by decide +kernel
theorem dX4_add_65 : decode cX4_add 65 = .ok (.iconst 0, 1) := by decide +kernel
theorem dX4_add_66 : decode cX4_add 66 = .ok (.invokevirtual 98, 3) := by decide +kernel
theorem dX4_add_69 : decode cX4_add 69 = .ok (.aload_n 0, 1) := by decide +kernel
theorem dX4_add_70 : decode cX4_add 70 = .ok (.getfield 7, 3) := by decide +kernel
theorem dX4_add_73 : decode cX4_add 73 = .ok (.aload_n 0, 1) := by decide +kernel
theorem dX4_add_74 : decode cX4_add 74 = .ok (.getfield 84, 3) := by decide +kernel
theorem dX4_add_77 : decode cX4_add 77 = .ok (.iload_n 1, 1) := by decide +kernel
theorem dX4_add_78 : decode cX4_add 78 = .ok (.iastore, 1) := by decide +kernel
theorem dX4_add_79 : decode cX4_add 79 = .ok (.aload_n 0, 1) := by decide +kernel
theorem dX4_add_80 : decode cX4_add 80 = .ok (.getfield 13, 3) := by decide +kernel
theorem dX4_add_83 : decode cX4_add 83 = .ok (.aload_n 0, 1) := by decide +kernel
theorem dX4_add_84 : decode cX4_add 84 = .ok (.getfield 84, 3) := by decide +kernel
theorem dX4_add_87 : decode cX4_add 87 = .ok (.iload_n 2, 1) := by decide +kernel
theorem dX4_add_88 : decode cX4_add 88 = .ok (.iastore, 1) := by decide +kernel
theorem dX4_add_89 : decode cX4_add 89 = .ok (.aload_n 0, 1) := by decide +kernel
theorem dX4_add_90 : decode cX4_add 90 = .ok (.getfield 19, 3) := by decide +kernel
theorem dX4_add_93 : decode cX4_add 93 = .ok (.aload_n 0, 1) := by decide +kernel
theorem dX4_add_94 : decode cX4_add 94 = .ok (.getfield 84, 3) := by decide +kernel
theorem dX4_add_97 : decode cX4_add 97 = .ok (.iload_n 3, 1) := by decide +kernel
theorem dX4_add_98 : decode cX4_add 98 = .ok (.iastore, 1) := by decide +kernel
theorem dX4_add_99 : decode cX4_add 99 = .ok (.aload_n 0, 1) := by decide +kernel
theorem dX4_add_100 : decode cX4_add 100 = .ok (.getfield 22, 3) := by decide +kernel
theorem dX4_add_103 : decode cX4_add 103 = .ok (.aload_n 0, 1) := by decide +kernel
theorem dX4_add_104 : decode cX4_add 104 = .ok (.getfield 84, 3) := by decide +kernel
theorem dX4_add_107 : decode cX4_add 107 = .ok (.aload_n 0, 1) := by decide +kernel
theorem dX4_add_108 : decode cX4_add 108 = .ok (.getfield 91, 3) := by decide +kernel
theorem dX4_add_111 : decode cX4_add 111 = .ok (.iastore, 1) := by decide +kernel
theorem dX4_add_112 : decode cX4_add 112 = .ok (.aload_n 0, 1) := by decide +kernel
theorem dX4_add_113 : decode cX4_add 113 = .ok (.dup, 1) := by decide +kernel
theorem dX4_add_114 : decode cX4_add 114 = .ok (.getfield 84, 3) := by decide +kernel
theorem dX4_add_117 : decode cX4_add 117 = .ok (.iconst 1, 1) := by decide +kernel
theorem dX4_add_118 : decode cX4_add 118 = .ok (.iadd, 1) := by decide +kernel
theorem dX4_add_119 : decode cX4_add 119 = .ok (.putfield 84, 3) := by decide +kernel
theorem dX4_add_122 : decode cX4_add 122 = .ok (.aload_n 0, 1) := by decide +kernel
theorem dX4_add_123 : decode cX4_add 123 = .ok (.getfield 84, 3) := by decide +kernel
theorem dX4_add_126 : decode cX4_add 126 = .ok (.iconst 1, 1) := by decide +kernel
theorem dX4_add_127 : decode cX4_add 127 = .ok (.isub, 1) := by decide +kernel
theorem dX4_add_128 : decode cX4_add 128 = .ok (.ireturn, 1) := by decide +kernel
theorem dX4_move_0 : decode cX4_move 0 = .ok (.aload_n 0, 1) := by decide +kernel
theorem dX4_move_1 : decode cX4_move 1 = .ok (.aload_n 0, 1) := by decide +kernel
theorem dX4_move_2 : decode cX4_move 2 = .ok (.iload_n 1, 1) := by decide +kernel
theorem dX4_move_3 : decode cX4_move 3 = .ok (.invokevirtual 102, 3) := by decide +kernel
theorem dX4_move_6 : decode cX4_move 6 = .ok (.ifCond .ne 7, 3) := by decide +kernel
theorem dX4_move_9 : decode cX4_move 9 = .ok (.iconst 1, 1) := by decide +kernel
theorem dX4_move_10 : decode cX4_move 10 = .ok (.goto 18, 3) := by decide +kernel
theorem dX4_move_13 : decode cX4_move 13 = .ok (.iload_n 2, 1) := by decide +kernel
theorem dX4_move_14 : decode cX4_move 14 = .ok (.iconst 1, 1) := by decide +kernel
theorem dX4_move_15 : decode cX4_move 15 = .ok (.bipush 63, 2) := by decide +kernel
theorem dX4_move_17 : decode cX4_move 17 = .ok (.invokestatic 87, 3) := by decide +kernel
theorem dX4_move_20 : decode cX4_move 20 = .ok (.ifCond .ne 7, 3) := by decide +kernel
theorem dX4_move_23 : decode cX4_move 23 = .ok (.iconst 2, 1) := by decide +kernel
theorem dX4_move_24 : decode cX4_move 24 = .ok (.goto 4, 3) := by decide +kernel
theorem dX4_move_27 : decode cX4_move 27 = .ok (.iconst 0, 1) := by decide +kernel
theorem dX4_move_28 : decode cX4_move 28 = .ok (.invokevirtual 94, 3) := by decide +kernel
theorem dX4_move_31 : decode cX4_move 31 = .ok (.ifCond .ne 5, 3) := by decide +kernel
theorem dX4_move_34 : decode cX4_move 34 = .ok (.iconst 0, 1) := by decide +kernel
theorem dX4_move_35 : decode cX4_move 35 = .ok (.ireturn, 1) := by decide +kernel
theorem dX4_move_36 : decode cX4_move 36 = .ok (.aload_n 0, 1) := by decide +kernel
theorem dX4_move_37 : decode cX4_move 37 = .ok (.getfield 13, 3) := by decide +kernel
theorem dX4_move_40 : decode cX4_move 40 = .ok (.iload_n 1, 1) := by decide +kernel
theorem dX4_move_41 : decode cX4_move 41 = .ok (.iaload, 1) := by decide +kernel
theorem dX4_move_42 : decode cX4_move 42 = .ok (.istore_n 3, 1) := by decide +kernel
theorem dX4_move_43 : decode cX4_move 43 = .ok (.iload_n 3, 1) := by decide +kernel
theorem dX4_move_44 : decode cX4_move 44 = .ok (.iload_n 2, 1) := by decide +kernel
theorem dX4_move_45 : decode cX4_move 45 = .ok (.if_icmp .eq 18, 3) := by decide +kernel
theorem dX4_move_48 : decode cX4_move 48 = .ok (.aload_n 0, 1) := by decide +kernel
theorem dX4_move_49 : decode cX4_move 49 = .ok (.iconst 1, 1) := by decide +kernel
theorem dX4_move_50 : decode cX4_move 50 = .ok (.iload_n 1, 1) := by decide +kernel
theorem dX4_move_51 : decode cX4_move 51 = .ok (.iconst (-1), 1) := by decide +kernel
theorem dX4_move_52 : decode cX4_move 52 = .ok (.iconst 0, 1) := by decide +kernel
theorem dX4_move_53 : decode cX4_move 53 = .ok (.invokevirtual 98, 3) := by decide +kernel
theorem dX4_move_56 : decode cX4_move 56 = .ok (.aload_n 0, 1) := by decide +kernel
theorem dX4_move_57 : decode cX4_move 57 = .ok (.getfield 13, 3) := by decide +kernel
theorem dX4_move_60 : decode cX4_move 60 = .ok (.iload_n 1, 1) := by decide +kernel
theorem dX4_move_61 : decode cX4_move 61 = .ok (.iload_n 2, 1) := by decide +kernel
theorem dX4_move_62 : decode cX4_move 62 = .ok (.iastore, 1) := by decide +kernel
theorem dX4_move_63 : decode cX4_move 63 = .ok (.iload_n 3, 1) := by decide +kernel
theorem dX4_move_64 : decode cX4_move 64 = .ok (.ireturn, 1) := by decide +kernel
theorem dX4_flags_0 : decode cX4_flags 0 = .ok (.aload_n 0, 1) := by decide +kernel
theorem dX4_flags_1 : decode cX4_flags 1 = .ok (.getfield 16, 3) := by decide +kernel
theorem dX4_flags_4 : decode cX4_flags 4 = .ok (.iload_n 1, 1) := by decide +kernel
theorem dX4_flags_5 : decode cX4_flags 5 = .ok (.iaload, 1) := by decide +kernel
theorem dX4_flags_6 : decode cX4_flags 6 = .ok (.iload_n 2, 1) := by decide +kernel
theorem dX4_flags_7 : decode cX4_flags 7 = .ok (.invokestatic 105, 3) := by decide +kernel
theorem dX4_flags_10 : decode cX4_flags 10 = .ok (.iload_n 3, 1) := by decide +kernel
theorem dX4_flags_11 : decode cX4_flags 11 = .ok (.if_icmp .ne 5, 3) := by decide +kernel
theorem dX4_flags_14 : decode cX4_flags 14 = .ok (.iconst 0, 1) := by decide +kernel
theorem dX4_flags_15 : decode cX4_flags 15 = .ok (.ireturn, 1) := by decide +kernel
theorem dX4_flags_16 : decode cX4_flags 16 = .ok (.aload_n 0, 1) := by decide +kernel
theorem dX4_flags_17 : decode cX4_flags 17 = .ok (.iconst 2, 1) := by decide +kernel
theorem dX4_flags_18 : decode cX4_flags 18 = .ok (.iload_n 1, 1) := by decide +kernel
theorem dX4_flags_19 : decode cX4_flags 19 = .ok (.iload_n 2, 1) := by decide +kernel
theorem dX4_flags_20 : decode cX4_flags 20 = .ok (.iload_n 3, 1) := by decide +kernel
theorem dX4_flags_21 : decode cX4_flags 21 = .ok (.invokevirtual 98, 3) := by decide +kernel
theorem dX4_flags_24 : decode cX4_flags 24 = .ok (.aload_n 0, 1) := by decide +kernel
theorem dX4_flags_25 : decode cX4_flags 25 = .ok (.getfield 16, 3) := by decide +kernel
theorem dX4_flags_28 : decode cX4_flags 28 = .ok (.iload_n 1, 1) := by decide +kernel
theorem dX4_flags_29 : decode cX4_flags 29 = .ok (.dup2, 1) := by decide +kernel
theorem dX4_flags_30 : decode cX4_flags 30 = .ok (.iaload, 1) := by decide +kernel
theorem dX4_flags_31 : decode cX4_flags 31 = .ok (.iconst 1, 1) := by decide +kernel
theorem dX4_flags_32 : decode cX4_flags 32 = .ok (.iload_n 2, 1) := by decide +kernel
theorem dX4_flags_33 : decode cX4_flags 33 = .ok (.ishl, 1) := by decide +kernel
theorem dX4_flags_34 : decode cX4_flags 34 = .ok (.ixor, 1) := by decide +kernel
theorem dX4_flags_35 : decode cX4_flags 35 = .ok (.iastore, 1) := by decide +kernel
theorem dX4_flags_36 : decode cX4_flags 36 = .ok (.iconst 1, 1) := by decide +kernel
theorem dX4_flags_37 : decode cX4_flags 37 = .ok (.ireturn, 1) := by decide +kernel
theorem dX4_flag_0 : decode cX4_flag 0 = .ok (.aload_n 0, 1) := by decide +kernel
theorem dX4_flag_1 : decode cX4_flag 1 = .ok (.aload_n 0, 1) := by decide +kernel
theorem dX4_flag_2 : decode cX4_flag 2 = .ok (.iload_n 1, 1) := by decide +kernel
theorem dX4_flag_3 : decode cX4_flag 3 = .ok (.invokevirtual 102, 3) := by decide +kernel
theorem dX4_flag_6 : decode cX4_flag 6 = .ok (.ifCond .ne 7, 3) := by decide +kernel
theorem dX4_flag_9 : decode cX4_flag 9 = .ok (.iconst 1, 1) := by decide +kernel
theorem dX4_flag_10 : decode cX4_flag 10 = .ok (.goto 17, 3) := by decide +kernel
theorem dX4_flag_13 : decode cX4_flag 13 = .ok (.iload_n 2, 1) := by decide +kernel
theorem dX4_flag_14 : decode cX4_flag 14 = .ok (.iconst 0, 1) := by decide +kernel
theorem dX4_flag_15 : decode cX4_flag 15 = .ok (.iconst 3, 1) := by decide +kernel
theorem dX4_flag_16 : decode cX4_flag 16 = .ok (.invokestatic 87, 3) := by decide +kernel
theorem dX4_flag_19 : decode cX4_flag 19 = .ok (.ifCond .ne 7, 3) := by decide +kernel
theorem dX4_flag_22 : decode cX4_flag 22 = .ok (.iconst 2, 1) := by decide +kernel
theorem dX4_flag_23 : decode cX4_flag 23 = .ok (.goto 4, 3) := by decide +kernel
theorem dX4_flag_26 : decode cX4_flag 26 = .ok (.iconst 0, 1) := by decide +kernel
theorem dX4_flag_27 : decode cX4_flag 27 = .ok (.invokevirtual 94, 3) := by decide +kernel
theorem dX4_flag_30 : decode cX4_flag 30 = .ok (.ifCond .eq 17, 3) := by decide +kernel
theorem dX4_flag_33 : decode cX4_flag 33 = .ok (.aload_n 0, 1) := by decide +kernel
theorem dX4_flag_34 : decode cX4_flag 34 = .ok (.iload_n 1, 1) := by decide +kernel
theorem dX4_flag_35 : decode cX4_flag 35 = .ok (.iload_n 2, 1) := by decide +kernel
theorem dX4_flag_36 : decode cX4_flag 36 = .ok (.iload_n 3, 1) := by decide +kernel
theorem dX4_flag_37 : decode cX4_flag 37 = .ok (.invokevirtual 109, 3) := by decide +kernel
theorem dX4_flag_40 : decode cX4_flag 40 = .ok (.ifCond .eq 7, 3) := by decide +kernel
theorem dX4_flag_43 : decode cX4_flag 43 = .ok (.iconst 1, 1) := by decide +kernel
theorem dX4_flag_44 : decode cX4_flag 44 = .ok (.goto 4, 3) := by decide +kernel
theorem dX4_flag_47 : decode cX4_flag 47 = .ok (.iconst 0, 1) := by decide +kernel
theorem dX4_flag_48 : decode cX4_flag 48 = .ok (.ireturn, 1) := by decide +kernel
theorem dX4_flagIf_0 : decode cX4_flagIf 0 = .ok (.aload_n 0, 1) := by decide +kernel
theorem dX4_flagIf_1 : decode cX4_flagIf 1 = .ok (.iload_n 1, 1) := by decide +kernel
theorem dX4_flagIf_2 : decode cX4_flagIf 2 = .ok (.invokevirtual 102, 3) := by decide +kernel
theorem dX4_flagIf_5 : decode cX4_flagIf 5 = .ok (.ifCond .ne 7, 3) := by decide +kernel
theorem dX4_flagIf_8 : decode cX4_flagIf 8 = .ok (.iconst 1, 1) := by decide +kernel
theorem dX4_flagIf_9 : decode cX4_flagIf 9 = .ok (.goto 30, 3) := by decide +kernel
theorem dX4_flagIf_12 : decode cX4_flagIf 12 = .ok (.iload_n 2, 1) := by decide +kernel
theorem dX4_flagIf_13 : decode cX4_flagIf 13 = .ok (.iconst 0, 1) := by decide +kernel
theorem dX4_flagIf_14 : decode cX4_flagIf 14 = .ok (.iconst 3, 1) := by decide +kernel
theorem dX4_flagIf_15 : decode cX4_flagIf 15 = .ok (.invokestatic 87, 3) := by decide +kernel
theorem dX4_flagIf_18 : decode cX4_flagIf 18 = .ok (.ifCond .ne 7, 3) := by decide +kernel
theorem dX4_flagIf_21 : decode cX4_flagIf 21 = .ok (.iconst 2, 1) := by decide +kernel
theorem dX4_flagIf_22 : decode cX4_flagIf 22 = .ok (.goto 17, 3) := by decide +kernel
theorem dX4_flagIf_25 : decode cX4_flagIf 25 = .ok (.iload 4, 2) := by decide +kernel
theorem dX4_flagIf_27 : decode cX4_flagIf 27 = .ok (.aload_n 0, 1) := by decide +kernel
theorem dX4_flagIf_28 : decode cX4_flagIf 28 = .ok (.getfield 91, 3) := by decide +kernel
theorem dX4_flagIf_31 : decode cX4_flagIf 31 = .ok (.if_icmp .eq 7, 3) := by decide +kernel
theorem dX4_flagIf_34 : decode cX4_flagIf 34 = .ok (.iconst 3, 1) := by decide +kernel
theorem dX4_flagIf_35 : decode cX4_flagIf 35 = .ok (.goto 4, 3) := by decide +kernel
theorem dX4_flagIf_38 : decode cX4_flagIf 38 = .ok (.iconst 0, 1) := by decide +kernel
theorem dX4_flagIf_39 : decode cX4_flagIf 39 = .ok (.istore 5, 2) := by decide +kernel
theorem dX4_flagIf_41 : decode cX4_flagIf 41 = .ok (.aload_n 0, 1) := by decide +kernel
theorem dX4_flagIf_42 : decode cX4_flagIf 42 = .ok (.iload 5, 2) := by decide +kernel
theorem dX4_flagIf_44 : decode cX4_flagIf 44 = .ok (.invokevirtual 94, 3) := by decide +kernel
theorem dX4_flagIf_47 : decode cX4_flagIf 47 = .ok (.ifCond .eq 17, 3) := by decide +kernel
theorem dX4_flagIf_50 : decode cX4_flagIf 50 = .ok (.aload_n 0, 1) := by decide +kernel
theorem dX4_flagIf_51 : decode cX4_flagIf 51 = .ok (.iload_n 1, 1) := by decide +kernel
theorem dX4_flagIf_52 : decode cX4_flagIf 52 = .ok (.iload_n 2, 1) := by decide +kernel
theorem dX4_flagIf_53 : decode cX4_flagIf 53 = .ok (.iload_n 3, 1) := by decide +kernel
theorem dX4_flagIf_54 : decode cX4_flagIf 54 = .ok (.invokevirtual 109, 3) := by decide +kernel
theorem dX4_flagIf_57 : decode cX4_flagIf 57 = .ok (.ifCond .eq 7, 3) := by decide +kernel
theorem dX4_flagIf_60 : decode cX4_flagIf 60 = .ok (.iconst 1, 1) := by decide +kernel
theorem dX4_flagIf_61 : decode cX4_flagIf 61 = .ok (.goto 4, 3) := by decide +kernel
theorem dX4_flagIf_64 : decode cX4_flagIf 64 = .ok (.iconst 0, 1) := by decide +kernel
theorem dX4_flagIf_65 : decode cX4_flagIf 65 = .ok (.ireturn, 1) := by decide +kernel
theorem dX4_destroy_0 : decode cX4_destroy 0 = .ok (.aload_n 0, 1) := by decide +kernel
theorem dX4_destroy_1 : decode cX4_destroy 1 = .ok (.aload_n 0, 1) := by decide +kernel
theorem dX4_destroy_2 : decode cX4_destroy 2 = .ok (.iload_n 1, 1) := by decide +kernel
theorem dX4_destroy_3 : decode cX4_destroy 3 = .ok (.invokevirtual 102, 3) := by decide +kernel
theorem dX4_destroy_6 : decode cX4_destroy 6 = .ok (.ifCond .eq 7, 3) := by decide +kernel
theorem dX4_destroy_9 : decode cX4_destroy 9 = .ok (.iconst 0, 1) := by decide +kernel
theorem dX4_destroy_10 : decode cX4_destroy 10 = .ok (.goto 4, 3) := by decide +kernel
theorem dX4_destroy_13 : decode cX4_destroy 13 = .ok (.iconst 1, 1) := by decide +kernel
theorem dX4_destroy_14 : decode cX4_destroy 14 = .ok (.invokevirtual 94, 3) := by decide +kernel
theorem dX4_destroy_17 : decode cX4_destroy 17 = .ok (.ifCond .ne 5, 3) := by decide +kernel
theorem dX4_destroy_20 : decode cX4_destroy 20 = .ok (.iconst 0, 1) := by decide +kernel
theorem dX4_destroy_21 : decode cX4_destroy 21 = .ok (.ireturn, 1) := by decide +kernel
theorem dX4_destroy_22 : decode cX4_destroy 22 = .ok (.aload_n 0, 1) := by decide +kernel
theorem dX4_destroy_23 : decode cX4_destroy 23 = .ok (.iconst 3, 1) := by decide +kernel
theorem dX4_destroy_24 : decode cX4_destroy 24 = .ok (.iload_n 1, 1) := by decide +kernel
theorem dX4_destroy_25 : decode cX4_destroy 25 = .ok (.iconst (-1), 1) := by decide +kernel
theorem dX4_destroy_26 : decode cX4_destroy 26 = .ok (.iconst 0, 1) := by decide +kernel
theorem dX4_destroy_27 : decode cX4_destroy 27 = .ok (.invokevirtual 98, 3) := by decide +kernel
theorem dX4_destroy_30 : decode cX4_destroy 30 = .ok (.aload_n 0, 1) := by decide +kernel
theorem dX4_destroy_31 : decode cX4_destroy 31 = .ok (.getfield 25, 3) := by decide +kernel
theorem dX4_destroy_34 : decode cX4_destroy 34 = .ok (.iload_n 1, 1) := by decide +kernel
theorem dX4_destroy_35 : decode cX4_destroy 35 = .ok (.aload_n 0, 1) := by decide +kernel
theorem dX4_destroy_36 : decode cX4_destroy 36 = .ok (.getfield 91, 3) := by decide +kernel
theorem dX4_destroy_39 : decode cX4_destroy 39 = .ok (.iastore, 1) := by decide +kernel
theorem dX4_destroy_40 : decode cX4_destroy 40 = .ok (.aload_n 0, 1) := by decide +kernel
theorem dX4_destroy_41 : decode cX4_destroy 41 = .ok (.getfield 91, 3) := by decide +kernel
theorem dX4_destroy_44 : decode cX4_destroy 44 = .ok (.ireturn, 1) := by decide +kernel
theorem dX4_state_0 : decode cX4_state 0 = .ok (.aload_n 0, 1) := by decide +kernel
theorem dX4_state_1 : decode cX4_state 1 = .ok (.iconst 0, 1) := by decide +kernel
theorem dX4_state_2 : decode cX4_state 2 = .ok (.putfield 80, 3) := by decide +kernel
theorem dX4_state_5 : decode cX4_state 5 = .ok (.aload_n 0, 1) := by decide +kernel
theorem dX4_state_6 : decode cX4_state 6 = .ok (.getfield 91, 3) := by decide +kernel
theorem dX4_state_9 : decode cX4_state 9 = .ok (.ireturn, 1) := by decide +kernel
theorem dX4_mails_0 : decode cX4_mails 0 = .ok (.aload_n 0, 1) := by decide +kernel
theorem dX4_mails_1 : decode cX4_mails 1 = .ok (.iconst 0, 1) := by decide +kernel
theorem dX4_mails_2 : decode cX4_mails 2 = .ok (.putfield 80, 3) := by decide +kernel
theorem dX4_mails_5 : decode cX4_mails 5 = .ok (.iconst 0, 1) := by decide +kernel
theorem dX4_mails_6 : decode cX4_mails 6 = .ok (.istore_n 1, 1) := by decide +kernel
theorem dX4_mails_7 : decode cX4_mails 7 = .ok (.iconst 0, 1) := by decide +kernel
theorem dX4_mails_8 : decode cX4_mails 8 = .ok (.istore_n 2, 1) := by decide +kernel
theorem dX4_mails_9 : decode cX4_mails 9 = .ok (.iload_n 2, 1) := by decide +kernel
theorem dX4_mails_10 : decode cX4_mails 10 = .ok (.aload_n 0, 1) := by decide +kernel
theorem dX4_mails_11 : decode cX4_mails 11 = .ok (.getfield 84, 3) := by decide +kernel
theorem dX4_mails_14 : decode cX4_mails 14 = .ok (.if_icmp .ge 26, 3) := by decide +kernel
theorem dX4_mails_17 : decode cX4_mails 17 = .ok (.iload_n 1, 1) := by decide +kernel
theorem dX4_mails_18 : decode cX4_mails 18 = .ok (.aload_n 0, 1) := by decide +kernel
theorem dX4_mails_19 : decode cX4_mails 19 = .ok (.getfield 25, 3) := by decide +kernel
theorem dX4_mails_22 : decode cX4_mails 22 = .ok (.iload_n 2, 1) := by decide +kernel
theorem dX4_mails_23 : decode cX4_mails 23 = .ok (.iaload, 1) := by decide +kernel
theorem dX4_mails_24 : decode cX4_mails 24 = .ok (.ifCond .ne 7, 3) := by decide +kernel
theorem dX4_mails_27 : decode cX4_mails 27 = .ok (.iconst 1, 1) := by decide +kernel
theorem dX4_mails_28 : decode cX4_mails 28 = .ok (.goto 4, 3) := by decide +kernel
theorem dX4_mails_31 : decode cX4_mails 31 = .ok (.iconst 0, 1) := by decide +kernel
theorem dX4_mails_32 : decode cX4_mails 32 = .ok (.iadd, 1) := by decide +kernel
theorem dX4_mails_33 : decode cX4_mails 33 = .ok (.istore_n 1, 1) := by decide +kernel
theorem dX4_mails_34 : decode cX4_mails 34 = .ok (.iinc 2 1, 3) := by decide +kernel
theorem dX4_mails_37 : decode cX4_mails 37 = .ok (.goto (-28), 3) := by decide +kernel
theorem dX4_mails_40 : decode cX4_mails 40 = .ok (.iload_n 1, 1) := by decide +kernel
theorem dX4_mails_41 : decode cX4_mails 41 = .ok (.ireturn, 1) := by decide +kernel
theorem dX4_keywords_0 : decode cX4_keywords 0 = .ok (.aload_n 0, 1) := by decide +kernel
theorem dX4_keywords_1 : decode cX4_keywords 1 = .ok (.aload_n 0, 1) := by decide +kernel
theorem dX4_keywords_2 : decode cX4_keywords 2 = .ok (.iload_n 1, 1) := by decide +kernel
theorem dX4_keywords_3 : decode cX4_keywords 3 = .ok (.invokevirtual 102, 3) := by decide +kernel
theorem dX4_keywords_6 : decode cX4_keywords 6 = .ok (.ifCond .eq 7, 3) := by decide +kernel
theorem dX4_keywords_9 : decode cX4_keywords 9 = .ok (.iconst 0, 1) := by decide +kernel
theorem dX4_keywords_10 : decode cX4_keywords 10 = .ok (.goto 4, 3) := by decide +kernel
theorem dX4_keywords_13 : decode cX4_keywords 13 = .ok (.iconst 1, 1) := by decide +kernel
theorem dX4_keywords_14 : decode cX4_keywords 14 = .ok (.invokevirtual 94, 3) := by decide +kernel
theorem dX4_keywords_17 : decode cX4_keywords 17 = .ok (.ifCond .eq 12, 3) := by decide +kernel
theorem dX4_keywords_20 : decode cX4_keywords 20 = .ok (.aload_n 0, 1) := by decide +kernel
theorem dX4_keywords_21 : decode cX4_keywords 21 = .ok (.getfield 16, 3) := by decide +kernel
theorem dX4_keywords_24 : decode cX4_keywords 24 = .ok (.iload_n 1, 1) := by decide +kernel
theorem dX4_keywords_25 : decode cX4_keywords 25 = .ok (.iaload, 1) := by decide +kernel
theorem dX4_keywords_26 : decode cX4_keywords 26 = .ok (.goto 4, 3) := by decide +kernel
theorem dX4_keywords_29 : decode cX4_keywords 29 = .ok (.iconst 0, 1) := by decide +kernel
theorem dX4_keywords_30 : decode cX4_keywords 30 = .ok (.ireturn, 1) := by decide +kernel
theorem dX4_inThread_0 : decode cX4_inThread 0 = .ok (.iconst 0, 1) := by decide +kernel
theorem dX4_inThread_1 : decode cX4_inThread 1 = .ok (.istore_n 2, 1) := by decide +kernel
theorem dX4_inThread_2 : decode cX4_inThread 2 = .ok (.aload_n 0, 1) := by decide +kernel
theorem dX4_inThread_3 : decode cX4_inThread 3 = .ok (.iload_n 1, 1) := by decide +kernel
theorem dX4_inThread_4 : decode cX4_inThread 4 = .ok (.iconst 0, 1) := by decide +kernel
theorem dX4_inThread_5 : decode cX4_inThread 5 = .ok (.bipush 9, 2) := by decide +kernel
theorem dX4_inThread_7 : decode cX4_inThread 7 = .ok (.invokestatic 87, 3) := by decide +kernel
theorem dX4_inThread_10 : decode cX4_inThread 10 = .ok (.ifCond .eq 7, 3) := by decide +kernel
theorem dX4_inThread_13 : decode cX4_inThread 13 = .ok (.iconst 0, 1) := by decide +kernel
theorem dX4_inThread_14 : decode cX4_inThread 14 = .ok (.goto 4, 3) := by decide +kernel
theorem dX4_inThread_17 : decode cX4_inThread 17 = .ok (.iconst 1, 1) := by decide +kernel
theorem dX4_inThread_18 : decode cX4_inThread 18 = .ok (.invokevirtual 94, 3) := by decide +kernel
theorem dX4_inThread_21 : decode cX4_inThread 21 = .ok (.ifCond .eq 46, 3) := by decide +kernel
theorem dX4_inThread_24 : decode cX4_inThread 24 = .ok (.iconst 0, 1) := by decide +kernel
theorem dX4_inThread_25 : decode cX4_inThread 25 = .ok (.istore_n 3, 1) := by decide +kernel
theorem dX4_inThread_26 : decode cX4_inThread 26 = .ok (.iload_n 3, 1) := by decide +kernel
theorem dX4_inThread_27 : decode cX4_inThread 27 = .ok (.aload_n 0, 1) := by decide +kernel
theorem dX4_inThread_28 : decode cX4_inThread 28 = .ok (.getfield 84, 3) := by decide +kernel
theorem dX4_inThread_31 : decode cX4_inThread 31 = .ok (.if_icmp .ge 36, 3) := by decide +kernel
theorem dX4_inThread_34 : decode cX4_inThread 34 = .ok (.iload_n 2, 1) := by decide +kernel
theorem dX4_inThread_35 : decode cX4_inThread 35 = .ok (.aload_n 0, 1) := by decide +kernel
theorem dX4_inThread_36 : decode cX4_inThread 36 = .ok (.getfield 25, 3) := by decide +kernel
theorem dX4_inThread_39 : decode cX4_inThread 39 = .ok (.iload_n 3, 1) := by decide +kernel
theorem dX4_inThread_40 : decode cX4_inThread 40 = .ok (.iaload, 1) := by decide +kernel
theorem dX4_inThread_41 : decode cX4_inThread 41 = .ok (.ifCond .ne 17, 3) := by decide +kernel
theorem dX4_inThread_44 : decode cX4_inThread 44 = .ok (.aload_n 0, 1) := by decide +kernel
theorem dX4_inThread_45 : decode cX4_inThread 45 = .ok (.getfield 19, 3) := by decide +kernel
theorem dX4_inThread_48 : decode cX4_inThread 48 = .ok (.iload_n 3, 1) := by decide +kernel
theorem dX4_inThread_49 : decode cX4_inThread 49 = .ok (.iaload, 1) := by decide +kernel
theorem dX4_inThread_50 : decode cX4_inThread 50 = .ok (.iload_n 1, 1) := by decide +kernel
theorem dX4_inThread_51 : decode cX4_inThread 51 = .ok (.if_icmp .ne 7, 3) := by decide +kernel
theorem dX4_inThread_54 : decode cX4_inThread 54 = .ok (.iconst 1, 1) := by decide +kernel
theorem dX4_inThread_55 : decode cX4_inThread 55 = .ok (.goto 4, 3) := by decide +kernel
theorem dX4_inThread_58 : decode cX4_inThread 58 = .ok (.iconst 0, 1) := by decide +kernel
theorem dX4_inThread_59 : decode cX4_inThread 59 = .ok (.iadd, 1) := by decide +kernel
theorem dX4_inThread_60 : decode cX4_inThread 60 = .ok (.istore_n 2, 1) := by decide +kernel
theorem dX4_inThread_61 : decode cX4_inThread 61 = .ok (.iinc 3 1, 3) := by decide +kernel
theorem dX4_inThread_64 : decode cX4_inThread 64 = .ok (.goto (-38), 3) := by decide +kernel
theorem dX4_inThread_67 : decode cX4_inThread 67 = .ok (.iload_n 2, 1) := by decide +kernel
theorem dX4_inThread_68 : decode cX4_inThread 68 = .ok (.ireturn, 1) := by decide +kernel
theorem dX4_isFound_0 : decode cX4_isFound 0 = .ok (.aload_n 0, 1) := by decide +kernel
theorem dX4_isFound_1 : decode cX4_isFound 1 = .ok (.getfield 25, 3) := by decide +kernel
theorem dX4_isFound_4 : decode cX4_isFound 4 = .ok (.iload_n 1, 1) := by decide +kernel
theorem dX4_isFound_5 : decode cX4_isFound 5 = .ok (.iaload, 1) := by decide +kernel
theorem dX4_isFound_6 : decode cX4_isFound 6 = .ok (.ifCond .ne 38, 3) := by decide +kernel
theorem dX4_isFound_9 : decode cX4_isFound 9 = .ok (.aload_n 0, 1) := by decide +kernel
theorem dX4_isFound_10 : decode cX4_isFound 10 = .ok (.getfield 13, 3) := by decide +kernel
theorem dX4_isFound_13 : decode cX4_isFound 13 = .ok (.iload_n 1, 1) := by decide +kernel
theorem dX4_isFound_14 : decode cX4_isFound 14 = .ok (.iaload, 1) := by decide +kernel
theorem dX4_isFound_15 : decode cX4_isFound 15 = .ok (.iload_n 2, 1) := by decide +kernel
theorem dX4_isFound_16 : decode cX4_isFound 16 = .ok (.invokestatic 105, 3) := by decide +kernel
theorem dX4_isFound_19 : decode cX4_isFound 19 = .ok (.ifCond .eq 25, 3) := by decide +kernel
theorem dX4_isFound_22 : decode cX4_isFound 22 = .ok (.iload_n 3, 1) := by decide +kernel
theorem dX4_isFound_23 : decode cX4_isFound 23 = .ok (.iconst (-1), 1) := by decide +kernel
theorem dX4_isFound_24 : decode cX4_isFound 24 = .ok (.if_icmp .eq 16, 3) := by decide +kernel
theorem dX4_isFound_27 : decode cX4_isFound 27 = .ok (.aload_n 0, 1) := by decide +kernel
theorem dX4_isFound_28 : decode cX4_isFound 28 = .ok (.getfield 16, 3) := by decide +kernel
theorem dX4_isFound_31 : decode cX4_isFound 31 = .ok (.iload_n 1, 1) := by decide +kernel
theorem dX4_isFound_32 : decode cX4_isFound 32 = .ok (.iaload, 1) := by decide +kernel
theorem dX4_isFound_33 : decode cX4_isFound 33 = .ok (.iload_n 3, 1) := by decide +kernel
theorem dX4_isFound_34 : decode cX4_isFound 34 = .ok (.invokestatic 105, 3) := by decide +kernel
theorem dX4_isFound_37 : decode cX4_isFound 37 = .ok (.ifCond .eq 7, 3) := by decide +kernel
theorem dX4_isFound_40 : decode cX4_isFound 40 = .ok (.iconst 1, 1) := by decide +kernel
theorem dX4_isFound_41 : decode cX4_isFound 41 = .ok (.goto 4, 3) := by decide +kernel
theorem dX4_isFound_44 : decode cX4_isFound 44 = .ok (.iconst 0, 1) := by decide +kernel
theorem dX4_isFound_45 : decode cX4_isFound 45 = .ok (.ireturn, 1) := by decide +kernel
theorem dX4_count_0 : decode cX4_count 0 = .ok (.iconst 0, 1) := by decide +kernel
theorem dX4_count_1 : decode cX4_count 1 = .ok (.istore_n 3, 1) := by decide +kernel
theorem dX4_count_2 : decode cX4_count 2 = .ok (.iconst 0, 1) := by decide +kernel
theorem dX4_count_3 : decode cX4_count 3 = .ok (.istore 4, 2) := by decide +kernel
theorem dX4_count_5 : decode cX4_count 5 = .ok (.iload 4, 2) := by decide +kernel
theorem dX4_count_7 : decode cX4_count 7 = .ok (.aload_n 0, 1) := by decide +kernel
theorem dX4_count_8 : decode cX4_count 8 = .ok (.getfield 84, 3) := by decide +kernel
theorem dX4_count_11 : decode cX4_count 11 = .ok (.if_icmp .ge 28, 3) := by decide +kernel
theorem dX4_count_14 : decode cX4_count 14 = .ok (.iload_n 3, 1) := by decide +kernel
theorem dX4_count_15 : decode cX4_count 15 = .ok (.aload_n 0, 1) := by decide +kernel
theorem dX4_count_16 : decode cX4_count 16 = .ok (.iload 4, 2) := by decide +kernel
theorem dX4_count_18 : decode cX4_count 18 = .ok (.iload_n 1, 1) := by decide +kernel
theorem dX4_count_19 : decode cX4_count 19 = .ok (.iload_n 2, 1) := by decide +kernel
theorem dX4_count_20 : decode cX4_count 20 = .ok (.invokevirtual 112, 3) := by decide +kernel
theorem dX4_count_23 : decode cX4_count 23 = .ok (.ifCond .eq 7, 3) := by decide +kernel
theorem dX4_count_26 : decode cX4_count 26 = .ok (.iconst 1, 1) := by decide +kernel
theorem dX4_count_27 : decode cX4_count 27 = .ok (.goto 4, 3) := by decide +kernel
theorem dX4_count_30 : decode cX4_count 30 = .ok (.iconst 0, 1) := by decide +kernel
theorem dX4_count_31 : decode cX4_count 31 = .ok (.iadd, 1) := by decide +kernel
theorem dX4_count_32 : decode cX4_count 32 = .ok (.istore_n 3, 1) := by decide +kernel
theorem dX4_count_33 : decode cX4_count 33 = .ok (.iinc 4 1, 3) := by decide +kernel
theorem dX4_count_36 : decode cX4_count 36 = .ok (.goto (-31), 3) := by decide +kernel
theorem dX4_count_39 : decode cX4_count 39 = .ok (.iload_n 3, 1) := by decide +kernel
theorem dX4_count_40 : decode cX4_count 40 = .ok (.ireturn, 1) := by decide +kernel
theorem dX4_share_0 : decode cX4_share 0 = .ok (.aload_n 0, 1) := by decide +kernel
theorem dX4_share_1 : decode cX4_share 1 = .ok (.iload_n 1, 1) := by decide +kernel
theorem dX4_share_2 : decode cX4_share 2 = .ok (.iconst 0, 1) := by decide +kernel
theorem dX4_share_3 : decode cX4_share 3 = .ok (.iconst 5, 1) := by decide +kernel
theorem dX4_share_4 : decode cX4_share 4 = .ok (.invokestatic 87, 3) := by decide +kernel
theorem dX4_share_7 : decode cX4_share 7 = .ok (.ifCond .eq 16, 3) := by decide +kernel
theorem dX4_share_10 : decode cX4_share 10 = .ok (.iload_n 2, 1) := by decide +kernel
theorem dX4_share_11 : decode cX4_share 11 = .ok (.iconst 0, 1) := by decide +kernel
theorem dX4_share_12 : decode cX4_share 12 = .ok (.iconst 3, 1) := by decide +kernel
theorem dX4_share_13 : decode cX4_share 13 = .ok (.invokestatic 87, 3) := by decide +kernel
theorem dX4_share_16 : decode cX4_share 16 = .ok (.ifCond .eq 7, 3) := by decide +kernel
theorem dX4_share_19 : decode cX4_share 19 = .ok (.iconst 0, 1) := by decide +kernel
theorem dX4_share_20 : decode cX4_share 20 = .ok (.goto 4, 3) := by decide +kernel
theorem dX4_share_23 : decode cX4_share 23 = .ok (.iconst 1, 1) := by decide +kernel
theorem dX4_share_24 : decode cX4_share 24 = .ok (.invokevirtual 94, 3) := by decide +kernel
theorem dX4_share_27 : decode cX4_share 27 = .ok (.ifCond .ne 5, 3) := by decide +kernel
theorem dX4_share_30 : decode cX4_share 30 = .ok (.fconst 0, 1) := by decide +kernel
theorem dX4_share_31 : decode cX4_share 31 = .ok (.freturn, 1) := by decide +kernel
theorem dX4_share_32 : decode cX4_share 32 = .ok (.aload_n 0, 1) := by decide +kernel
theorem dX4_share_33 : decode cX4_share 33 = .ok (.iload_n 1, 1) := by decide +kernel
theorem dX4_share_34 : decode cX4_share 34 = .ok (.iconst (-1), 1) := by decide +kernel
theorem dX4_share_35 : decode cX4_share 35 = .ok (.invokevirtual 115, 3) := by decide +kernel
theorem dX4_share_38 : decode cX4_share 38 = .ok (.istore_n 3, 1) := by decide +kernel
theorem dX4_share_39 : decode cX4_share 39 = .ok (.iload_n 3, 1) := by decide +kernel
theorem dX4_share_40 : decode cX4_share 40 = .ok (.ifCond .ne 7, 3) := by decide +kernel
theorem dX4_share_43 : decode cX4_share 43 = .ok (.fconst 0, 1) := by decide +kernel
theorem dX4_share_44 : decode cX4_share 44 = .ok (.goto 13, 3) := by decide +kernel
theorem dX4_share_47 : decode cX4_share 47 = .ok (.aload_n 0, 1) := by decide +kernel
theorem dX4_share_48 : decode cX4_share 48 = .ok (.iload_n 1, 1) := by decide +kernel
theorem dX4_share_49 : decode cX4_share 49 = .ok (.iload_n 2, 1) := by decide +kernel
theorem dX4_share_50 : decode cX4_share 50 = .ok (.invokevirtual 115, 3) := by decide +kernel
theorem dX4_share_53 : decode cX4_share 53 = .ok (.i2f, 1) := by decide +kernel
theorem dX4_share_54 : decode cX4_share 54 = .ok (.iload_n 3, 1) := by decide +kernel
theorem dX4_share_55 : decode cX4_share 55 = .ok (.i2f, 1) := by decide +kernel
theorem dX4_share_56 : decode cX4_share 56 = .ok (.fdiv, 1) := by decide +kernel
theorem dX4_share_57 : decode cX4_share 57 = .ok (.freturn, 1) := by decide +kernel
theorem dX4_isState_0 : decode cX4_isState 0 = .ok (.iload_n 1, 1) := by decide +kernel
theorem dX4_isState_1 : decode cX4_isState 1 = .ok (.iconst 0, 1) := by decide +kernel
theorem dX4_isState_2 : decode cX4_isState 2 = .ok (.aload_n 0, 1) := by decide +kernel
theorem dX4_isState_3 : decode cX4_isState 3 = .ok (.getfield 91, 3) := by decide +kernel
theorem dX4_isState_6 : decode cX4_isState 6 = .ok (.invokestatic 87, 3) := by decide +kernel
theorem dX4_isState_9 : decode cX4_isState 9 = .ok (.ireturn, 1) := by decide +kernel
theorem dX4_tells_0 : decode cX4_tells 0 = .ok (.aload_n 0, 1) := by decide +kernel
theorem dX4_tells_1 : decode cX4_tells 1 = .ok (.getfield 91, 3) := by decide +kernel
theorem dX4_tells_4 : decode cX4_tells 4 = .ok (.iload_n 1, 1) := by decide +kernel
theorem dX4_tells_5 : decode cX4_tells 5 = .ok (.isub, 1) := by decide +kernel
theorem dX4_tells_6 : decode cX4_tells 6 = .ok (.bipush 40, 2) := by decide +kernel
theorem dX4_tells_8 : decode cX4_tells 8 = .ok (.if_icmp .gt 7, 3) := by decide +kernel
theorem dX4_tells_11 : decode cX4_tells 11 = .ok (.iconst 1, 1) := by decide +kernel
theorem dX4_tells_12 : decode cX4_tells 12 = .ok (.goto 4, 3) := by decide +kernel
theorem dX4_tells_15 : decode cX4_tells 15 = .ok (.iconst 0, 1) := by decide +kernel
theorem dX4_tells_16 : decode cX4_tells 16 = .ok (.ireturn, 1) := by decide +kernel
theorem dX4_canTell_0 : decode cX4_canTell 0 = .ok (.aload_n 0, 1) := by decide +kernel
theorem dX4_canTell_1 : decode cX4_canTell 1 = .ok (.aload_n 0, 1) := by decide +kernel
theorem dX4_canTell_2 : decode cX4_canTell 2 = .ok (.iload_n 1, 1) := by decide +kernel
theorem dX4_canTell_3 : decode cX4_canTell 3 = .ok (.invokevirtual 119, 3) := by decide +kernel
theorem dX4_canTell_6 : decode cX4_canTell 6 = .ok (.ifCond .eq 7, 3) := by decide +kernel
theorem dX4_canTell_9 : decode cX4_canTell 9 = .ok (.iconst 0, 1) := by decide +kernel
theorem dX4_canTell_10 : decode cX4_canTell 10 = .ok (.goto 4, 3) := by decide +kernel
theorem dX4_canTell_13 : decode cX4_canTell 13 = .ok (.iconst 1, 1) := by decide +kernel
theorem dX4_canTell_14 : decode cX4_canTell 14 = .ok (.invokevirtual 94, 3) := by decide +kernel
theorem dX4_canTell_17 : decode cX4_canTell 17 = .ok (.ifCond .eq 15, 3) := by decide +kernel
theorem dX4_canTell_20 : decode cX4_canTell 20 = .ok (.aload_n 0, 1) := by decide +kernel
theorem dX4_canTell_21 : decode cX4_canTell 21 = .ok (.iload_n 1, 1) := by decide +kernel
theorem dX4_canTell_22 : decode cX4_canTell 22 = .ok (.invokevirtual 122, 3) := by decide +kernel
theorem dX4_canTell_25 : decode cX4_canTell 25 = .ok (.ifCond .eq 7, 3) := by decide +kernel
theorem dX4_canTell_28 : decode cX4_canTell 28 = .ok (.iconst 1, 1) := by decide +kernel
theorem dX4_canTell_29 : decode cX4_canTell 29 = .ok (.goto 4, 3) := by decide +kernel
theorem dX4_canTell_32 : decode cX4_canTell 32 = .ok (.iconst 0, 1) := by decide +kernel
theorem dX4_canTell_33 : decode cX4_canTell 33 = .ok (.ireturn, 1) := by decide +kernel
theorem dX4_isChanged_0 : decode cX4_isChanged 0 = .ok (.iconst 0, 1) := by decide +kernel
theorem dX4_isChanged_1 : decode cX4_isChanged 1 = .ok (.istore_n 3, 1) := by decide +kernel
theorem dX4_isChanged_2 : decode cX4_isChanged 2 = .ok (.iload_n 2, 1) := by decide +kernel
theorem dX4_isChanged_3 : decode cX4_isChanged 3 = .ok (.istore 4, 2) := by decide +kernel
theorem dX4_isChanged_5 : decode cX4_isChanged 5 = .ok (.iload 4, 2) := by decide +kernel
theorem dX4_isChanged_7 : decode cX4_isChanged 7 = .ok (.aload_n 0, 1) := by decide +kernel
theorem dX4_isChanged_8 : decode cX4_isChanged 8 = .ok (.getfield 91, 3) := by decide +kernel
theorem dX4_isChanged_11 : decode cX4_isChanged 11 = .ok (.if_icmp .ge 30, 3) := by decide +kernel
theorem dX4_isChanged_14 : decode cX4_isChanged 14 = .ok (.iload_n 3, 1) := by decide +kernel
theorem dX4_isChanged_15 : decode cX4_isChanged 15 = .ok (.ifCond .ne 14, 3) := by decide +kernel
theorem dX4_isChanged_18 : decode cX4_isChanged 18 = .ok (.aload_n 0, 1) := by decide +kernel
theorem dX4_isChanged_19 : decode cX4_isChanged 19 = .ok (.getfield 31, 3) := by decide +kernel
theorem dX4_isChanged_22 : decode cX4_isChanged 22 = .ok (.iload 4, 2) := by decide +kernel
theorem dX4_isChanged_24 : decode cX4_isChanged 24 = .ok (.iaload, 1) := by decide +kernel
theorem dX4_isChanged_25 : decode cX4_isChanged 25 = .ok (.iload_n 1, 1) := by decide +kernel
theorem dX4_isChanged_26 : decode cX4_isChanged 26 = .ok (.if_icmp .ne 7, 3) := by decide +kernel
theorem dX4_isChanged_29 : decode cX4_isChanged 29 = .ok (.iconst 1, 1) := by decide +kernel
theorem dX4_isChanged_30 : decode cX4_isChanged 30 = .ok (.goto 4, 3) := by decide +kernel
theorem dX4_isChanged_33 : decode cX4_isChanged 33 = .ok (.iconst 0, 1) := by decide +kernel
theorem dX4_isChanged_34 : decode cX4_isChanged 34 = .ok (.istore_n 3, 1) := by decide +kernel
theorem dX4_isChanged_35 : decode cX4_isChanged 35 = .ok (.iinc 4 1, 3) := by decide +kernel
theorem dX4_isChanged_38 : decode cX4_isChanged 38 = .ok (.goto (-33), 3) := by decide +kernel
theorem dX4_isChanged_41 : decode cX4_isChanged 41 = .ok (.iload_n 3, 1) := by decide +kernel
theorem dX4_isChanged_42 : decode cX4_isChanged 42 = .ok (.ireturn, 1) := by decide +kernel
theorem dX4_changedSo_0 : decode cX4_changedSo 0 = .ok (.aload_n 0, 1) := by decide +kernel
theorem dX4_changedSo_1 : decode cX4_changedSo 1 = .ok (.iload_n 1, 1) := by decide +kernel
theorem dX4_changedSo_2 : decode cX4_changedSo 2 = .ok (.iload_n 2, 1) := by decide +kernel
theorem dX4_changedSo_3 : decode cX4_changedSo 3 = .ok (.invokevirtual 125, 3) := by decide +kernel
theorem dX4_changedSo_6 : decode cX4_changedSo 6 = .ok (.istore 4, 2) := by decide +kernel
theorem dX4_changedSo_8 : decode cX4_changedSo 8 = .ok (.aload_n 0, 1) := by decide +kernel
theorem dX4_changedSo_9 : decode cX4_changedSo 9 = .ok (.getfield 25, 3) := by decide +kernel
theorem dX4_changedSo_12 : decode cX4_changedSo 12 = .ok (.iload_n 1, 1) := by decide +kernel
theorem dX4_changedSo_13 : decode cX4_changedSo 13 = .ok (.iaload, 1) := by decide +kernel
theorem dX4_changedSo_14 : decode cX4_changedSo 14 = .ok (.ifCond .ne 7, 3) := by decide +kernel
theorem dX4_changedSo_17 : decode cX4_changedSo 17 = .ok (.iconst 1, 1) := by decide +kernel
theorem dX4_changedSo_18 : decode cX4_changedSo 18 = .ok (.goto 4, 3) := by decide +kernel
theorem dX4_changedSo_21 : decode cX4_changedSo 21 = .ok (.iconst 0, 1) := by decide +kernel
theorem dX4_changedSo_22 : decode cX4_changedSo 22 = .ok (.istore 5, 2) := by decide +kernel
theorem dX4_changedSo_24 : decode cX4_changedSo 24 = .ok (.iload_n 3, 1) := by decide +kernel
theorem dX4_changedSo_25 : decode cX4_changedSo 25 = .ok (.ifCond .ne 21, 3) := by decide +kernel
theorem dX4_changedSo_28 : decode cX4_changedSo 28 = .ok (.iload 5, 2) := by decide +kernel
theorem dX4_changedSo_30 : decode cX4_changedSo 30 = .ok (.ifCond .eq 12, 3) := by decide +kernel
theorem dX4_changedSo_33 : decode cX4_changedSo 33 = .ok (.iload 4, 2) := by decide +kernel
theorem dX4_changedSo_35 : decode cX4_changedSo 35 = .ok (.ifCond .ne 7, 3) := by decide +kernel
theorem dX4_changedSo_38 : decode cX4_changedSo 38 = .ok (.iconst 1, 1) := by decide +kernel
theorem dX4_changedSo_39 : decode cX4_changedSo 39 = .ok (.goto 54, 3) := by decide +kernel
theorem dX4_changedSo_42 : decode cX4_changedSo 42 = .ok (.iconst 0, 1) := by decide +kernel
theorem dX4_changedSo_43 : decode cX4_changedSo 43 = .ok (.goto 50, 3) := by decide +kernel
theorem dX4_changedSo_46 : decode cX4_changedSo 46 = .ok (.iload_n 3, 1) := by decide +kernel
theorem dX4_changedSo_47 : decode cX4_changedSo 47 = .ok (.iconst 2, 1) := by decide +kernel
theorem dX4_changedSo_48 : decode cX4_changedSo 48 = .ok (.if_icmp .ne 21, 3) := by decide +kernel
theorem dX4_changedSo_51 : decode cX4_changedSo 51 = .ok (.iload 4, 2) := by decide +kernel
theorem dX4_changedSo_53 : decode cX4_changedSo 53 = .ok (.ifCond .eq 12, 3) := by decide +kernel
theorem dX4_changedSo_56 : decode cX4_changedSo 56 = .ok (.iload 5, 2) := by decide +kernel
theorem dX4_changedSo_58 : decode cX4_changedSo 58 = .ok (.ifCond .ne 7, 3) := by decide +kernel
theorem dX4_changedSo_61 : decode cX4_changedSo 61 = .ok (.iconst 1, 1) := by decide +kernel
theorem dX4_changedSo_62 : decode cX4_changedSo 62 = .ok (.goto 31, 3) := by decide +kernel
theorem dX4_changedSo_65 : decode cX4_changedSo 65 = .ok (.iconst 0, 1) := by decide +kernel
theorem dX4_changedSo_66 : decode cX4_changedSo 66 = .ok (.goto 27, 3) := by decide +kernel
theorem dX4_changedSo_69 : decode cX4_changedSo 69 = .ok (.iload 4, 2) := by decide +kernel
theorem dX4_changedSo_71 : decode cX4_changedSo 71 = .ok (.ifCond .eq 21, 3) := by decide +kernel
theorem dX4_changedSo_74 : decode cX4_changedSo 74 = .ok (.iload 5, 2) := by decide +kernel
theorem dX4_changedSo_76 : decode cX4_changedSo 76 = .ok (.ifCond .eq 16, 3) := by decide +kernel
theorem dX4_changedSo_79 : decode cX4_changedSo 79 = .ok (.aload_n 0, 1) := by decide +kernel
theorem dX4_changedSo_80 : decode cX4_changedSo 80 = .ok (.iload_n 1, 1) := by decide +kernel
theorem dX4_changedSo_81 : decode cX4_changedSo 81 = .ok (.iload_n 2, 1) := by decide +kernel
theorem dX4_changedSo_82 : decode cX4_changedSo 82 = .ok (.invokevirtual 128, 3) := by decide +kernel
theorem dX4_changedSo_85 : decode cX4_changedSo 85 = .ok (.ifCond .eq 7, 3) := by decide +kernel
theorem dX4_changedSo_88 : decode cX4_changedSo 88 = .ok (.iconst 1, 1) := by decide +kernel
theorem dX4_changedSo_89 : decode cX4_changedSo 89 = .ok (.goto 4, 3) := by decide +kernel
theorem dX4_changedSo_92 : decode cX4_changedSo 92 = .ok (.iconst 0, 1) := by decide +kernel
theorem dX4_changedSo_93 : decode cX4_changedSo 93 = .ok (.ireturn, 1) := by decide +kernel
theorem dX4_placeOf_0 : decode cX4_placeOf 0 = .ok (.aload_n 0, 1) := by decide +kernel
theorem dX4_placeOf_1 : decode cX4_placeOf 1 = .ok (.iload_n 1, 1) := by decide +kernel
theorem dX4_placeOf_2 : decode cX4_placeOf 2 = .ok (.invokevirtual 119, 3) := by decide +kernel
theorem dX4_placeOf_5 : decode cX4_placeOf 5 = .ok (.ifCond .eq 12, 3) := by decide +kernel
theorem dX4_placeOf_8 : decode cX4_placeOf 8 = .ok (.iload_n 2, 1) := by decide +kernel
theorem dX4_placeOf_9 : decode cX4_placeOf 9 = .ok (.iconst 0, 1) := by decide +kernel
theorem dX4_placeOf_10 : decode cX4_placeOf 10 = .ok (.iconst 2, 1) := by decide +kernel
theorem dX4_placeOf_11 : decode cX4_placeOf 11 = .ok (.invokestatic 87, 3) := by decide +kernel
theorem dX4_placeOf_14 : decode cX4_placeOf 14 = .ok (.ifCond .ne 7, 3) := by decide +kernel
theorem dX4_placeOf_17 : decode cX4_placeOf 17 = .ok (.iconst 1, 1) := by decide +kernel
theorem dX4_placeOf_18 : decode cX4_placeOf 18 = .ok (.goto 16, 3) := by decide +kernel
theorem dX4_placeOf_21 : decode cX4_placeOf 21 = .ok (.aload_n 0, 1) := by decide +kernel
theorem dX4_placeOf_22 : decode cX4_placeOf 22 = .ok (.iload_n 1, 1) := by decide +kernel
theorem dX4_placeOf_23 : decode cX4_placeOf 23 = .ok (.invokevirtual 122, 3) := by decide +kernel
theorem dX4_placeOf_26 : decode cX4_placeOf 26 = .ok (.ifCond .ne 7, 3) := by decide +kernel
theorem dX4_placeOf_29 : decode cX4_placeOf 29 = .ok (.iconst 2, 1) := by decide +kernel
theorem dX4_placeOf_30 : decode cX4_placeOf 30 = .ok (.goto 4, 3) := by decide +kernel
theorem dX4_placeOf_33 : decode cX4_placeOf 33 = .ok (.iconst 0, 1) := by decide +kernel
theorem dX4_placeOf_34 : decode cX4_placeOf 34 = .ok (.ireturn, 1) := by decide +kernel
theorem dX4_countChanged_0 : decode cX4_countChanged 0 = .ok (.iconst 0, 1) := by decide +kernel
theorem dX4_countChanged_1 : decode cX4_countChanged 1 = .ok (.istore_n 3, 1) := by decide +kernel
theorem dX4_countChanged_2 : decode cX4_countChanged 2 = .ok (.iconst 0, 1) := by decide +kernel
theorem dX4_countChanged_3 : decode cX4_countChanged 3 = .ok (.istore 4, 2) := by decide +kernel
theorem dX4_countChanged_5 : decode cX4_countChanged 5 = .ok (.iload 4, 2) := by decide +kernel
theorem dX4_countChanged_7 : decode cX4_countChanged 7 = .ok (.aload_n 0, 1) := by decide +kernel
theorem dX4_countChanged_8 : decode cX4_countChanged 8 = .ok (.getfield 84, 3) := by decide +kernel
theorem dX4_countChanged_11 : decode cX4_countChanged 11 = .ok (.if_icmp .ge 28, 3) := by decide +kernel
theorem dX4_countChanged_14 : decode cX4_countChanged 14 = .ok (.iload_n 3, 1) := by decide +kernel
theorem dX4_countChanged_15 : decode cX4_countChanged 15 = .ok (.aload_n 0, 1) := by decide +kernel
theorem dX4_countChanged_16 : decode cX4_countChanged 16 = .ok (.iload 4, 2) := by decide +kernel
theorem dX4_countChanged_18 : decode cX4_countChanged 18 = .ok (.iload_n 1, 1) := by decide +kernel
theorem dX4_countChanged_19 : decode cX4_countChanged 19 = .ok (.iload_n 2, 1) := by decide +kernel
theorem dX4_countChanged_20 : decode cX4_countChanged 20 = .ok (.invokevirtual 131, 3) := by decide +kernel
theorem dX4_countChanged_23 : decode cX4_countChanged 23 = .ok (.ifCond .eq 7, 3) := by decide +kernel
theorem dX4_countChanged_26 : decode cX4_countChanged 26 = .ok (.iconst 1, 1) := by decide +kernel
theorem dX4_countChanged_27 : decode cX4_countChanged 27 = .ok (.goto 4, 3) := by decide +kernel
theorem dX4_countChanged_30 : decode cX4_countChanged 30 = .ok (.iconst 0, 1) := by decide +kernel
theorem dX4_countChanged_31 : decode cX4_countChanged 31 = .ok (.iadd, 1) := by decide +kernel
theorem dX4_countChanged_32 : decode cX4_countChanged 32 = .ok (.istore_n 3, 1) := by decide +kernel
theorem dX4_countChanged_33 : decode cX4_countChanged 33 = .ok (.iinc 4 1, 3) := by decide +kernel
theorem dX4_countChanged_36 : decode cX4_countChanged 36 = .ok (.goto (-31), 3) := by decide +kernel
theorem dX4_countChanged_39 : decode cX4_countChanged 39 = .ok (.iload_n 3, 1) := by decide +kernel
theorem dX4_countChanged_40 : decode cX4_countChanged 40 = .ok (.ireturn, 1) := by decide +kernel
theorem dX4_changed_0 : decode cX4_changed 0 = .ok (.aload_n 0, 1) := by decide +kernel
theorem dX4_changed_1 : decode cX4_changed 1 = .ok (.aload_n 0, 1) := by decide +kernel
theorem dX4_changed_2 : decode cX4_changed 2 = .ok (.iload_n 1, 1) := by decide +kernel
theorem dX4_changed_3 : decode cX4_changed 3 = .ok (.iload_n 2, 1) := by decide +kernel
theorem dX4_changed_4 : decode cX4_changed 4 = .ok (.invokevirtual 134, 3) := by decide +kernel
theorem dX4_changed_7 : decode cX4_changed 7 = .ok (.invokevirtual 94, 3) := by decide +kernel
theorem dX4_changed_10 : decode cX4_changed 10 = .ok (.ifCond .eq 12, 3) := by decide +kernel
theorem dX4_changed_13 : decode cX4_changed 13 = .ok (.aload_n 0, 1) := by decide +kernel
theorem dX4_changed_14 : decode cX4_changed 14 = .ok (.iload_n 1, 1) := by decide +kernel
theorem dX4_changed_15 : decode cX4_changed 15 = .ok (.iload_n 2, 1) := by decide +kernel
theorem dX4_changed_16 : decode cX4_changed 16 = .ok (.invokevirtual 137, 3) := by decide +kernel
theorem dX4_changed_19 : decode cX4_changed 19 = .ok (.goto 4, 3) := by decide +kernel
theorem dX4_changed_22 : decode cX4_changed 22 = .ok (.iconst 0, 1) := by decide +kernel
theorem dX4_changed_23 : decode cX4_changed 23 = .ok (.ireturn, 1) := by decide +kernel
theorem dX4_changedAt_0 : decode cX4_changedAt 0 = .ok (.aload_n 0, 1) := by decide +kernel
theorem dX4_changedAt_1 : decode cX4_changedAt 1 = .ok (.iload_n 1, 1) := by decide +kernel
theorem dX4_changedAt_2 : decode cX4_changedAt 2 = .ok (.iload_n 2, 1) := by decide +kernel
theorem dX4_changedAt_3 : decode cX4_changedAt 3 = .ok (.invokevirtual 134, 3) := by decide +kernel
theorem dX4_changedAt_6 : decode cX4_changedAt 6 = .ok (.istore 4, 2) := by decide +kernel
theorem dX4_changedAt_8 : decode cX4_changedAt 8 = .ok (.aload_n 0, 1) := by decide +kernel
theorem dX4_changedAt_9 : decode cX4_changedAt 9 = .ok (.iload 4, 2) := by decide +kernel
theorem dX4_changedAt_11 : decode cX4_changedAt 11 = .ok (.ifCond .ne 23, 3) := by decide +kernel
theorem dX4_changedAt_14 : decode cX4_changedAt 14 = .ok (.iload_n 3, 1) := by decide +kernel
theorem dX4_changedAt_15 : decode cX4_changedAt 15 = .ok (.iconst 0, 1) := by decide +kernel
theorem dX4_changedAt_16 : decode cX4_changedAt 16 = .ok (.aload_n 0, 1) := by decide +kernel
theorem dX4_changedAt_17 : decode cX4_changedAt 17 = .ok (.iload_n 1, 1) := by decide +kernel
theorem dX4_changedAt_18 : decode cX4_changedAt 18 = .ok (.iload_n 2, 1) := by decide +kernel
theorem dX4_changedAt_19 : decode cX4_changedAt 19 = .ok (.invokevirtual 137, 3) := by decide +kernel
theorem dX4_changedAt_22 : decode cX4_changedAt 22 = .ok (.iconst 1, 1) := by decide +kernel
theorem dX4_changedAt_23 : decode cX4_changedAt 23 = .ok (.isub, 1) := by decide +kernel
theorem dX4_changedAt_24 : decode cX4_changedAt 24 = .ok (.invokestatic 87, 3) := by decide +kernel
theorem dX4_changedAt_27 : decode cX4_changedAt 27 = .ok (.ifCond .ne 7, 3) := by decide +kernel
theorem dX4_changedAt_30 : decode cX4_changedAt 30 = .ok (.iconst 3, 1) := by decide +kernel
theorem dX4_changedAt_31 : decode cX4_changedAt 31 = .ok (.goto 5, 3) := by decide +kernel
theorem dX4_changedAt_34 : decode cX4_changedAt 34 = .ok (.iload 4, 2) := by decide +kernel
theorem dX4_changedAt_36 : decode cX4_changedAt 36 = .ok (.invokevirtual 94, 3) := by decide +kernel
theorem dX4_changedAt_39 : decode cX4_changedAt 39 = .ok (.ifCond .ne 5, 3) := by decide +kernel
theorem dX4_changedAt_42 : decode cX4_changedAt 42 = .ok (.iconst 0, 1) := by decide +kernel
theorem dX4_changedAt_43 : decode cX4_changedAt 43 = .ok (.ireturn, 1) := by decide +kernel
theorem dX4_changedAt_44 : decode cX4_changedAt 44 = .ok (.iload_n 3, 1) := by decide +kernel
theorem dX4_changedAt_45 : decode cX4_changedAt 45 = .ok (.istore 5, 2) := by decide +kernel
theorem dX4_changedAt_47 : decode cX4_changedAt 47 = .ok (.iconst 0, 1) := by decide +kernel
theorem dX4_changedAt_48 : decode cX4_changedAt 48 = .ok (.istore 6, 2) := by decide +kernel
theorem dX4_changedAt_50 : decode cX4_changedAt 50 = .ok (.iload 5, 2) := by decide +kernel
theorem dX4_changedAt_52 : decode cX4_changedAt 52 = .ok (.ifCond .gt 14, 3) := by decide +kernel
theorem dX4_changedAt_55 : decode cX4_changedAt 55 = .ok (.aload_n 0, 1) := by decide +kernel
theorem dX4_changedAt_56 : decode cX4_changedAt 56 = .ok (.iload 6, 2) := by decide +kernel
theorem dX4_changedAt_58 : decode cX4_changedAt 58 = .ok (.iload_n 1, 1) := by decide +kernel
theorem dX4_changedAt_59 : decode cX4_changedAt 59 = .ok (.iload_n 2, 1) := by decide +kernel
theorem dX4_changedAt_60 : decode cX4_changedAt 60 = .ok (.invokevirtual 131, 3) := by decide +kernel
theorem dX4_changedAt_63 : decode cX4_changedAt 63 = .ok (.ifCond .ne 30, 3) := by decide +kernel
theorem dX4_changedAt_66 : decode cX4_changedAt 66 = .ok (.iload 5, 2) := by decide +kernel
theorem dX4_changedAt_68 : decode cX4_changedAt 68 = .ok (.aload_n 0, 1) := by decide +kernel
theorem dX4_changedAt_69 : decode cX4_changedAt 69 = .ok (.iload 6, 2) := by decide +kernel
theorem dX4_changedAt_71 : decode cX4_changedAt 71 = .ok (.iload_n 1, 1) := by decide +kernel
theorem dX4_changedAt_72 : decode cX4_changedAt 72 = .ok (.iload_n 2, 1) := by decide +kernel
theorem dX4_changedAt_73 : decode cX4_changedAt 73 = .ok (.invokevirtual 131, 3) := by decide +kernel
theorem dX4_changedAt_76 : decode cX4_changedAt 76 = .ok (.ifCond .eq 7, 3) := by decide +kernel
theorem dX4_changedAt_79 : decode cX4_changedAt 79 = .ok (.iconst 1, 1) := by decide +kernel
theorem dX4_changedAt_80 : decode cX4_changedAt 80 = .ok (.goto 4, 3) := by decide +kernel
theorem dX4_changedAt_83 : decode cX4_changedAt 83 = .ok (.iconst 0, 1) := by decide +kernel
theorem dX4_changedAt_84 : decode cX4_changedAt 84 = .ok (.isub, 1) := by decide +kernel
theorem dX4_changedAt_85 : decode cX4_changedAt 85 = .ok (.istore 5, 2) := by decide +kernel
theorem dX4_changedAt_87 : decode cX4_changedAt 87 = .ok (.iinc 6 1, 3) := by decide +kernel
theorem dX4_changedAt_90 : decode cX4_changedAt 90 = .ok (.goto (-40), 3) := by decide +kernel
theorem dX4_changedAt_93 : decode cX4_changedAt 93 = .ok (.iload 6, 2) := by decide +kernel
theorem dX4_changedAt_95 : decode cX4_changedAt 95 = .ok (.ireturn, 1) := by decide +kernel
theorem dX4_page_0 : decode cX4_page 0 = .ok (.aload_n 0, 1) := by decide +kernel
theorem dX4_page_1 : decode cX4_page 1 = .ok (.aload_n 0, 1) := by decide +kernel
theorem dX4_page_2 : decode cX4_page 2 = .ok (.iload_n 1, 1) := by decide +kernel
theorem dX4_page_3 : decode cX4_page 3 = .ok (.invokevirtual 119, 3) := by decide +kernel
theorem dX4_page_6 : decode cX4_page 6 = .ok (.ifCond .eq 13, 3) := by decide +kernel
theorem dX4_page_9 : decode cX4_page 9 = .ok (.iload_n 2, 1) := by decide +kernel
theorem dX4_page_10 : decode cX4_page 10 = .ok (.iconst 1, 1) := by decide +kernel
theorem dX4_page_11 : decode cX4_page 11 = .ok (.bipush 20, 2) := by decide +kernel
theorem dX4_page_13 : decode cX4_page 13 = .ok (.invokestatic 87, 3) := by decide +kernel
theorem dX4_page_16 : decode cX4_page 16 = .ok (.ifCond .ne 7, 3) := by decide +kernel
theorem dX4_page_19 : decode cX4_page 19 = .ok (.iconst 1, 1) := by decide +kernel
theorem dX4_page_20 : decode cX4_page 20 = .ok (.goto 16, 3) := by decide +kernel
theorem dX4_page_23 : decode cX4_page 23 = .ok (.aload_n 0, 1) := by decide +kernel
theorem dX4_page_24 : decode cX4_page 24 = .ok (.iload_n 1, 1) := by decide +kernel
theorem dX4_page_25 : decode cX4_page 25 = .ok (.invokevirtual 122, 3) := by decide +kernel
theorem dX4_page_28 : decode cX4_page 28 = .ok (.ifCond .ne 7, 3) := by decide +kernel
theorem dX4_page_31 : decode cX4_page 31 = .ok (.iconst 2, 1) := by decide +kernel
theorem dX4_page_32 : decode cX4_page 32 = .ok (.goto 4, 3) := by decide +kernel
theorem dX4_page_35 : decode cX4_page 35 = .ok (.iconst 0, 1) := by decide +kernel
theorem dX4_page_36 : decode cX4_page 36 = .ok (.invokevirtual 94, 3) := by decide +kernel
theorem dX4_page_39 : decode cX4_page 39 = .ok (.ifCond .ne 5, 3) := by decide +kernel
theorem dX4_page_42 : decode cX4_page 42 = .ok (.iconst 0, 1) := by decide +kernel
theorem dX4_page_43 : decode cX4_page 43 = .ok (.ireturn, 1) := by decide +kernel
theorem dX4_page_44 : decode cX4_page 44 = .ok (.iload_n 2, 1) := by decide +kernel
theorem dX4_page_45 : decode cX4_page 45 = .ok (.istore_n 3, 1) := by decide +kernel
theorem dX4_page_46 : decode cX4_page 46 = .ok (.iload_n 1, 1) := by decide +kernel
theorem dX4_page_47 : decode cX4_page 47 = .ok (.istore 4, 2) := by decide +kernel
theorem dX4_page_49 : decode cX4_page 49 = .ok (.iload 4, 2) := by decide +kernel
theorem dX4_page_51 : decode cX4_page 51 = .ok (.aload_n 0, 1) := by decide +kernel
theorem dX4_page_52 : decode cX4_page 52 = .ok (.getfield 91, 3) := by decide +kernel
theorem dX4_page_55 : decode cX4_page 55 = .ok (.if_icmp .ge 82, 3) := by decide +kernel
theorem dX4_page_58 : decode cX4_page 58 = .ok (.iconst 1, 1) := by decide +kernel
theorem dX4_page_59 : decode cX4_page 59 = .ok (.istore 5, 2) := by decide +kernel
theorem dX4_page_61 : decode cX4_page 61 = .ok (.iload_n 1, 1) := by decide +kernel
theorem dX4_page_62 : decode cX4_page 62 = .ok (.istore 6, 2) := by decide +kernel
theorem dX4_page_64 : decode cX4_page 64 = .ok (.iload 6, 2) := by decide +kernel
theorem dX4_page_66 : decode cX4_page 66 = .ok (.iload 4, 2) := by decide +kernel
theorem dX4_page_68 : decode cX4_page 68 = .ok (.if_icmp .ge 38, 3) := by decide +kernel
theorem dX4_page_71 : decode cX4_page 71 = .ok (.iload 5, 2) := by decide +kernel
theorem dX4_page_73 : decode cX4_page 73 = .ok (.ifCond .eq 24, 3) := by decide +kernel
theorem dX4_page_76 : decode cX4_page 76 = .ok (.aload_n 0, 1) := by decide +kernel
theorem dX4_page_77 : decode cX4_page 77 = .ok (.getfield 31, 3) := by decide +kernel
theorem dX4_page_80 : decode cX4_page 80 = .ok (.iload 6, 2) := by decide +kernel
theorem dX4_page_82 : decode cX4_page 82 = .ok (.iaload, 1) := by decide +kernel
theorem dX4_page_83 : decode cX4_page 83 = .ok (.aload_n 0, 1) := by decide +kernel
theorem dX4_page_84 : decode cX4_page 84 = .ok (.getfield 31, 3) := by decide +kernel
theorem dX4_page_87 : decode cX4_page 87 = .ok (.iload 4, 2) := by decide +kernel
theorem dX4_page_89 : decode cX4_page 89 = .ok (.iaload, 1) := by decide +kernel
theorem dX4_page_90 : decode cX4_page 90 = .ok (.if_icmp .eq 7, 3) := by decide +kernel
theorem dX4_page_93 : decode cX4_page 93 = .ok (.iconst 1, 1) := by decide +kernel
theorem dX4_page_94 : decode cX4_page 94 = .ok (.goto 4, 3) := by decide +kernel
theorem dX4_page_97 : decode cX4_page 97 = .ok (.iconst 0, 1) := by decide +kernel
theorem dX4_page_98 : decode cX4_page 98 = .ok (.istore 5, 2) := by decide +kernel
theorem dX4_page_100 : decode cX4_page 100 = .ok (.iinc 6 1, 3) := by decide +kernel
theorem dX4_page_103 : decode cX4_page 103 = .ok (.goto (-39), 3) := by decide +kernel
theorem dX4_page_106 : decode cX4_page 106 = .ok (.iload 5, 2) := by decide +kernel
theorem dX4_page_108 : decode cX4_page 108 = .ok (.ifCond .eq 10, 3) := by decide +kernel
theorem dX4_page_111 : decode cX4_page 111 = .ok (.iload_n 3, 1) := by decide +kernel
theorem dX4_page_112 : decode cX4_page 112 = .ok (.ifCond .ne 6, 3) := by decide +kernel
theorem dX4_page_115 : decode cX4_page 115 = .ok (.iload 4, 2) := by decide +kernel
theorem dX4_page_117 : decode cX4_page 117 = .ok (.ireturn, 1) := by decide +kernel
theorem dX4_page_118 : decode cX4_page 118 = .ok (.iload_n 3, 1) := by decide +kernel
theorem dX4_page_119 : decode cX4_page 119 = .ok (.iload 5, 2) := by decide +kernel
theorem dX4_page_121 : decode cX4_page 121 = .ok (.ifCond .eq 7, 3) := by decide +kernel
theorem dX4_page_124 : decode cX4_page 124 = .ok (.iconst 1, 1) := by decide +kernel
theorem dX4_page_125 : decode cX4_page 125 = .ok (.goto 4, 3) := by decide +kernel
theorem dX4_page_128 : decode cX4_page 128 = .ok (.iconst 0, 1) := by decide +kernel
theorem dX4_page_129 : decode cX4_page 129 = .ok (.isub, 1) := by decide +kernel
theorem dX4_page_130 : decode cX4_page 130 = .ok (.istore_n 3, 1) := by decide +kernel
theorem dX4_page_131 : decode cX4_page 131 = .ok (.iinc 4 1, 3) := by decide +kernel
theorem dX4_page_134 : decode cX4_page 134 = .ok (.goto (-85), 3) := by decide +kernel
theorem dX4_page_137 : decode cX4_page 137 = .ok (.iload 4, 2) := by decide +kernel
theorem dX4_page_139 : decode cX4_page 139 = .ok (.ireturn, 1) := by decide +kernel
theorem dX4_isQuery_0 : decode cX4_isQuery 0 = .ok (.iload_n 0, 1) := by decide +kernel
theorem dX4_isQuery_1 : decode cX4_isQuery 1 = .ok (.iconst 0, 1) := by decide +kernel
theorem dX4_isQuery_2 : decode cX4_isQuery 2 = .ok (.iconst 5, 1) := by decide +kernel
theorem dX4_isQuery_3 : decode cX4_isQuery 3 = .ok (.invokestatic 87, 3) := by decide +kernel
theorem dX4_isQuery_6 : decode cX4_isQuery 6 = .ok (.ifCond .eq 16, 3) := by decide +kernel
theorem dX4_isQuery_9 : decode cX4_isQuery 9 = .ok (.iload_n 1, 1) := by decide +kernel
theorem dX4_isQuery_10 : decode cX4_isQuery 10 = .ok (.iconst (-1), 1) := by decide +kernel
theorem dX4_isQuery_11 : decode cX4_isQuery 11 = .ok (.iconst 3, 1) := by decide +kernel
theorem dX4_isQuery_12 : decode cX4_isQuery 12 = .ok (.invokestatic 87, 3) := by decide +kernel
theorem dX4_isQuery_15 : decode cX4_isQuery 15 = .ok (.ifCond .eq 7, 3) := by decide +kernel
theorem dX4_isQuery_18 : decode cX4_isQuery 18 = .ok (.iconst 1, 1) := by decide +kernel
theorem dX4_isQuery_19 : decode cX4_isQuery 19 = .ok (.goto 4, 3) := by decide +kernel
theorem dX4_isQuery_22 : decode cX4_isQuery 22 = .ok (.iconst 0, 1) := by decide +kernel
theorem dX4_isQuery_23 : decode cX4_isQuery 23 = .ok (.ireturn, 1) := by decide +kernel
theorem dX4_found_0 : decode cX4_found 0 = .ok (.aload_n 0, 1) := by decide +kernel
theorem dX4_found_1 : decode cX4_found 1 = .ok (.iload_n 1, 1) := by decide +kernel
theorem dX4_found_2 : decode cX4_found 2 = .ok (.iload_n 2, 1) := by decide +kernel
theorem dX4_found_3 : decode cX4_found 3 = .ok (.invokestatic 140, 3) := by decide +kernel
theorem dX4_found_6 : decode cX4_found 6 = .ok (.ifCond .eq 7, 3) := by decide +kernel
theorem dX4_found_9 : decode cX4_found 9 = .ok (.iconst 0, 1) := by decide +kernel
theorem dX4_found_10 : decode cX4_found 10 = .ok (.goto 4, 3) := by decide +kernel
theorem dX4_found_13 : decode cX4_found 13 = .ok (.iconst 1, 1) := by decide +kernel
theorem dX4_found_14 : decode cX4_found 14 = .ok (.invokevirtual 94, 3) := by decide +kernel
theorem dX4_found_17 : decode cX4_found 17 = .ok (.ifCond .eq 12, 3) := by decide +kernel
theorem dX4_found_20 : decode cX4_found 20 = .ok (.aload_n 0, 1) := by decide +kernel
theorem dX4_found_21 : decode cX4_found 21 = .ok (.iload_n 1, 1) := by decide +kernel
theorem dX4_found_22 : decode cX4_found 22 = .ok (.iload_n 2, 1) := by decide +kernel
theorem dX4_found_23 : decode cX4_found 23 = .ok (.invokevirtual 115, 3) := by decide +kernel
theorem dX4_found_26 : decode cX4_found 26 = .ok (.goto 4, 3) := by decide +kernel
theorem dX4_found_29 : decode cX4_found 29 = .ok (.iconst 0, 1) := by decide +kernel
theorem dX4_found_30 : decode cX4_found 30 = .ok (.ireturn, 1) := by decide +kernel
theorem dX4_foundOne_0 : decode cX4_foundOne 0 = .ok (.iconst 0, 1) := by decide +kernel
theorem dX4_foundOne_1 : decode cX4_foundOne 1 = .ok (.istore 4, 2) := by decide +kernel
theorem dX4_foundOne_3 : decode cX4_foundOne 3 = .ok (.iload 4, 2) := by decide +kernel
theorem dX4_foundOne_5 : decode cX4_foundOne 5 = .ok (.aload_n 0, 1) := by decide +kernel
theorem dX4_foundOne_6 : decode cX4_foundOne 6 = .ok (.getfield 84, 3) := by decide +kernel
theorem dX4_foundOne_9 : decode cX4_foundOne 9 = .ok (.if_icmp .ge 124, 3) := by decide +kernel
theorem dX4_foundOne_12 : decode cX4_foundOne 12 = .ok (.iconst 0, 1) := by decide +kernel
theorem dX4_foundOne_13 : decode cX4_foundOne 13 = .ok (.istore 5, 2) := by decide +kernel
theorem dX4_foundOne_15 : decode cX4_foundOne 15 = .ok (.iconst 0, 1) := by decide +kernel
theorem dX4_foundOne_16 : decode cX4_foundOne 16 = .ok (.istore 6, 2) := by decide +kernel
theorem dX4_foundOne_18 : decode cX4_foundOne 18 = .ok (.iload 6, 2) := by decide +kernel
theorem dX4_foundOne_20 : decode cX4_foundOne 20 = .ok (.aload_n 0, 1) := by decide +kernel
theorem dX4_foundOne_21 : decode cX4_foundOne 21 = .ok (.getfield 84, 3) := by decide +kernel
theorem dX4_foundOne_24 : decode cX4_foundOne 24 = .ok (.if_icmp .ge 83, 3) := by decide +kernel
theorem dX4_foundOne_27 : decode cX4_foundOne 27 = .ok (.aload_n 0, 1) := by decide +kernel
theorem dX4_foundOne_28 : decode cX4_foundOne 28 = .ok (.getfield 7, 3) := by decide +kernel
theorem dX4_foundOne_31 : decode cX4_foundOne 31 = .ok (.iload 6, 2) := by decide +kernel
theorem dX4_foundOne_33 : decode cX4_foundOne 33 = .ok (.iaload, 1) := by decide +kernel
theorem dX4_foundOne_34 : decode cX4_foundOne 34 = .ok (.aload_n 0, 1) := by decide +kernel
theorem dX4_foundOne_35 : decode cX4_foundOne 35 = .ok (.getfield 7, 3) := by decide +kernel
theorem dX4_foundOne_38 : decode cX4_foundOne 38 = .ok (.iload 4, 2) := by decide +kernel
theorem dX4_foundOne_40 : decode cX4_foundOne 40 = .ok (.iaload, 1) := by decide +kernel
theorem dX4_foundOne_41 : decode cX4_foundOne 41 = .ok (.if_icmp .gt 27, 3) := by decide +kernel
theorem dX4_foundOne_44 : decode cX4_foundOne 44 = .ok (.aload_n 0, 1) := by decide +kernel
