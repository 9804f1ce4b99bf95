theorem dX0_init_0 : decode cX0_init 0 = .ok (.aload_n 0, 1) := by decide +kernel
theorem dX0_init_1 : decode cX0_init 1 = .ok (.invokespecial 3, 3) := by decide +kernel
theorem dX0_init_4 : decode cX0_init 4 = .ok (.aload_n 0, 1) := by decide +kernel
theorem dX0_init_5 : decode cX0_init 5 = .ok (.bipush 40, 2) := by decide +kernel
theorem dX0_init_7 : decode cX0_init 7 = .ok (.newarray .int, 2) := by decide +kernel
theorem dX0_init_9 : decode cX0_init 9 = .ok (.putfield 9, 3) := by decide +kernel
theorem dX0_init_12 : decode cX0_init 12 = .ok (.aload_n 0, 1) := by decide +kernel
theorem dX0_init_13 : decode cX0_init 13 = .ok (.bipush 40, 2) := by decide +kernel
theorem dX0_init_15 : decode cX0_init 15 = .ok (.newarray .int, 2) := by decide +kernel
theorem dX0_init_17 : decode cX0_init 17 = .ok (.putfield 15, 3) := by decide +kernel
theorem dX0_init_20 : decode cX0_init 20 = .ok (.aload_n 0, 1) := by decide +kernel
theorem dX0_init_21 : decode cX0_init 21 = .ok (.bipush 40, 2) := by decide +kernel
theorem dX0_init_23 : decode cX0_init 23 = .ok (.newarray .int, 2) := by decide +kernel
theorem dX0_init_25 : decode cX0_init 25 = .ok (.putfield 18, 3) := by decide +kernel
theorem dX0_init_28 : decode cX0_init 28 = .ok (.aload_n 0, 1) := by decide +kernel
theorem dX0_init_29 : decode cX0_init 29 = .ok (.bipush 40, 2) := by decide +kernel
theorem dX0_init_31 : decode cX0_init 31 = .ok (.newarray .int, 2) := by decide +kernel
theorem dX0_init_33 : decode cX0_init 33 = .ok (.putfield 21, 3) := by decide +kernel
theorem dX0_init_36 : decode cX0_init 36 = .ok (.return_, 1) := by decide +kernel
theorem dX0_slotOf_0 : decode cX0_slotOf 0 = .ok (.iload_n 0, 1) := by decide +kernel
theorem dX0_slotOf_1 : decode cX0_slotOf 1 = .ok (.bipush 40, 2) := by decide +kernel
theorem dX0_slotOf_3 : decode cX0_slotOf 3 = .ok (.invokestatic 24, 3) := by decide +kernel
theorem dX0_slotOf_6 : decode cX0_slotOf 6 = .ok (.ireturn, 1) := by decide +kernel
theorem dX0_keep_0 : decode cX0_keep 0 = .ok (.aload_n 0, 1) := by decide +kernel
theorem dX0_keep_1 : decode cX0_keep 1 = .ok (.dup, 1) := by decide +kernel
theorem dX0_keep_2 : decode cX0_keep 2 = .ok (.getfield 30, 3) := by decide +kernel
theorem dX0_keep_5 : decode cX0_keep 5 = .ok (.iconst 1, 1) := by decide +kernel
theorem dX0_keep_6 : decode cX0_keep 6 = .ok (.iadd, 1) := by decide +kernel
theorem dX0_keep_7 : decode cX0_keep 7 = .ok (.putfield 30, 3) := by decide +kernel
theorem dX0_keep_10 : decode cX0_keep 10 = .ok (.aload_n 0, 1) := by decide +kernel
theorem dX0_keep_11 : decode cX0_keep 11 = .ok (.getfield 30, 3) := by decide +kernel
theorem dX0_keep_14 : decode cX0_keep 14 = .ok (.invokestatic 34, 3) := by decide +kernel
theorem dX0_keep_17 : decode cX0_keep 17 = .ok (.istore 5, 2) := by decide +kernel
theorem dX0_keep_19 : decode cX0_keep 19 = .ok (.aload_n 0, 1) := by decide +kernel
theorem dX0_keep_20 : decode cX0_keep 20 = .ok (.getfield 9, 3) := by decide +kernel
theorem dX0_keep_23 : decode cX0_keep 23 = .ok (.iload 5, 2) := by decide +kernel
theorem dX0_keep_25 : decode cX0_keep 25 = .ok (.iload_n 1, 1) := by decide +kernel
theorem dX0_keep_26 : decode cX0_keep 26 = .ok (.iastore, 1) := by decide +kernel
theorem dX0_keep_27 : decode cX0_keep 27 = .ok (.aload_n 0, 1) := by decide +kernel
theorem dX0_keep_28 : decode cX0_keep 28 = .ok (.getfield 15, 3) := by decide +kernel
theorem dX0_keep_31 : decode cX0_keep 31 = .ok (.iload 5, 2) := by decide +kernel
theorem dX0_keep_33 : decode cX0_keep 33 = .ok (.iload_n 2, 1) := by decide +kernel
theorem dX0_keep_34 : decode cX0_keep 34 = .ok (.iastore, 1) := by decide +kernel
theorem dX0_keep_35 : decode cX0_keep 35 = .ok (.aload_n 0, 1) := by decide +kernel
theorem dX0_keep_36 : decode cX0_keep 36 = .ok (.getfield 18, 3) := by decide +kernel
theorem dX0_keep_39 : decode cX0_keep 39 = .ok (.iload 5, 2) := by decide +kernel
theorem dX0_keep_41 : decode cX0_keep 41 = .ok (.iload_n 3, 1) := by decide +kernel
theorem dX0_keep_42 : decode cX0_keep 42 = .ok (.iastore, 1) := by decide +kernel
theorem dX0_keep_43 : decode cX0_keep 43 = .ok (.aload_n 0, 1) := by decide +kernel
theorem dX0_keep_44 : decode cX0_keep 44 = .ok (.getfield 21, 3) := by decide +kernel
theorem dX0_keep_47 : decode cX0_keep 47 = .ok (.iload 5, 2) := by decide +kernel
theorem dX0_keep_49 : decode cX0_keep 49 = .ok (.iload 4, 2) := by decide +kernel
theorem dX0_keep_51 : decode cX0_keep 51 = .ok (.iastore, 1) := by decide +kernel
theorem dX0_keep_52 : decode cX0_keep 52 = .ok (.return_, 1) := by decide +kernel
theorem dX0_reachBackTo_0 : decode cX0_reachBackTo 0 = .ok (.aload_n 0, 1) := by decide +kernel
theorem dX0_reachBackTo_1 : decode cX0_reachBackTo 1 = .ok (.getfield 30, 3) := by decide +kernel
theorem dX0_reachBackTo_4 : decode cX0_reachBackTo 4 = .ok (.iload_n 1, 1) := by decide +kernel
theorem dX0_reachBackTo_5 : decode cX0_reachBackTo 5 = .ok (.isub, 1) := by decide +kernel
theorem dX0_reachBackTo_6 : decode cX0_reachBackTo 6 = .ok (.bipush 40, 2) := by decide +kernel
theorem dX0_reachBackTo_8 : decode cX0_reachBackTo 8 = .ok (.if_icmp .gt 7, 3) := by decide +kernel
theorem dX0_reachBackTo_11 : decode cX0_reachBackTo 11 = .ok (.iconst 1, 1) := by decide +kernel
theorem dX0_reachBackTo_12 : decode cX0_reachBackTo 12 = .ok (.goto 4, 3) := by decide +kernel
theorem dX0_reachBackTo_15 : decode cX0_reachBackTo 15 = .ok (.iconst 0, 1) := by decide +kernel
theorem dX0_reachBackTo_16 : decode cX0_reachBackTo 16 = .ok (.ireturn, 1) := by decide +kernel
theorem dX0_countBehind_0 : decode cX0_countBehind 0 = .ok (.aload_n 0, 1) := by decide +kernel
theorem dX0_countBehind_1 : decode cX0_countBehind 1 = .ok (.getfield 30, 3) := by decide +kernel
theorem dX0_countBehind_4 : decode cX0_countBehind 4 = .ok (.iload_n 1, 1) := by decide +kernel
theorem dX0_countBehind_5 : decode cX0_countBehind 5 = .ok (.isub, 1) := by decide +kernel
theorem dX0_countBehind_6 : decode cX0_countBehind 6 = .ok (.bipush 40, 2) := by decide +kernel
theorem dX0_countBehind_8 : decode cX0_countBehind 8 = .ok (.invokestatic 38, 3) := by decide +kernel
theorem dX0_countBehind_11 : decode cX0_countBehind 11 = .ok (.ireturn, 1) := by decide +kernel
theorem dX0_undo_0 : decode cX0_undo 0 = .ok (.lload_n 2, 1) := by decide +kernel
theorem dX0_undo_1 : decode cX0_undo 1 = .ok (.lstore 6, 2) := by decide +kernel
theorem dX0_undo_3 : decode cX0_undo 3 = .ok (.aload_n 0, 1) := by decide +kernel
theorem dX0_undo_4 : decode cX0_undo 4 = .ok (.iload_n 1, 1) := by decide +kernel
theorem dX0_undo_5 : decode cX0_undo 5 = .ok (.invokevirtual 41, 3) := by decide +kernel
theorem dX0_undo_8 : decode cX0_undo 8 = .ok (.istore 8, 2) := by decide +kernel
theorem dX0_undo_10 : decode cX0_undo 10 = .ok (.iconst 0, 1) := by decide +kernel
theorem dX0_undo_11 : decode cX0_undo 11 = .ok (.istore 9, 2) := by decide +kernel
theorem dX0_undo_13 : decode cX0_undo 13 = .ok (.iload 9, 2) := by decide +kernel
theorem dX0_undo_15 : decode cX0_undo 15 = .ok (.iload 8, 2) := by decide +kernel
theorem dX0_undo_17 : decode cX0_undo 17 = .ok (.if_icmp .ge 60, 3) := by decide +kernel
theorem dX0_undo_20 : decode cX0_undo 20 = .ok (.aload_n 0, 1) := by decide +kernel
theorem dX0_undo_21 : decode cX0_undo 21 = .ok (.getfield 30, 3) := by decide +kernel
theorem dX0_undo_24 : decode cX0_undo 24 = .ok (.iload 9, 2) := by decide +kernel
theorem dX0_undo_26 : decode cX0_undo 26 = .ok (.isub, 1) := by decide +kernel
theorem dX0_undo_27 : decode cX0_undo 27 = .ok (.invokestatic 34, 3) := by decide +kernel
theorem dX0_undo_30 : decode cX0_undo 30 = .ok (.istore 10, 2) := by decide +kernel
theorem dX0_undo_32 : decode cX0_undo 32 = .ok (.aload_n 0, 1) := by decide +kernel
theorem dX0_undo_33 : decode cX0_undo 33 = .ok (.getfield 15, 3) := by decide +kernel
theorem dX0_undo_36 : decode cX0_undo 36 = .ok (.iload 10, 2) := by decide +kernel
theorem dX0_undo_38 : decode cX0_undo 38 = .ok (.iaload, 1) := by decide +kernel
theorem dX0_undo_39 : decode cX0_undo 39 = .ok (.aload_n 0, 1) := by decide +kernel
theorem dX0_undo_40 : decode cX0_undo 40 = .ok (.getfield 18, 3) := by decide +kernel
theorem dX0_undo_43 : decode cX0_undo 43 = .ok (.iload 10, 2) := by decide +kernel
theorem dX0_undo_45 : decode cX0_undo 45 = .ok (.iaload, 1) := by decide +kernel
theorem dX0_undo_46 : decode cX0_undo 46 = .ok (.iload 4, 2) := by decide +kernel
theorem dX0_undo_48 : decode cX0_undo 48 = .ok (.iload 5, 2) := by decide +kernel
theorem dX0_undo_50 : decode cX0_undo 50 = .ok (.invokestatic 44, 3) := by decide +kernel
theorem dX0_undo_53 : decode cX0_undo 53 = .ok (.istore 11, 2) := by decide +kernel
theorem dX0_undo_55 : decode cX0_undo 55 = .ok (.lload 6, 2) := by decide +kernel
theorem dX0_undo_57 : decode cX0_undo 57 = .ok (.aload_n 0, 1) := by decide +kernel
theorem dX0_undo_58 : decode cX0_undo 58 = .ok (.getfield 9, 3) := by decide +kernel
theorem dX0_undo_61 : decode cX0_undo 61 = .ok (.iload 10, 2) := by decide +kernel
theorem dX0_undo_63 : decode cX0_undo 63 = .ok (.iaload, 1) := by decide +kernel
theorem dX0_undo_64 : decode cX0_undo 64 = .ok (.iload 11, 2) := by decide +kernel
theorem dX0_undo_66 : decode cX0_undo 66 = .ok (.invokestatic 48, 3) := by decide +kernel
theorem dX0_undo_69 : decode cX0_undo 69 = .ok (.lstore 6, 2) := by decide +kernel
theorem dX0_undo_71 : decode cX0_undo 71 = .ok (.iinc 9 1, 3) := by decide +kernel
theorem dX0_undo_74 : decode cX0_undo 74 = .ok (.goto (-61), 3) := by decide +kernel
theorem dX0_undo_77 : decode cX0_undo 77 = .ok (.lload 6, 2) := by decide +kernel
theorem dX0_undo_79 : decode cX0_undo 79 = .ok (.lreturn, 1) := by decide +kernel
theorem dX0_touched_0 : decode cX0_touched 0 = .ok (.lconst 0, 1) := by decide +kernel
theorem dX0_touched_1 : decode cX0_touched 1 = .ok (.lstore_n 2, 1) := by decide +kernel
theorem dX0_touched_2 : decode cX0_touched 2 = .ok (.aload_n 0, 1) := by decide +kernel
theorem dX0_touched_3 : decode cX0_touched 3 = .ok (.iload_n 1, 1) := by decide +kernel
theorem dX0_touched_4 : decode cX0_touched 4 = .ok (.invokevirtual 41, 3) := by decide +kernel
theorem dX0_touched_7 : decode cX0_touched 7 = .ok (.istore 4, 2) := by decide +kernel
theorem dX0_touched_9 : decode cX0_touched 9 = .ok (.iconst 0, 1) := by decide +kernel
theorem dX0_touched_10 : decode cX0_touched 10 = .ok (.istore 5, 2) := by decide +kernel
theorem dX0_touched_12 : decode cX0_touched 12 = .ok (.iload 5, 2) := by decide +kernel
theorem dX0_touched_14 : decode cX0_touched 14 = .ok (.iload 4, 2) := by decide +kernel
theorem dX0_touched_16 : decode cX0_touched 16 = .ok (.if_icmp .ge 30, 3) := by decide +kernel
theorem dX0_touched_19 : decode cX0_touched 19 = .ok (.lload_n 2, 1) := by decide +kernel
theorem dX0_touched_20 : decode cX0_touched 20 = .ok (.aload_n 0, 1) := by decide +kernel
theorem dX0_touched_21 : decode cX0_touched 21 = .ok (.getfield 9, 3) := by decide +kernel
theorem dX0_touched_24 : decode cX0_touched 24 = .ok (.aload_n 0, 1) := by decide +kernel
theorem dX0_touched_25 : decode cX0_touched 25 = .ok (.getfield 30, 3) := by decide +kernel
theorem dX0_touched_28 : decode cX0_touched 28 = .ok (.iload 5, 2) := by decide +kernel
theorem dX0_touched_30 : decode cX0_touched 30 = .ok (.isub, 1) := by decide +kernel
theorem dX0_touched_31 : decode cX0_touched 31 = .ok (.invokestatic 34, 3) := by decide +kernel
theorem dX0_touched_34 : decode cX0_touched 34 = .ok (.iaload, 1) := by decide +kernel
theorem dX0_touched_35 : decode cX0_touched 35 = .ok (.iconst 1, 1) := by decide +kernel
theorem dX0_touched_36 : decode cX0_touched 36 = .ok (.invokestatic 48, 3) := by decide +kernel
theorem dX0_touched_39 : decode cX0_touched 39 = .ok (.lstore_n 2, 1) := by decide +kernel
theorem dX0_touched_40 : decode cX0_touched 40 = .ok (.iinc 5 1, 3) := by decide +kernel
theorem dX0_touched_43 : decode cX0_touched 43 = .ok (.goto (-31), 3) := by decide +kernel
theorem dX0_touched_46 : decode cX0_touched 46 = .ok (.lload_n 2, 1) := by decide +kernel
theorem dX0_touched_47 : decode cX0_touched 47 = .ok (.lreturn, 1) := by decide +kernel
theorem dX0_endOfPage_0 : decode cX0_endOfPage 0 = .ok (.lconst 0, 1) := by decide +kernel
theorem dX0_endOfPage_1 : decode cX0_endOfPage 1 = .ok (.lstore_n 3, 1) := by decide +kernel
theorem dX0_endOfPage_2 : decode cX0_endOfPage 2 = .ok (.aload_n 0, 1) := by decide +kernel
theorem dX0_endOfPage_3 : decode cX0_endOfPage 3 = .ok (.iload_n 1, 1) := by decide +kernel
theorem dX0_endOfPage_4 : decode cX0_endOfPage 4 = .ok (.invokevirtual 41, 3) := by decide +kernel
theorem dX0_endOfPage_7 : decode cX0_endOfPage 7 = .ok (.istore 5, 2) := by decide +kernel
theorem dX0_endOfPage_9 : decode cX0_endOfPage 9 = .ok (.iconst 0, 1) := by decide +kernel
theorem dX0_endOfPage_10 : decode cX0_endOfPage 10 = .ok (.istore 6, 2) := by decide +kernel
theorem dX0_endOfPage_12 : decode cX0_endOfPage 12 = .ok (.iload 6, 2) := by decide +kernel
theorem dX0_endOfPage_14 : decode cX0_endOfPage 14 = .ok (.iload 5, 2) := by decide +kernel
theorem dX0_endOfPage_16 : decode cX0_endOfPage 16 = .ok (.if_icmp .ge 55, 3) := by decide +kernel
theorem dX0_endOfPage_19 : decode cX0_endOfPage 19 = .ok (.aload_n 0, 1) := by decide +kernel
theorem dX0_endOfPage_20 : decode cX0_endOfPage 20 = .ok (.getfield 9, 3) := by decide +kernel
theorem dX0_endOfPage_23 : decode cX0_endOfPage 23 = .ok (.iload_n 1, 1) := by decide +kernel
theorem dX0_endOfPage_24 : decode cX0_endOfPage 24 = .ok (.iconst 1, 1) := by decide +kernel
theorem dX0_endOfPage_25 : decode cX0_endOfPage 25 = .ok (.iadd, 1) := by decide +kernel
theorem dX0_endOfPage_26 : decode cX0_endOfPage 26 = .ok (.iload 6, 2) := by decide +kernel
theorem dX0_endOfPage_28 : decode cX0_endOfPage 28 = .ok (.iadd, 1) := by decide +kernel
theorem dX0_endOfPage_29 : decode cX0_endOfPage 29 = .ok (.invokestatic 34, 3) := by decide +kernel
theorem dX0_endOfPage_32 : decode cX0_endOfPage 32 = .ok (.iaload, 1) := by decide +kernel
theorem dX0_endOfPage_33 : decode cX0_endOfPage 33 = .ok (.istore 7, 2) := by decide +kernel
theorem dX0_endOfPage_35 : decode cX0_endOfPage 35 = .ok (.lload_n 3, 1) := by decide +kernel
theorem dX0_endOfPage_36 : decode cX0_endOfPage 36 = .ok (.iload 7, 2) := by decide +kernel
theorem dX0_endOfPage_38 : decode cX0_endOfPage 38 = .ok (.invokestatic 52, 3) := by decide +kernel
theorem dX0_endOfPage_41 : decode cX0_endOfPage 41 = .ok (.ifCond .ne 16, 3) := by decide +kernel
theorem dX0_endOfPage_44 : decode cX0_endOfPage 44 = .ok (.lload_n 3, 1) := by decide +kernel
theorem dX0_endOfPage_45 : decode cX0_endOfPage 45 = .ok (.invokestatic 56, 3) := by decide +kernel
theorem dX0_endOfPage_48 : decode cX0_endOfPage 48 = .ok (.iload_n 2, 1) := by decide +kernel
theorem dX0_endOfPage_49 : decode cX0_endOfPage 49 = .ok (.if_icmp .lt 8, 3) := by decide +kernel
theorem dX0_endOfPage_52 : decode cX0_endOfPage 52 = .ok (.iload_n 1, 1) := by decide +kernel
theorem dX0_endOfPage_53 : decode cX0_endOfPage 53 = .ok (.iload 6, 2) := by decide +kernel
theorem dX0_endOfPage_55 : decode cX0_endOfPage 55 = .ok (.iadd, 1) := by decide +kernel
theorem dX0_endOfPage_56 : decode cX0_endOfPage 56 = .ok (.ireturn, 1) := by decide +kernel
theorem dX0_endOfPage_57 : decode cX0_endOfPage 57 = .ok (.lload_n 3, 1) := by decide +kernel
theorem dX0_endOfPage_58 : decode cX0_endOfPage 58 = .ok (.iload 7, 2) := by decide +kernel
theorem dX0_endOfPage_60 : decode cX0_endOfPage 60 = .ok (.iconst 1, 1) := by decide +kernel
theorem dX0_endOfPage_61 : decode cX0_endOfPage 61 = .ok (.invokestatic 48, 3) := by decide +kernel
theorem dX0_endOfPage_64 : decode cX0_endOfPage 64 = .ok (.lstore_n 3, 1) := by decide +kernel
theorem dX0_endOfPage_65 : decode cX0_endOfPage 65 = .ok (.iinc 6 1, 3) := by decide +kernel
theorem dX0_endOfPage_68 : decode cX0_endOfPage 68 = .ok (.goto (-56), 3) := by decide +kernel
theorem dX0_endOfPage_71 : decode cX0_endOfPage 71 = .ok (.aload_n 0, 1) := by decide +kernel
theorem dX0_endOfPage_72 : decode cX0_endOfPage 72 = .ok (.getfield 30, 3) := by decide +kernel
theorem dX0_endOfPage_75 : decode cX0_endOfPage 75 = .ok (.ireturn, 1) := by decide +kernel
theorem dX0_contradict_0 : decode cX0_contradict 0 = .ok (.aload_n 0, 1) := by decide +kernel
theorem dX0_contradict_1 : decode cX0_contradict 1 = .ok (.iload_n 1, 1) := by decide +kernel
theorem dX0_contradict_2 : decode cX0_contradict 2 = .ok (.invokevirtual 41, 3) := by decide +kernel
theorem dX0_contradict_5 : decode cX0_contradict 5 = .ok (.istore 5, 2) := by decide +kernel
theorem dX0_contradict_7 : decode cX0_contradict 7 = .ok (.iconst 0, 1) := by decide +kernel
theorem dX0_contradict_8 : decode cX0_contradict 8 = .ok (.istore 6, 2) := by decide +kernel
theorem dX0_contradict_10 : decode cX0_contradict 10 = .ok (.iload 6, 2) := by decide +kernel
theorem dX0_contradict_12 : decode cX0_contradict 12 = .ok (.iload 5, 2) := by decide +kernel
theorem dX0_contradict_14 : decode cX0_contradict 14 = .ok (.if_icmp .ge 78, 3) := by decide +kernel
theorem dX0_contradict_17 : decode cX0_contradict 17 = .ok (.aload_n 0, 1) := by decide +kernel
theorem dX0_contradict_18 : decode cX0_contradict 18 = .ok (.getfield 30, 3) := by decide +kernel
theorem dX0_contradict_21 : decode cX0_contradict 21 = .ok (.iload 6, 2) := by decide +kernel
theorem dX0_contradict_23 : decode cX0_contradict 23 = .ok (.isub, 1) := by decide +kernel
theorem dX0_contradict_24 : decode cX0_contradict 24 = .ok (.invokestatic 34, 3) := by decide +kernel
theorem dX0_contradict_27 : decode cX0_contradict 27 = .ok (.istore 7, 2) := by decide +kernel
theorem dX0_contradict_29 : decode cX0_contradict 29 = .ok (.aload_n 0, 1) := by decide +kernel
theorem dX0_contradict_30 : decode cX0_contradict 30 = .ok (.getfield 9, 3) := by decide +kernel
theorem dX0_contradict_33 : decode cX0_contradict 33 = .ok (.iload 7, 2) := by decide +kernel
theorem dX0_contradict_35 : decode cX0_contradict 35 = .ok (.iaload, 1) := by decide +kernel
theorem dX0_contradict_36 : decode cX0_contradict 36 = .ok (.iload_n 2, 1) := by decide +kernel
theorem dX0_contradict_37 : decode cX0_contradict 37 = .ok (.if_icmp .ne 49, 3) := by decide +kernel
theorem dX0_contradict_40 : decode cX0_contradict 40 = .ok (.aload_n 0, 1) := by decide +kernel
theorem dX0_contradict_41 : decode cX0_contradict 41 = .ok (.getfield 18, 3) := by decide +kernel
theorem dX0_contradict_44 : decode cX0_contradict 44 = .ok (.iload 7, 2) := by decide +kernel
theorem dX0_contradict_46 : decode cX0_contradict 46 = .ok (.iaload, 1) := by decide +kernel
theorem dX0_contradict_47 : decode cX0_contradict 47 = .ok (.aload_n 0, 1) := by decide +kernel
theorem dX0_contradict_48 : decode cX0_contradict 48 = .ok (.getfield 21, 3) := by decide +kernel
theorem dX0_contradict_51 : decode cX0_contradict 51 = .ok (.iload 7, 2) := by decide +kernel
theorem dX0_contradict_53 : decode cX0_contradict 53 = .ok (.iaload, 1) := by decide +kernel
theorem dX0_contradict_54 : decode cX0_contradict 54 = .ok (.ixor, 1) := by decide +kernel
theorem dX0_contradict_55 : decode cX0_contradict 55 = .ok (.i2l, 1) := by decide +kernel
theorem dX0_contradict_56 : decode cX0_contradict 56 = .ok (.iload_n 3, 1) := by decide +kernel
theorem dX0_contradict_57 : decode cX0_contradict 57 = .ok (.invokestatic 52, 3) := by decide +kernel
theorem dX0_contradict_60 : decode cX0_contradict 60 = .ok (.ifCond .eq 26, 3) := by decide +kernel
theorem dX0_contradict_63 : decode cX0_contradict 63 = .ok (.aload_n 0, 1) := by decide +kernel
theorem dX0_contradict_64 : decode cX0_contradict 64 = .ok (.getfield 21, 3) := by decide +kernel
theorem dX0_contradict_67 : decode cX0_contradict 67 = .ok (.iload 7, 2) := by decide +kernel
theorem dX0_contradict_69 : decode cX0_contradict 69 = .ok (.iaload, 1) := by decide +kernel
theorem dX0_contradict_70 : decode cX0_contradict 70 = .ok (.i2l, 1) := by decide +kernel
theorem dX0_contradict_71 : decode cX0_contradict 71 = .ok (.iload_n 3, 1) := by decide +kernel
theorem dX0_contradict_72 : decode cX0_contradict 72 = .ok (.invokestatic 52, 3) := by decide +kernel
theorem dX0_contradict_75 : decode cX0_contradict 75 = .ok (.iload 4, 2) := by decide +kernel
theorem dX0_contradict_77 : decode cX0_contradict 77 = .ok (.if_icmp .eq 7, 3) := by decide +kernel
theorem dX0_contradict_80 : decode cX0_contradict 80 = .ok (.iconst 1, 1) := by decide +kernel
theorem dX0_contradict_81 : decode cX0_contradict 81 = .ok (.goto 4, 3) := by decide +kernel
theorem dX0_contradict_84 : decode cX0_contradict 84 = .ok (.iconst 0, 1) := by decide +kernel
theorem dX0_contradict_85 : decode cX0_contradict 85 = .ok (.ireturn, 1) := by decide +kernel
theorem dX0_contradict_86 : decode cX0_contradict 86 = .ok (.iinc 6 1, 3) := by decide +kernel
theorem dX0_contradict_89 : decode cX0_contradict 89 = .ok (.goto (-79), 3) := by decide +kernel
theorem dX0_contradict_92 : decode cX0_contradict 92 = .ok (.iconst 0, 1) := by decide +kernel
theorem dX0_contradict_93 : decode cX0_contradict 93 = .ok (.ireturn, 1) := by decide +kernel
theorem dX1_init_0 : decode cX1_init 0 = .ok (.aload_n 0, 1) := by decide +kernel
theorem dX1_init_1 : decode cX1_init 1 = .ok (.invokespecial 3, 3) := by decide +kernel
theorem dX1_init_4 : decode cX1_init 4 = .ok (.aload_n 0, 1) := by decide +kernel
theorem dX1_init_5 : decode cX1_init 5 = .ok (.iconst 5, 1) := by decide +kernel
theorem dX1_init_6 : decode cX1_init 6 = .ok (.putfield 9, 3) := by decide +kernel
theorem dX1_init_9 : decode cX1_init 9 = .ok (.aload_n 0, 1) := by decide +kernel
theorem dX1_init_10 : decode cX1_init 10 = .ok (.bipush 10, 2) := by decide +kernel
theorem dX1_init_12 : decode cX1_init 12 = .ok (.newarray .int, 2) := by decide +kernel
theorem dX1_init_14 : decode cX1_init 14 = .ok (.putfield 15, 3) := by decide +kernel
theorem dX1_init_17 : decode cX1_init 17 = .ok (.aload_n 0, 1) := by decide +kernel
theorem dX1_init_18 : decode cX1_init 18 = .ok (.bipush 10, 2) := by decide +kernel
theorem dX1_init_20 : decode cX1_init 20 = .ok (.newarray .int, 2) := by decide +kernel
theorem dX1_init_22 : decode cX1_init 22 = .ok (.putfield 19, 3) := by decide +kernel
theorem dX1_init_25 : decode cX1_init 25 = .ok (.aload_n 0, 1) := by decide +kernel
theorem dX1_init_26 : decode cX1_init 26 = .ok (.bipush 10, 2) := by decide +kernel
theorem dX1_init_28 : decode cX1_init 28 = .ok (.newarray .int, 2) := by decide +kernel
theorem dX1_init_30 : decode cX1_init 30 = .ok (.putfield 22, 3) := by decide +kernel
theorem dX1_init_33 : decode cX1_init 33 = .ok (.aload_n 0, 1) := by decide +kernel
theorem dX1_init_34 : decode cX1_init 34 = .ok (.bipush 10, 2) := by decide +kernel
theorem dX1_init_36 : decode cX1_init 36 = .ok (.newarray .int, 2) := by decide +kernel
theorem dX1_init_38 : decode cX1_init 38 = .ok (.putfield 25, 3) := by decide +kernel
theorem dX1_init_41 : decode cX1_init 41 = .ok (.aload_n 0, 1) := by decide +kernel
theorem dX1_init_42 : decode cX1_init 42 = .ok (.bipush 10, 2) := by decide +kernel
theorem dX1_init_44 : decode cX1_init 44 = .ok (.newarray .boolean, 2) := by decide +kernel
theorem dX1_init_46 : decode cX1_init 46 = .ok (.putfield 28, 3) := by decide +kernel
theorem dX1_init_49 : decode cX1_init 49 = .ok (.return_, 1) := by decide +kernel
theorem dX1_hasPlace_0 : decode cX1_hasPlace 0 = .ok (.iload_n 1, 1) := by decide +kernel
theorem dX1_hasPlace_1 : decode cX1_hasPlace 1 = .ok (.ifCond .lt 21, 3) := by decide +kernel
theorem dX1_hasPlace_4 : decode cX1_hasPlace 4 = .ok (.iload_n 1, 1) := by decide +kernel
theorem dX1_hasPlace_5 : decode cX1_hasPlace 5 = .ok (.aload_n 0, 1) := by decide +kernel
theorem dX1_hasPlace_6 : decode cX1_hasPlace 6 = .ok (.getfield 32, 3) := by decide +kernel
theorem dX1_hasPlace_9 : decode cX1_hasPlace 9 = .ok (.if_icmp .ge 13, 3) := by decide +kernel
theorem dX1_hasPlace_12 : decode cX1_hasPlace 12 = .ok (.iload_n 1, 1) := by decide +kernel
theorem dX1_hasPlace_13 : decode cX1_hasPlace 13 = .ok (.bipush 10, 2) := by decide +kernel
theorem dX1_hasPlace_15 : decode cX1_hasPlace 15 = .ok (.if_icmp .ge 7, 3) := by decide +kernel
theorem dX1_hasPlace_18 : decode cX1_hasPlace 18 = .ok (.iconst 1, 1) := by decide +kernel
theorem dX1_hasPlace_19 : decode cX1_hasPlace 19 = .ok (.goto 4, 3) := by decide +kernel
theorem dX1_hasPlace_22 : decode cX1_hasPlace 22 = .ok (.iconst 0, 1) := by decide +kernel
theorem dX1_hasPlace_23 : decode cX1_hasPlace 23 = .ok (.ireturn, 1) := by decide +kernel
theorem dX1_placeOf_0 : decode cX1_placeOf 0 = .ok (.iconst 0, 1) := by decide +kernel
theorem dX1_placeOf_1 : decode cX1_placeOf 1 = .ok (.istore_n 2, 1) := by decide +kernel
theorem dX1_placeOf_2 : decode cX1_placeOf 2 = .ok (.iload_n 2, 1) := by decide +kernel
theorem dX1_placeOf_3 : decode cX1_placeOf 3 = .ok (.aload_n 0, 1) := by decide +kernel
theorem dX1_placeOf_4 : decode cX1_placeOf 4 = .ok (.getfield 32, 3) := by decide +kernel
theorem dX1_placeOf_7 : decode cX1_placeOf 7 = .ok (.if_icmp .ge 27, 3) := by decide +kernel
theorem dX1_placeOf_10 : decode cX1_placeOf 10 = .ok (.iload_n 2, 1) := by decide +kernel
theorem dX1_placeOf_11 : decode cX1_placeOf 11 = .ok (.bipush 10, 2) := by decide +kernel
theorem dX1_placeOf_13 : decode cX1_placeOf 13 = .ok (.if_icmp .ge 21, 3) := by decide +kernel
theorem dX1_placeOf_16 : decode cX1_placeOf 16 = .ok (.aload_n 0, 1) := by decide +kernel
theorem dX1_placeOf_17 : decode cX1_placeOf 17 = .ok (.getfield 15, 3) := by decide +kernel
theorem dX1_placeOf_20 : decode cX1_placeOf 20 = .ok (.iload_n 2, 1) := by decide +kernel
theorem dX1_placeOf_21 : decode cX1_placeOf 21 = .ok (.iaload, 1) := by decide +kernel
theorem dX1_placeOf_22 : decode cX1_placeOf 22 = .ok (.iload_n 1, 1) := by decide +kernel
theorem dX1_placeOf_23 : decode cX1_placeOf 23 = .ok (.if_icmp .ne 5, 3) := by decide +kernel
theorem dX1_placeOf_26 : decode cX1_placeOf 26 = .ok (.iload_n 2, 1) := by decide +kernel
theorem dX1_placeOf_27 : decode cX1_placeOf 27 = .ok (.ireturn, 1) := by decide +kernel
theorem dX1_placeOf_28 : decode cX1_placeOf 28 = .ok (.iinc 2 1, 3) := by decide +kernel
theorem dX1_placeOf_31 : decode cX1_placeOf 31 = .ok (.goto (-29), 3) := by decide +kernel
theorem dX1_placeOf_34 : decode cX1_placeOf 34 = .ok (.iconst (-1), 1) := by decide +kernel
theorem dX1_placeOf_35 : decode cX1_placeOf 35 = .ok (.ireturn, 1) := by decide +kernel
theorem dX1_note_0 : decode cX1_note 0 = .ok (.aload_n 0, 1) := by decide +kernel
theorem dX1_note_1 : decode cX1_note 1 = .ok (.iload_n 1, 1) := by decide +kernel
theorem dX1_note_2 : decode cX1_note 2 = .ok (.invokevirtual 35, 3) := by decide +kernel
theorem dX1_note_5 : decode cX1_note 5 = .ok (.ifCond .eq 34, 3) := by decide +kernel
theorem dX1_note_8 : decode cX1_note 8 = .ok (.aload_n 0, 1) := by decide +kernel
theorem dX1_note_9 : decode cX1_note 9 = .ok (.getfield 19, 3) := by decide +kernel
theorem dX1_note_12 : decode cX1_note 12 = .ok (.iload_n 1, 1) := by decide +kernel
theorem dX1_note_13 : decode cX1_note 13 = .ok (.aload_n 0, 1) := by decide +kernel
theorem dX1_note_14 : decode cX1_note 14 = .ok (.getfield 19, 3) := by decide +kernel
theorem dX1_note_17 : decode cX1_note 17 = .ok (.iload_n 1, 1) := by decide +kernel
theorem dX1_note_18 : decode cX1_note 18 = .ok (.iaload, 1) := by decide +kernel
theorem dX1_note_19 : decode cX1_note 19 = .ok (.i2l, 1) := by decide +kernel
theorem dX1_note_20 : decode cX1_note 20 = .ok (.iload_n 2, 1) := by decide +kernel
theorem dX1_note_21 : decode cX1_note 21 = .ok (.iload_n 3, 1) := by decide +kernel
theorem dX1_note_22 : decode cX1_note 22 = .ok (.invokestatic 39, 3) := by decide +kernel
theorem dX1_note_25 : decode cX1_note 25 = .ok (.l2i, 1) := by decide +kernel
theorem dX1_note_26 : decode cX1_note 26 = .ok (.iastore, 1) := by decide +kernel
theorem dX1_note_27 : decode cX1_note 27 = .ok (.aload_n 0, 1) := by decide +kernel
theorem dX1_note_28 : decode cX1_note 28 = .ok (.aload_n 0, 1) := by decide +kernel
theorem dX1_note_29 : decode cX1_note 29 = .ok (.getfield 15, 3) := by decide +kernel
theorem dX1_note_32 : decode cX1_note 32 = .ok (.iload_n 1, 1) := by decide +kernel
theorem dX1_note_33 : decode cX1_note 33 = .ok (.iaload, 1) := by decide +kernel
theorem dX1_note_34 : decode cX1_note 34 = .ok (.iload_n 2, 1) := by decide +kernel
theorem dX1_note_35 : decode cX1_note 35 = .ok (.iload_n 3, 1) := by decide +kernel
theorem dX1_note_36 : decode cX1_note 36 = .ok (.invokevirtual 43, 3) := by decide +kernel
theorem dX1_note_39 : decode cX1_note 39 = .ok (.return_, 1) := by decide +kernel
theorem dX1_list_0 : decode cX1_list 0 = .ok (.aload_n 0, 1) := by decide +kernel
theorem dX1_list_1 : decode cX1_list 1 = .ok (.getfield 47, 3) := by decide +kernel
theorem dX1_list_4 : decode cX1_list 4 = .ok (.ifCond .lt 52, 3) := by decide +kernel
theorem dX1_list_7 : decode cX1_list 7 = .ok (.aload_n 0, 1) := by decide +kernel
theorem dX1_list_8 : decode cX1_list 8 = .ok (.getfield 47, 3) := by decide +kernel
theorem dX1_list_11 : decode cX1_list 11 = .ok (.bipush 10, 2) := by decide +kernel
theorem dX1_list_13 : decode cX1_list 13 = .ok (.if_icmp .ge 43, 3) := by decide +kernel
theorem dX1_list_16 : decode cX1_list 16 = .ok (.aload_n 0, 1) := by decide +kernel
theorem dX1_list_17 : decode cX1_list 17 = .ok (.getfield 22, 3) := by decide +kernel
theorem dX1_list_20 : decode cX1_list 20 = .ok (.aload_n 0, 1) := by decide +kernel
theorem dX1_list_21 : decode cX1_list 21 = .ok (.getfield 47, 3) := by decide +kernel
theorem dX1_list_24 : decode cX1_list 24 = .ok (.iload_n 1, 1) := by decide +kernel
theorem dX1_list_25 : decode cX1_list 25 = .ok (.iastore, 1) := by decide +kernel
theorem dX1_list_26 : decode cX1_list 26 = .ok (.aload_n 0, 1) := by decide +kernel
theorem dX1_list_27 : decode cX1_list 27 = .ok (.getfield 25, 3) := by decide +kernel
theorem dX1_list_30 : decode cX1_list 30 = .ok (.aload_n 0, 1) := by decide +kernel
theorem dX1_list_31 : decode cX1_list 31 = .ok (.getfield 47, 3) := by decide +kernel
theorem dX1_list_34 : decode cX1_list 34 = .ok (.iload_n 2, 1) := by decide +kernel
theorem dX1_list_35 : decode cX1_list 35 = .ok (.iastore, 1) := by decide +kernel
theorem dX1_list_36 : decode cX1_list 36 = .ok (.aload_n 0, 1) := by decide +kernel
theorem dX1_list_37 : decode cX1_list 37 = .ok (.getfield 28, 3) := by decide +kernel
theorem dX1_list_40 : decode cX1_list 40 = .ok (.aload_n 0, 1) := by decide +kernel
theorem dX1_list_41 : decode cX1_list 41 = .ok (.getfield 47, 3) := by decide +kernel
theorem dX1_list_44 : decode cX1_list 44 = .ok (.iload_n 3, 1) := by decide +kernel
theorem dX1_list_45 : decode cX1_list 45 = .ok (.bastore, 1) := by decide +kernel
theorem dX1_list_46 : decode cX1_list 46 = .ok (.aload_n 0, 1) := by decide +kernel
theorem dX1_list_47 : decode cX1_list 47 = .ok (.dup, 1) := by decide +kernel
theorem dX1_list_48 : decode cX1_list 48 = .ok (.getfield 47, 3) := by decide +kernel
theorem dX1_list_51 : decode cX1_list 51 = .ok (.iconst 1, 1) := by decide +kernel
theorem dX1_list_52 : decode cX1_list 52 = .ok (.iadd, 1) := by decide +kernel
theorem dX1_list_53 : decode cX1_list 53 = .ok (.putfield 47, 3) := by decide +kernel
theorem dX1_list_56 : decode cX1_list 56 = .ok (.return_, 1) := by decide +kernel
theorem dX1_leaveOutConflicts_0 : decode cX1_leaveOutConflicts 0 = .ok (.aload_n 0, 1) := by decide +kernel
theorem dX1_leaveOutConflicts_1 : decode cX1_leaveOutConflicts 1 = .ok (.getfield 47, 3) := by decide +kernel
theorem dX1_leaveOutConflicts_4 : decode cX1_leaveOutConflicts 4 = .ok (.istore_n 2, 1) := by decide +kernel
theorem dX1_leaveOutConflicts_5 : decode cX1_leaveOutConflicts 5 = .ok (.aload_n 0, 1) := by decide +kernel
theorem dX1_leaveOutConflicts_6 : decode cX1_leaveOutConflicts 6 = .ok (.iconst 0, 1) := by decide +kernel
theorem dX1_leaveOutConflicts_7 : decode cX1_leaveOutConflicts 7 = .ok (.putfield 47, 3) := by decide +kernel
theorem dX1_leaveOutConflicts_10 : decode cX1_leaveOutConflicts 10 = .ok (.iconst 0, 1) := by decide +kernel
theorem dX1_leaveOutConflicts_11 : decode cX1_leaveOutConflicts 11 = .ok (.istore_n 3, 1) := by decide +kernel
theorem dX1_leaveOutConflicts_12 : decode cX1_leaveOutConflicts 12 = .ok (.iload_n 3, 1) := by decide +kernel
theorem dX1_leaveOutConflicts_13 : decode cX1_leaveOutConflicts 13 = .ok (.iload_n 2, 1) := by decide +kernel
theorem dX1_leaveOutConflicts_14 : decode cX1_leaveOutConflicts 14 = .ok (.if_icmp .ge 63, 3) := by decide +kernel
theorem dX1_leaveOutConflicts_17 : decode cX1_leaveOutConflicts 17 = .ok (.iload_n 3, 1) := by decide +kernel
theorem dX1_leaveOutConflicts_18 : decode cX1_leaveOutConflicts 18 = .ok (.bipush 10, 2) := by decide +kernel
theorem dX1_leaveOutConflicts_20 : decode cX1_leaveOutConflicts 20 = .ok (.if_icmp .ge 57, 3) := by decide +kernel
theorem dX1_leaveOutConflicts_23 : decode cX1_leaveOutConflicts 23 = .ok (.aload_n 0, 1) := by decide +kernel
theorem dX1_leaveOutConflicts_24 : decode cX1_leaveOutConflicts 24 = .ok (.aload_n 1, 1) := by decide +kernel
theorem dX1_leaveOutConflicts_25 : decode cX1_leaveOutConflicts 25 = .ok (.aload_n 0, 1) := by decide +kernel
theorem dX1_leaveOutConflicts_26 : decode cX1_leaveOutConflicts 26 = .ok (.getfield 22, 3) := by decide +kernel
theorem dX1_leaveOutConflicts_29 : decode cX1_leaveOutConflicts 29 = .ok (.iload_n 3, 1) := by decide +kernel
theorem dX1_leaveOutConflicts_30 : decode cX1_leaveOutConflicts 30 = .ok (.iaload, 1) := by decide +kernel
theorem dX1_leaveOutConflicts_31 : decode cX1_leaveOutConflicts 31 = .ok (.aload_n 0, 1) := by decide +kernel
theorem dX1_leaveOutConflicts_32 : decode cX1_leaveOutConflicts 32 = .ok (.getfield 25, 3) := by decide +kernel
theorem dX1_leaveOutConflicts_35 : decode cX1_leaveOutConflicts 35 = .ok (.iload_n 3, 1) := by decide +kernel
theorem dX1_leaveOutConflicts_36 : decode cX1_leaveOutConflicts 36 = .ok (.iaload, 1) := by decide +kernel
theorem dX1_leaveOutConflicts_37 : decode cX1_leaveOutConflicts 37 = .ok (.aload_n 0, 1) := by decide +kernel
theorem dX1_leaveOutConflicts_38 : decode cX1_leaveOutConflicts 38 = .ok (.getfield 28, 3) := by decide +kernel
theorem dX1_leaveOutConflicts_41 : decode cX1_leaveOutConflicts 41 = .ok (.iload_n 3, 1) := by decide +kernel
theorem dX1_leaveOutConflicts_42 : decode cX1_leaveOutConflicts 42 = .ok (.baload, 1) := by decide +kernel
theorem dX1_leaveOutConflicts_43 : decode cX1_leaveOutConflicts 43 = .ok (.invokevirtual 50, 3) := by decide +kernel
theorem dX1_leaveOutConflicts_46 : decode cX1_leaveOutConflicts 46 = .ok (.ifCond .ne 25, 3) := by decide +kernel
theorem dX1_leaveOutConflicts_49 : decode cX1_leaveOutConflicts 49 = .ok (.aload_n 0, 1) := by decide +kernel
theorem dX1_leaveOutConflicts_50 : decode cX1_leaveOutConflicts 50 = .ok (.aload_n 0, 1) := by decide +kernel
theorem dX1_leaveOutConflicts_51 : decode cX1_leaveOutConflicts 51 = .ok (.getfield 22, 3) := by decide +kernel
theorem dX1_leaveOutConflicts_54 : decode cX1_leaveOutConflicts 54 = .ok (.iload_n 3, 1) := by decide +kernel
theorem dX1_leaveOutConflicts_55 : decode cX1_leaveOutConflicts 55 = .ok (.iaload, 1) := by decide +kernel
theorem dX1_leaveOutConflicts_56 : decode cX1_leaveOutConflicts 56 = .ok (.aload_n 0, 1) := by decide +kernel
theorem dX1_leaveOutConflicts_57 : decode cX1_leaveOutConflicts 57 = .ok (.getfield 25, 3) := by decide +kernel
theorem dX1_leaveOutConflicts_60 : decode cX1_leaveOutConflicts 60 = .ok (.iload_n 3, 1) := by decide +kernel
theorem dX1_leaveOutConflicts_61 : decode cX1_leaveOutConflicts 61 = .ok (.iaload, 1) := by decide +kernel
theorem dX1_leaveOutConflicts_62 : decode cX1_leaveOutConflicts 62 = .ok (.aload_n 0, 1) := by decide +kernel
theorem dX1_leaveOutConflicts_63 : decode cX1_leaveOutConflicts 63 = .ok (.getfield 28, 3) := by decide +kernel
theorem dX1_leaveOutConflicts_66 : decode cX1_leaveOutConflicts 66 = .ok (.iload_n 3, 1) := by decide +kernel
theorem dX1_leaveOutConflicts_67 : decode cX1_leaveOutConflicts 67 = .ok (.baload, 1) := by decide +kernel
theorem dX1_leaveOutConflicts_68 : decode cX1_leaveOutConflicts 68 = .ok (.invokevirtual 43, 3) := by decide +kernel
theorem dX1_leaveOutConflicts_71 : decode cX1_leaveOutConflicts 71 = .ok (.iinc 3 1, 3) := by decide +kernel
theorem dX1_leaveOutConflicts_74 : decode cX1_leaveOutConflicts 74 = .ok (.goto (-62), 3) := by decide +kernel
theorem dX1_leaveOutConflicts_77 : decode cX1_leaveOutConflicts 77 = .ok (.iload_n 2, 1) := by decide +kernel
theorem dX1_leaveOutConflicts_78 : decode cX1_leaveOutConflicts 78 = .ok (.aload_n 0, 1) := by decide +kernel
theorem dX1_leaveOutConflicts_79 : decode cX1_leaveOutConflicts 79 = .ok (.getfield 47, 3) := by decide +kernel
theorem dX1_leaveOutConflicts_82 : decode cX1_leaveOutConflicts 82 = .ok (.isub, 1) := by decide +kernel
theorem dX1_leaveOutConflicts_83 : decode cX1_leaveOutConflicts 83 = .ok (.ireturn, 1) := by decide +kernel
theorem dX1_isConflict_0 : decode cX1_isConflict 0 = .ok (.aload_n 1, 1) := by decide +kernel
theorem dX1_isConflict_1 : decode cX1_isConflict 1 = .ok (.iload_n 2, 1) := by decide +kernel
theorem dX1_isConflict_2 : decode cX1_isConflict 2 = .ok (.invokevirtual 54, 3) := by decide +kernel
theorem dX1_isConflict_5 : decode cX1_isConflict 5 = .ok (.ifCond .ne 5, 3) := by decide +kernel
theorem dX1_isConflict_8 : decode cX1_isConflict 8 = .ok (.iconst 1, 1) := by decide +kernel
theorem dX1_isConflict_9 : decode cX1_isConflict 9 = .ok (.ireturn, 1) := by decide +kernel
theorem dX1_isConflict_10 : decode cX1_isConflict 10 = .ok (.aload_n 1, 1) := by decide +kernel
theorem dX1_isConflict_11 : decode cX1_isConflict 11 = .ok (.getfield 59, 3) := by decide +kernel
theorem dX1_isConflict_14 : decode cX1_isConflict 14 = .ok (.astore 5, 2) := by decide +kernel
theorem dX1_isConflict_16 : decode cX1_isConflict 16 = .ok (.aload 5, 2) := by decide +kernel
theorem dX1_isConflict_18 : decode cX1_isConflict 18 = .ok (.aload_n 0, 1) := by decide +kernel
theorem dX1_isConflict_19 : decode cX1_isConflict 19 = .ok (.getfield 63, 3) := by decide +kernel
theorem dX1_isConflict_22 : decode cX1_isConflict 22 = .ok (.invokevirtual 66, 3) := by decide +kernel
theorem dX1_isConflict_25 : decode cX1_isConflict 25 = .ok (.ifCond .eq 23, 3) := by decide +kernel
theorem dX1_isConflict_28 : decode cX1_isConflict 28 = .ok (.aload 5, 2) := by decide +kernel
theorem dX1_isConflict_30 : decode cX1_isConflict 30 = .ok (.aload_n 0, 1) := by decide +kernel
theorem dX1_isConflict_31 : decode cX1_isConflict 31 = .ok (.getfield 63, 3) := by decide +kernel
theorem dX1_isConflict_34 : decode cX1_isConflict 34 = .ok (.iload_n 2, 1) := by decide +kernel
theorem dX1_isConflict_35 : decode cX1_isConflict 35 = .ok (.iload_n 3, 1) := by decide +kernel
theorem dX1_isConflict_36 : decode cX1_isConflict 36 = .ok (.iload 4, 2) := by decide +kernel
theorem dX1_isConflict_38 : decode cX1_isConflict 38 = .ok (.invokevirtual 71, 3) := by decide +kernel
theorem dX1_isConflict_41 : decode cX1_isConflict 41 = .ok (.ifCond .eq 7, 3) := by decide +kernel
theorem dX1_isConflict_44 : decode cX1_isConflict 44 = .ok (.iconst 1, 1) := by decide +kernel
theorem dX1_isConflict_45 : decode cX1_isConflict 45 = .ok (.goto 4, 3) := by decide +kernel
theorem dX1_isConflict_48 : decode cX1_isConflict 48 = .ok (.iconst 0, 1) := by decide +kernel
theorem dX1_isConflict_49 : decode cX1_isConflict 49 = .ok (.ireturn, 1) := by decide +kernel
theorem dX1_replay_0 : decode cX1_replay 0 = .ok (.iconst 0, 1) := by decide +kernel
theorem dX1_replay_1 : decode cX1_replay 1 = .ok (.istore_n 2, 1) := by decide +kernel
theorem dX1_replay_2 : decode cX1_replay 2 = .ok (.iload_n 2, 1) := by decide +kernel
theorem dX1_replay_3 : decode cX1_replay 3 = .ok (.aload_n 0, 1) := by decide +kernel
theorem dX1_replay_4 : decode cX1_replay 4 = .ok (.getfield 47, 3) := by decide +kernel
theorem dX1_replay_7 : decode cX1_replay 7 = .ok (.if_icmp .ge 38, 3) := by decide +kernel
theorem dX1_replay_10 : decode cX1_replay 10 = .ok (.iload_n 2, 1) := by decide +kernel
theorem dX1_replay_11 : decode cX1_replay 11 = .ok (.bipush 10, 2) := by decide +kernel
theorem dX1_replay_13 : decode cX1_replay 13 = .ok (.if_icmp .ge 32, 3) := by decide +kernel
theorem dX1_replay_16 : decode cX1_replay 16 = .ok (.aload_n 1, 1) := by decide +kernel
theorem dX1_replay_17 : decode cX1_replay 17 = .ok (.aload_n 0, 1) := by decide +kernel
theorem dX1_replay_18 : decode cX1_replay 18 = .ok (.getfield 22, 3) := by decide +kernel
theorem dX1_replay_21 : decode cX1_replay 21 = .ok (.iload_n 2, 1) := by decide +kernel
theorem dX1_replay_22 : decode cX1_replay 22 = .ok (.iaload, 1) := by decide +kernel
theorem dX1_replay_23 : decode cX1_replay 23 = .ok (.aload_n 0, 1) := by decide +kernel
theorem dX1_replay_24 : decode cX1_replay 24 = .ok (.getfield 25, 3) := by decide +kernel
theorem dX1_replay_27 : decode cX1_replay 27 = .ok (.iload_n 2, 1) := by decide +kernel
theorem dX1_replay_28 : decode cX1_replay 28 = .ok (.iaload, 1) := by decide +kernel
theorem dX1_replay_29 : decode cX1_replay 29 = .ok (.aload_n 0, 1) := by decide +kernel
theorem dX1_replay_30 : decode cX1_replay 30 = .ok (.getfield 28, 3) := by decide +kernel
theorem dX1_replay_33 : decode cX1_replay 33 = .ok (.iload_n 2, 1) := by decide +kernel
theorem dX1_replay_34 : decode cX1_replay 34 = .ok (.baload, 1) := by decide +kernel
theorem dX1_replay_35 : decode cX1_replay 35 = .ok (.invokevirtual 75, 3) := by decide +kernel
theorem dX1_replay_38 : decode cX1_replay 38 = .ok (.pop, 1) := by decide +kernel
theorem dX1_replay_39 : decode cX1_replay 39 = .ok (.iinc 2 1, 3) := by decide +kernel
theorem dX1_replay_42 : decode cX1_replay 42 = .ok (.goto (-40), 3) := by decide +kernel
theorem dX1_replay_45 : decode cX1_replay 45 = .ok (.aload_n 0, 1) := by decide +kernel
theorem dX1_replay_46 : decode cX1_replay 46 = .ok (.iconst 0, 1) := by decide +kernel
theorem dX1_replay_47 : decode cX1_replay 47 = .ok (.putfield 47, 3) := by decide +kernel
theorem dX1_replay_50 : decode cX1_replay 50 = .ok (.return_, 1) := by decide +kernel
theorem dX1_load_0 : decode cX1_load 0 = .ok (.aload_n 0, 1) := by decide +kernel
theorem dX1_load_1 : decode cX1_load 1 = .ok (.aload_n 1, 1) := by decide +kernel
theorem dX1_load_2 : decode cX1_load 2 = .ok (.getfield 59, 3) := by decide +kernel
theorem dX1_load_5 : decode cX1_load 5 = .ok (.getfield 79, 3) := by decide +kernel
theorem dX1_load_8 : decode cX1_load 8 = .ok (.putfield 63, 3) := by decide +kernel
theorem dX1_load_11 : decode cX1_load 11 = .ok (.aload_n 1, 1) := by decide +kernel
theorem dX1_load_12 : decode cX1_load 12 = .ok (.iconst 1, 1) := by decide +kernel
theorem dX1_load_13 : decode cX1_load 13 = .ok (.aload_n 0, 1) := by decide +kernel
theorem dX1_load_14 : decode cX1_load 14 = .ok (.getfield 82, 3) := by decide +kernel
theorem dX1_load_17 : decode cX1_load 17 = .ok (.ishl, 1) := by decide +kernel
theorem dX1_load_18 : decode cX1_load 18 = .ok (.iconst 0, 1) := by decide +kernel
theorem dX1_load_19 : decode cX1_load 19 = .ok (.invokevirtual 85, 3) := by decide +kernel
theorem dX1_load_22 : decode cX1_load 22 = .ok (.lstore_n 2, 1) := by decide +kernel
theorem dX1_load_23 : decode cX1_load 23 = .ok (.aload_n 0, 1) := by decide +kernel
theorem dX1_load_24 : decode cX1_load 24 = .ok (.aload_n 0, 1) := by decide +kernel
theorem dX1_load_25 : decode cX1_load 25 = .ok (.getfield 9, 3) := by decide +kernel
theorem dX1_load_28 : decode cX1_load 28 = .ok (.lload_n 2, 1) := by decide +kernel
theorem dX1_load_29 : decode cX1_load 29 = .ok (.invokestatic 89, 3) := by decide +kernel
theorem dX1_load_32 : decode cX1_load 32 = .ok (.invokestatic 95, 3) := by decide +kernel
theorem dX1_load_35 : decode cX1_load 35 = .ok (.putfield 32, 3) := by decide +kernel
theorem dX1_load_38 : decode cX1_load 38 = .ok (.iconst 0, 1) := by decide +kernel
theorem dX1_load_39 : decode cX1_load 39 = .ok (.istore 4, 2) := by decide +kernel
theorem dX1_load_41 : decode cX1_load 41 = .ok (.iload 4, 2) := by decide +kernel
theorem dX1_load_43 : decode cX1_load 43 = .ok (.aload_n 0, 1) := by decide +kernel
theorem dX1_load_44 : decode cX1_load 44 = .ok (.getfield 32, 3) := by decide +kernel
theorem dX1_load_47 : decode cX1_load 47 = .ok (.if_icmp .ge 47, 3) := by decide +kernel
theorem dX1_load_50 : decode cX1_load 50 = .ok (.iload 4, 2) := by decide +kernel
theorem dX1_load_52 : decode cX1_load 52 = .ok (.bipush 10, 2) := by decide +kernel
theorem dX1_load_54 : decode cX1_load 54 = .ok (.if_icmp .ge 40, 3) := by decide +kernel
theorem dX1_load_57 : decode cX1_load 57 = .ok (.aload_n 1, 1) := by decide +kernel
theorem dX1_load_58 : decode cX1_load 58 = .ok (.lload_n 2, 1) := by decide +kernel
theorem dX1_load_59 : decode cX1_load 59 = .ok (.iload 4, 2) := by decide +kernel
theorem dX1_load_61 : decode cX1_load 61 = .ok (.invokevirtual 101, 3) := by decide +kernel
theorem dX1_load_64 : decode cX1_load 64 = .ok (.istore 5, 2) := by decide +kernel
theorem dX1_load_66 : decode cX1_load 66 = .ok (.aload_n 0, 1) := by decide +kernel
theorem dX1_load_67 : decode cX1_load 67 = .ok (.getfield 15, 3) := by decide +kernel
theorem dX1_load_70 : decode cX1_load 70 = .ok (.iload 4, 2) := by decide +kernel
theorem dX1_load_72 : decode cX1_load 72 = .ok (.iload 5, 2) := by decide +kernel
theorem dX1_load_74 : decode cX1_load 74 = .ok (.iastore, 1) := by decide +kernel
theorem dX1_load_75 : decode cX1_load 75 = .ok (.aload_n 0, 1) := by decide +kernel
theorem dX1_load_76 : decode cX1_load 76 = .ok (.getfield 19, 3) := by decide +kernel
theorem dX1_load_79 : decode cX1_load 79 = .ok (.iload 4, 2) := by decide +kernel
theorem dX1_load_81 : decode cX1_load 81 = .ok (.aload_n 1, 1) := by decide +kernel
theorem dX1_load_82 : decode cX1_load 82 = .ok (.iload 5, 2) := by decide +kernel
theorem dX1_load_84 : decode cX1_load 84 = .ok (.invokevirtual 105, 3) := by decide +kernel
theorem dX1_load_87 : decode cX1_load 87 = .ok (.iastore, 1) := by decide +kernel
theorem dX1_load_88 : decode cX1_load 88 = .ok (.iinc 4 1, 3) := by decide +kernel
theorem dX1_load_91 : decode cX1_load 91 = .ok (.goto (-50), 3) := by decide +kernel
theorem dX1_load_94 : decode cX1_load 94 = .ok (.return_, 1) := by decide +kernel
theorem dX2_init_0 : decode cX2_init 0 = .ok (.aload_n 0, 1) := by decide +kernel
theorem dX2_init_1 : decode cX2_init 1 = .ok (.invokespecial 3, 3) := by decide +kernel
theorem dX2_init_4 : decode cX2_init 4 = .ok (.aload_n 0, 1) := by decide +kernel
theorem dX2_init_5 : decode cX2_init 5 = .ok (.bipush 60, 2) := by decide +kernel
theorem dX2_init_7 : decode cX2_init 7 = .ok (.newarray .int, 2) := by decide +kernel
theorem dX2_init_9 : decode cX2_init 9 = .ok (.putfield 9, 3) := by decide +kernel
theorem dX2_init_12 : decode cX2_init 12 = .ok (.aload_n 0, 1) := by decide +kernel
theorem dX2_init_13 : decode cX2_init 13 = .ok (.bipush 60, 2) := by decide +kernel
theorem dX2_init_15 : decode cX2_init 15 = .ok (.newarray .int, 2) := by decide +kernel
theorem dX2_init_17 : decode cX2_init 17 = .ok (.putfield 15, 3) := by decide +kernel
theorem dX2_init_20 : decode cX2_init 20 = .ok (.aload_n 0, 1) := by decide +kernel
theorem dX2_init_21 : decode cX2_init 21 = .ok (.bipush 60, 2) := by decide +kernel
theorem dX2_init_23 : decode cX2_init 23 = .ok (.newarray .int, 2) := by decide +kernel
theorem dX2_init_25 : decode cX2_init 25 = .ok (.putfield 18, 3) := by decide +kernel
theorem dX2_init_28 : decode cX2_init 28 = .ok (.aload_n 0, 1) := by decide +kernel
theorem dX2_init_29 : decode cX2_init 29 = .ok (.bipush 60, 2) := by decide +kernel
theorem dX2_init_31 : decode cX2_init 31 = .ok (.newarray .int, 2) := by decide +kernel
theorem dX2_init_33 : decode cX2_init 33 = .ok (.putfield 21, 3) := by decide +kernel
theorem dX2_init_36 : decode cX2_init 36 = .ok (.aload_n 0, 1) := by decide +kernel
theorem dX2_init_37 : decode cX2_init 37 = .ok (.bipush 60, 2) := by decide +kernel
theorem dX2_init_39 : decode cX2_init 39 = .ok (.newarray .int, 2) := by decide +kernel
theorem dX2_init_41 : decode cX2_init 41 = .ok (.putfield 24, 3) := by decide +kernel
theorem dX2_init_44 : decode cX2_init 44 = .ok (.aload_n 0, 1) := by decide +kernel
theorem dX2_init_45 : decode cX2_init 45 = .ok (.new 27, 3) := by decide +kernel
theorem dX2_init_48 : decode cX2_init 48 = .ok (.dup, 1) := by decide +kernel
theorem dX2_init_49 : decode cX2_init 49 = .ok (.invokespecial 29, 3) := by decide +kernel
theorem dX2_init_52 : decode cX2_init 52 = .ok (.putfield 30, 3) := by decide +kernel
theorem dX2_init_55 : decode cX2_init 55 = .ok (.return_, 1) := by decide +kernel
theorem dX2_boxesOf_0 : decode cX2_boxesOf 0 = .ok (.iload_n 1, 1) := by decide +kernel
theorem dX2_boxesOf_1 : decode cX2_boxesOf 1 = .ok (.iconst 0, 1) := by decide +kernel
theorem dX2_boxesOf_2 : decode cX2_boxesOf 2 = .ok (.bipush 59, 2) := by decide +kernel
theorem dX2_boxesOf_4 : decode cX2_boxesOf 4 = .ok (.invokestatic 34, 3) := by decide +kernel
theorem dX2_boxesOf_7 : decode cX2_boxesOf 7 = .ok (.ifCond .eq 12, 3) := by decide +kernel
theorem dX2_boxesOf_10 : decode cX2_boxesOf 10 = .ok (.aload_n 0, 1) := by decide +kernel
theorem dX2_boxesOf_11 : decode cX2_boxesOf 11 = .ok (.getfield 18, 3) := by decide +kernel
theorem dX2_boxesOf_14 : decode cX2_boxesOf 14 = .ok (.iload_n 1, 1) := by decide +kernel
theorem dX2_boxesOf_15 : decode cX2_boxesOf 15 = .ok (.iaload, 1) := by decide +kernel
theorem dX2_boxesOf_16 : decode cX2_boxesOf 16 = .ok (.goto 4, 3) := by decide +kernel
theorem dX2_boxesOf_19 : decode cX2_boxesOf 19 = .ok (.iconst 0, 1) := by decide +kernel
theorem dX2_boxesOf_20 : decode cX2_boxesOf 20 = .ok (.ireturn, 1) := by decide +kernel
theorem dX2_keywordsOf_0 : decode cX2_keywordsOf 0 = .ok (.iload_n 1, 1) := by decide +kernel
theorem dX2_keywordsOf_1 : decode cX2_keywordsOf 1 = .ok (.iconst 0, 1) := by decide +kernel
theorem dX2_keywordsOf_2 : decode cX2_keywordsOf 2 = .ok (.bipush 59, 2) := by decide +kernel
theorem dX2_keywordsOf_4 : decode cX2_keywordsOf 4 = .ok (.invokestatic 34, 3) := by decide +kernel
theorem dX2_keywordsOf_7 : decode cX2_keywordsOf 7 = .ok (.ifCond .eq 12, 3) := by decide +kernel
theorem dX2_keywordsOf_10 : decode cX2_keywordsOf 10 = .ok (.aload_n 0, 1) := by decide +kernel
theorem dX2_keywordsOf_11 : decode cX2_keywordsOf 11 = .ok (.getfield 21, 3) := by decide +kernel
theorem dX2_keywordsOf_14 : decode cX2_keywordsOf 14 = .ok (.iload_n 1, 1) := by decide +kernel
theorem dX2_keywordsOf_15 : decode cX2_keywordsOf 15 = .ok (.iaload, 1) := by decide +kernel
theorem dX2_keywordsOf_16 : decode cX2_keywordsOf 16 = .ok (.goto 4, 3) := by decide +kernel
theorem dX2_keywordsOf_19 : decode cX2_keywordsOf 19 = .ok (.iconst 0, 1) := by decide +kernel
theorem dX2_keywordsOf_20 : decode cX2_keywordsOf 20 = .ok (.ireturn, 1) := by decide +kernel
theorem dX2_timeOf_0 : decode cX2_timeOf 0 = .ok (.iload_n 1, 1) := by decide +kernel
theorem dX2_timeOf_1 : decode cX2_timeOf 1 = .ok (.iconst 0, 1) := by decide +kernel
theorem dX2_timeOf_2 : decode cX2_timeOf 2 = .ok (.bipush 59, 2) := by decide +kernel
theorem dX2_timeOf_4 : decode cX2_timeOf 4 = .ok (.invokestatic 34, 3) := by decide +kernel
theorem dX2_timeOf_7 : decode cX2_timeOf 7 = .ok (.ifCond .eq 12, 3) := by decide +kernel
theorem dX2_timeOf_10 : decode cX2_timeOf 10 = .ok (.aload_n 0, 1) := by decide +kernel
theorem dX2_timeOf_11 : decode cX2_timeOf 11 = .ok (.getfield 9, 3) := by decide +kernel
theorem dX2_timeOf_14 : decode cX2_timeOf 14 = .ok (.iload_n 1, 1) := by decide +kernel
theorem dX2_timeOf_15 : decode cX2_timeOf 15 = .ok (.iaload, 1) := by decide +kernel
theorem dX2_timeOf_16 : decode cX2_timeOf 16 = .ok (.goto 4, 3) := by decide +kernel
theorem dX2_timeOf_19 : decode cX2_timeOf 19 = .ok (.iconst 0, 1) := by decide +kernel
theorem dX2_timeOf_20 : decode cX2_timeOf 20 = .ok (.ireturn, 1) := by decide +kernel
theorem dX2_isThere_0 : decode cX2_isThere 0 = .ok (.aload_n 0, 1) := by decide +kernel
theorem dX2_isThere_1 : decode cX2_isThere 1 = .ok (.iload_n 1, 1) := by decide +kernel
theorem dX2_isThere_2 : decode cX2_isThere 2 = .ok (.invokevirtual 38, 3) := by decide +kernel
theorem dX2_isThere_5 : decode cX2_isThere 5 = .ok (.ifCond .eq 7, 3) := by decide +kernel
theorem dX2_isThere_8 : decode cX2_isThere 8 = .ok (.iconst 1, 1) := by decide +kernel
theorem dX2_isThere_9 : decode cX2_isThere 9 = .ok (.goto 4, 3) := by decide +kernel
theorem dX2_isThere_12 : decode cX2_isThere 12 = .ok (.iconst 0, 1) := by decide +kernel
theorem dX2_isThere_13 : decode cX2_isThere 13 = .ok (.ireturn, 1) := by decide +kernel
theorem dX2_letCome_0 : decode cX2_letCome 0 = .ok (.aload_n 0, 1) := by decide +kernel
theorem dX2_letCome_1 : decode cX2_letCome 1 = .ok (.getfield 42, 3) := by decide +kernel
theorem dX2_letCome_4 : decode cX2_letCome 4 = .ok (.istore 4, 2) := by decide +kernel
theorem dX2_letCome_6 : decode cX2_letCome 6 = .ok (.iload 4, 2) := by decide +kernel
theorem dX2_letCome_8 : decode cX2_letCome 8 = .ok (.ifCond .lt 52, 3) := by decide +kernel
theorem dX2_letCome_11 : decode cX2_letCome 11 = .ok (.iload 4, 2) := by decide +kernel
theorem dX2_letCome_13 : decode cX2_letCome 13 = .ok (.bipush 60, 2) := by decide +kernel
theorem dX2_letCome_15 : decode cX2_letCome 15 = .ok (.if_icmp .ge 45, 3) := by decide +kernel
theorem dX2_letCome_18 : decode cX2_letCome 18 = .ok (.aload_n 0, 1) := by decide +kernel
theorem dX2_letCome_19 : decode cX2_letCome 19 = .ok (.getfield 9, 3) := by decide +kernel
theorem dX2_letCome_22 : decode cX2_letCome 22 = .ok (.iload 4, 2) := by decide +kernel
theorem dX2_letCome_24 : decode cX2_letCome 24 = .ok (.iload_n 1, 1) := by decide +kernel
theorem dX2_letCome_25 : decode cX2_letCome 25 = .ok (.iastore, 1) := by decide +kernel
theorem dX2_letCome_26 : decode cX2_letCome 26 = .ok (.aload_n 0, 1) := by decide +kernel
theorem dX2_letCome_27 : decode cX2_letCome 27 = .ok (.getfield 15, 3) := by decide +kernel
theorem dX2_letCome_30 : decode cX2_letCome 30 = .ok (.iload 4, 2) := by decide +kernel
theorem dX2_letCome_32 : decode cX2_letCome 32 = .ok (.iload_n 3, 1) := by decide +kernel
theorem dX2_letCome_33 : decode cX2_letCome 33 = .ok (.iastore, 1) := by decide +kernel
theorem dX2_letCome_34 : decode cX2_letCome 34 = .ok (.aload_n 0, 1) := by decide +kernel
theorem dX2_letCome_35 : decode cX2_letCome 35 = .ok (.iload 4, 2) := by decide +kernel
theorem dX2_letCome_37 : decode cX2_letCome 37 = .ok (.iload_n 1, 1) := by decide +kernel
theorem dX2_letCome_38 : decode cX2_letCome 38 = .ok (.invokevirtual 46, 3) := by decide +kernel
theorem dX2_letCome_41 : decode cX2_letCome 41 = .ok (.aload_n 0, 1) := by decide +kernel
theorem dX2_letCome_42 : decode cX2_letCome 42 = .ok (.dup, 1) := by decide +kernel
theorem dX2_letCome_43 : decode cX2_letCome 43 = .ok (.getfield 42, 3) := by decide +kernel
theorem dX2_letCome_46 : decode cX2_letCome 46 = .ok (.iconst 1, 1) := by decide +kernel
theorem dX2_letCome_47 : decode cX2_letCome 47 = .ok (.iadd, 1) := by decide +kernel
theorem dX2_letCome_48 : decode cX2_letCome 48 = .ok (.putfield 42, 3) := by decide +kernel
theorem dX2_letCome_51 : decode cX2_letCome 51 = .ok (.aload_n 0, 1) := by decide +kernel
theorem dX2_letCome_52 : decode cX2_letCome 52 = .ok (.iload 4, 2) := by decide +kernel
theorem dX2_letCome_54 : decode cX2_letCome 54 = .ok (.iload_n 2, 1) := by decide +kernel
theorem dX2_letCome_55 : decode cX2_letCome 55 = .ok (.iconst 0, 1) := by decide +kernel
theorem dX2_letCome_56 : decode cX2_letCome 56 = .ok (.invokevirtual 50, 3) := by decide +kernel
theorem dX2_letCome_59 : decode cX2_letCome 59 = .ok (.pop, 1) := by decide +kernel
theorem dX2_letCome_60 : decode cX2_letCome 60 = .ok (.iload 4, 2) := by decide +kernel
theorem dX2_letCome_62 : decode cX2_letCome 62 = .ok (.ireturn, 1) := by decide +kernel
theorem dX2_putInOrder_0 : decode cX2_putInOrder 0 = .ok (.aload_n 0, 1) := by decide +kernel
theorem dX2_putInOrder_1 : decode cX2_putInOrder 1 = .ok (.getfield 42, 3) := by decide +kernel
theorem dX2_putInOrder_4 : decode cX2_putInOrder 4 = .ok (.bipush 59, 2) := by decide +kernel
theorem dX2_putInOrder_6 : decode cX2_putInOrder 6 = .ok (.invokestatic 53, 3) := by decide +kernel
theorem dX2_putInOrder_9 : decode cX2_putInOrder 9 = .ok (.istore_n 3, 1) := by decide +kernel
theorem dX2_putInOrder_10 : decode cX2_putInOrder 10 = .ok (.iload_n 3, 1) := by decide +kernel
theorem dX2_putInOrder_11 : decode cX2_putInOrder 11 = .ok (.ifCond .le 39, 3) := by decide +kernel
theorem dX2_putInOrder_14 : decode cX2_putInOrder 14 = .ok (.aload_n 0, 1) := by decide +kernel
theorem dX2_putInOrder_15 : decode cX2_putInOrder 15 = .ok (.aload_n 0, 1) := by decide +kernel
theorem dX2_putInOrder_16 : decode cX2_putInOrder 16 = .ok (.getfield 24, 3) := by decide +kernel
theorem dX2_putInOrder_19 : decode cX2_putInOrder 19 = .ok (.iload_n 3, 1) := by decide +kernel
theorem dX2_putInOrder_20 : decode cX2_putInOrder 20 = .ok (.iconst 1, 1) := by decide +kernel
theorem dX2_putInOrder_21 : decode cX2_putInOrder 21 = .ok (.isub, 1) := by decide +kernel
theorem dX2_putInOrder_22 : decode cX2_putInOrder 22 = .ok (.iaload, 1) := by decide +kernel
theorem dX2_putInOrder_23 : decode cX2_putInOrder 23 = .ok (.invokevirtual 59, 3) := by decide +kernel
theorem dX2_putInOrder_26 : decode cX2_putInOrder 26 = .ok (.iload_n 2, 1) := by decide +kernel
theorem dX2_putInOrder_27 : decode cX2_putInOrder 27 = .ok (.if_icmp .gt 23, 3) := by decide +kernel
theorem dX2_putInOrder_30 : decode cX2_putInOrder 30 = .ok (.aload_n 0, 1) := by decide +kernel
theorem dX2_putInOrder_31 : decode cX2_putInOrder 31 = .ok (.getfield 24, 3) := by decide +kernel
theorem dX2_putInOrder_34 : decode cX2_putInOrder 34 = .ok (.iload_n 3, 1) := by decide +kernel
theorem dX2_putInOrder_35 : decode cX2_putInOrder 35 = .ok (.aload_n 0, 1) := by decide +kernel
theorem dX2_putInOrder_36 : decode cX2_putInOrder 36 = .ok (.getfield 24, 3) := by decide +kernel
theorem dX2_putInOrder_39 : decode cX2_putInOrder 39 = .ok (.iload_n 3, 1) := by decide +kernel
theorem dX2_putInOrder_40 : decode cX2_putInOrder 40 = .ok (.iconst 1, 1) := by decide +kernel
theorem dX2_putInOrder_41 : decode cX2_putInOrder 41 = .ok (.isub, 1) := by decide +kernel
theorem dX2_putInOrder_42 : decode cX2_putInOrder 42 = .ok (.iaload, 1) := by decide +kernel
theorem dX2_putInOrder_43 : decode cX2_putInOrder 43 = .ok (.iastore, 1) := by decide +kernel
theorem dX2_putInOrder_44 : decode cX2_putInOrder 44 = .ok (.iinc 3 (-1), 3) := by decide +kernel
theorem dX2_putInOrder_47 : decode cX2_putInOrder 47 = .ok (.goto (-37), 3) := by decide +kernel
theorem dX2_putInOrder_50 : decode cX2_putInOrder 50 = .ok (.aload_n 0, 1) := by decide +kernel
theorem dX2_putInOrder_51 : decode cX2_putInOrder 51 = .ok (.getfield 24, 3) := by decide +kernel
theorem dX2_putInOrder_54 : decode cX2_putInOrder 54 = .ok (.iload_n 3, 1) := by decide +kernel
theorem dX2_putInOrder_55 : decode cX2_putInOrder 55 = .ok (.iload_n 1, 1) := by decide +kernel
theorem dX2_putInOrder_56 : decode cX2_putInOrder 56 = .ok (.iastore, 1) := by decide +kernel
theorem dX2_putInOrder_57 : decode cX2_putInOrder 57 = .ok (.return_, 1) := by decide +kernel
theorem dX2_setKeyword_0 : decode cX2_setKeyword 0 = .ok (.aload_n 0, 1) := by decide +kernel
theorem dX2_setKeyword_1 : decode cX2_setKeyword 1 = .ok (.iload_n 1, 1) := by decide +kernel
theorem dX2_setKeyword_2 : decode cX2_setKeyword 2 = .ok (.aload_n 0, 1) := by decide +kernel
theorem dX2_setKeyword_3 : decode cX2_setKeyword 3 = .ok (.iload_n 1, 1) := by decide +kernel
theorem dX2_setKeyword_4 : decode cX2_setKeyword 4 = .ok (.invokevirtual 38, 3) := by decide +kernel
theorem dX2_setKeyword_7 : decode cX2_setKeyword 7 = .ok (.aload_n 0, 1) := by decide +kernel
theorem dX2_setKeyword_8 : decode cX2_setKeyword 8 = .ok (.iload_n 1, 1) := by decide +kernel
theorem dX2_setKeyword_9 : decode cX2_setKeyword 9 = .ok (.invokevirtual 62, 3) := by decide +kernel
theorem dX2_setKeyword_12 : decode cX2_setKeyword 12 = .ok (.i2l, 1) := by decide +kernel
theorem dX2_setKeyword_13 : decode cX2_setKeyword 13 = .ok (.iload_n 2, 1) := by decide +kernel
theorem dX2_setKeyword_14 : decode cX2_setKeyword 14 = .ok (.iload_n 3, 1) := by decide +kernel
theorem dX2_setKeyword_15 : decode cX2_setKeyword 15 = .ok (.invokestatic 65, 3) := by decide +kernel
theorem dX2_setKeyword_18 : decode cX2_setKeyword 18 = .ok (.l2i, 1) := by decide +kernel
theorem dX2_setKeyword_19 : decode cX2_setKeyword 19 = .ok (.invokevirtual 50, 3) := by decide +kernel
theorem dX2_setKeyword_22 : decode cX2_setKeyword 22 = .ok (.ireturn, 1) := by decide +kernel
theorem dX2_change_0 : decode cX2_change 0 = .ok (.iload_n 1, 1) := by decide +kernel
theorem dX2_change_1 : decode cX2_change 1 = .ok (.iconst 0, 1) := by decide +kernel
theorem dX2_change_2 : decode cX2_change 2 = .ok (.bipush 59, 2) := by decide +kernel
theorem dX2_change_4 : decode cX2_change 4 = .ok (.invokestatic 34, 3) := by decide +kernel
theorem dX2_change_7 : decode cX2_change 7 = .ok (.ifCond .eq 23, 3) := by decide +kernel
theorem dX2_change_10 : decode cX2_change 10 = .ok (.aload_n 0, 1) := by decide +kernel
theorem dX2_change_11 : decode cX2_change 11 = .ok (.getfield 18, 3) := by decide +kernel
theorem dX2_change_14 : decode cX2_change 14 = .ok (.iload_n 1, 1) := by decide +kernel
theorem dX2_change_15 : decode cX2_change 15 = .ok (.iaload, 1) := by decide +kernel
theorem dX2_change_16 : decode cX2_change 16 = .ok (.iload_n 2, 1) := by decide +kernel
theorem dX2_change_17 : decode cX2_change 17 = .ok (.if_icmp .ne 15, 3) := by decide +kernel
theorem dX2_change_20 : decode cX2_change 20 = .ok (.aload_n 0, 1) := by decide +kernel
theorem dX2_change_21 : decode cX2_change 21 = .ok (.getfield 21, 3) := by decide +kernel
theorem dX2_change_24 : decode cX2_change 24 = .ok (.iload_n 1, 1) := by decide +kernel
theorem dX2_change_25 : decode cX2_change 25 = .ok (.iaload, 1) := by decide +kernel
theorem dX2_change_26 : decode cX2_change 26 = .ok (.iload_n 3, 1) := by decide +kernel
theorem dX2_change_27 : decode cX2_change 27 = .ok (.if_icmp .ne 5, 3) := by decide +kernel
theorem dX2_change_30 : decode cX2_change 30 = .ok (.iconst 0, 1) := by decide +kernel
theorem dX2_change_31 : decode cX2_change 31 = .ok (.ireturn, 1) := by decide +kernel
theorem dX2_change_32 : decode cX2_change 32 = .ok (.aload_n 0, 1) := by decide +kernel
theorem dX2_change_33 : decode cX2_change 33 = .ok (.getfield 30, 3) := by decide +kernel
theorem dX2_change_36 : decode cX2_change 36 = .ok (.iload_n 1, 1) := by decide +kernel
theorem dX2_change_37 : decode cX2_change 37 = .ok (.aload_n 0, 1) := by decide +kernel
theorem dX2_change_38 : decode cX2_change 38 = .ok (.getfield 18, 3) := by decide +kernel
theorem dX2_change_41 : decode cX2_change 41 = .ok (.iload_n 1, 1) := by decide +kernel
theorem dX2_change_42 : decode cX2_change 42 = .ok (.iaload, 1) := by decide +kernel
theorem dX2_change_43 : decode cX2_change 43 = .ok (.aload_n 0, 1) := by decide +kernel
theorem dX2_change_44 : decode cX2_change 44 = .ok (.getfield 21, 3) := by decide +kernel
theorem dX2_change_47 : decode cX2_change 47 = .ok (.iload_n 1, 1) := by decide +kernel
theorem dX2_change_48 : decode cX2_change 48 = .ok (.iaload, 1) := by decide +kernel
theorem dX2_change_49 : decode cX2_change 49 = .ok (.iload_n 3, 1) := by decide +kernel
theorem dX2_change_50 : decode cX2_change 50 = .ok (.invokevirtual 69, 3) := by decide +kernel
theorem dX2_change_53 : decode cX2_change 53 = .ok (.aload_n 0, 1) := by decide +kernel
theorem dX2_change_54 : decode cX2_change 54 = .ok (.getfield 18, 3) := by decide +kernel
theorem dX2_change_57 : decode cX2_change 57 = .ok (.iload_n 1, 1) := by decide +kernel
theorem dX2_change_58 : decode cX2_change 58 = .ok (.iload_n 2, 1) := by decide +kernel
theorem dX2_change_59 : decode cX2_change 59 = .ok (.iastore, 1) := by decide +kernel
theorem dX2_change_60 : decode cX2_change 60 = .ok (.aload_n 0, 1) := by decide +kernel
theorem dX2_change_61 : decode cX2_change 61 = .ok (.getfield 21, 3) := by decide +kernel
theorem dX2_change_64 : decode cX2_change 64 = .ok (.iload_n 1, 1) := by decide +kernel
theorem dX2_change_65 : decode cX2_change 65 = .ok (.iload_n 3, 1) := by decide +kernel
theorem dX2_change_66 : decode cX2_change 66 = .ok (.iastore, 1) := by decide +kernel
theorem dX2_change_67 : decode cX2_change 67 = .ok (.iconst 1, 1) := by decide +kernel
theorem dX2_change_68 : decode cX2_change 68 = .ok (.ireturn, 1) := by decide +kernel
theorem dX2_matching_0 : decode cX2_matching 0 = .ok (.lconst 0, 1) := by decide +kernel
theorem dX2_matching_1 : decode cX2_matching 1 = .ok (.lstore_n 3, 1) := by decide +kernel
theorem dX2_matching_2 : decode cX2_matching 2 = .ok (.iconst 0, 1) := by decide +kernel
theorem dX2_matching_3 : decode cX2_matching 3 = .ok (.istore 5, 2) := by decide +kernel
theorem dX2_matching_5 : decode cX2_matching 5 = .ok (.iload 5, 2) := by decide +kernel
theorem dX2_matching_7 : decode cX2_matching 7 = .ok (.bipush 60, 2) := by decide +kernel
theorem dX2_matching_9 : decode cX2_matching 9 = .ok (.if_icmp .ge 35, 3) := by decide +kernel
theorem dX2_matching_12 : decode cX2_matching 12 = .ok (.lload_n 3, 1) := by decide +kernel
theorem dX2_matching_13 : decode cX2_matching 13 = .ok (.iload 5, 2) := by decide +kernel
theorem dX2_matching_15 : decode cX2_matching 15 = .ok (.aload_n 0, 1) := by decide +kernel
theorem dX2_matching_16 : decode cX2_matching 16 = .ok (.getfield 18, 3) := by decide +kernel
theorem dX2_matching_19 : decode cX2_matching 19 = .ok (.iload 5, 2) := by decide +kernel
theorem dX2_matching_21 : decode cX2_matching 21 = .ok (.iaload, 1) := by decide +kernel
theorem dX2_matching_22 : decode cX2_matching 22 = .ok (.aload_n 0, 1) := by decide +kernel
theorem dX2_matching_23 : decode cX2_matching 23 = .ok (.getfield 21, 3) := by decide +kernel
theorem dX2_matching_26 : decode cX2_matching 26 = .ok (.iload 5, 2) := by decide +kernel
theorem dX2_matching_28 : decode cX2_matching 28 = .ok (.iaload, 1) := by decide +kernel
theorem dX2_matching_29 : decode cX2_matching 29 = .ok (.iload_n 1, 1) := by decide +kernel
theorem dX2_matching_30 : decode cX2_matching 30 = .ok (.iload_n 2, 1) := by decide +kernel
theorem dX2_matching_31 : decode cX2_matching 31 = .ok (.invokestatic 77, 3) := by decide +kernel
theorem dX2_matching_34 : decode cX2_matching 34 = .ok (.invokestatic 65, 3) := by decide +kernel
theorem dX2_matching_37 : decode cX2_matching 37 = .ok (.lstore_n 3, 1) := by decide +kernel
theorem dX2_matching_38 : decode cX2_matching 38 = .ok (.iinc 5 1, 3) := by decide +kernel
theorem dX2_matching_41 : decode cX2_matching 41 = .ok (.goto (-36), 3) := by decide +kernel
theorem dX2_matching_44 : decode cX2_matching 44 = .ok (.lload_n 3, 1) := by decide +kernel
theorem dX2_matching_45 : decode cX2_matching 45 = .ok (.lreturn, 1) := by decide +kernel
theorem dX2_matchingAt_0 : decode cX2_matchingAt 0 = .ok (.aload_n 0, 1) := by decide +kernel
theorem dX2_matchingAt_1 : decode cX2_matchingAt 1 = .ok (.getfield 30, 3) := by decide +kernel
theorem dX2_matchingAt_4 : decode cX2_matchingAt 4 = .ok (.iload_n 1, 1) := by decide +kernel
theorem dX2_matchingAt_5 : decode cX2_matchingAt 5 = .ok (.aload_n 0, 1) := by decide +kernel
theorem dX2_matchingAt_6 : decode cX2_matchingAt 6 = .ok (.iload_n 2, 1) := by decide +kernel
theorem dX2_matchingAt_7 : decode cX2_matchingAt 7 = .ok (.iload_n 3, 1) := by decide +kernel
theorem dX2_matchingAt_8 : decode cX2_matchingAt 8 = .ok (.invokevirtual 81, 3) := by decide +kernel
theorem dX2_matchingAt_11 : decode cX2_matchingAt 11 = .ok (.iload_n 2, 1) := by decide +kernel
theorem dX2_matchingAt_12 : decode cX2_matchingAt 12 = .ok (.iload_n 3, 1) := by decide +kernel
theorem dX2_matchingAt_13 : decode cX2_matchingAt 13 = .ok (.invokevirtual 85, 3) := by decide +kernel
theorem dX2_matchingAt_16 : decode cX2_matchingAt 16 = .ok (.lreturn, 1) := by decide +kernel
theorem dX2_changedSince_0 : decode cX2_changedSince 0 = .ok (.aload_n 0, 1) := by decide +kernel
theorem dX2_changedSince_1 : decode cX2_changedSince 1 = .ok (.bipush 63, 2) := by decide +kernel
theorem dX2_changedSince_3 : decode cX2_changedSince 3 = .ok (.iconst 0, 1) := by decide +kernel
theorem dX2_changedSince_4 : decode cX2_changedSince 4 = .ok (.invokevirtual 81, 3) := by decide +kernel
theorem dX2_changedSince_7 : decode cX2_changedSince 7 = .ok (.lstore_n 3, 1) := by decide +kernel
theorem dX2_changedSince_8 : decode cX2_changedSince 8 = .ok (.aload_n 0, 1) := by decide +kernel
theorem dX2_changedSince_9 : decode cX2_changedSince 9 = .ok (.iload_n 1, 1) := by decide +kernel
theorem dX2_changedSince_10 : decode cX2_changedSince 10 = .ok (.bipush 63, 2) := by decide +kernel
theorem dX2_changedSince_12 : decode cX2_changedSince 12 = .ok (.iconst 0, 1) := by decide +kernel
theorem dX2_changedSince_13 : decode cX2_changedSince 13 = .ok (.invokevirtual 89, 3) := by decide +kernel
theorem dX2_changedSince_16 : decode cX2_changedSince 16 = .ok (.lstore 5, 2) := by decide +kernel
theorem dX2_changedSince_18 : decode cX2_changedSince 18 = .ok (.iload_n 2, 1) := by decide +kernel
theorem dX2_changedSince_19 : decode cX2_changedSince 19 = .ok (.ifCond .ne 12, 3) := by decide +kernel
theorem dX2_changedSince_22 : decode cX2_changedSince 22 = .ok (.lload_n 3, 1) := by decide +kernel
theorem dX2_changedSince_23 : decode cX2_changedSince 23 = .ok (.lload 5, 2) := by decide +kernel
theorem dX2_changedSince_25 : decode cX2_changedSince 25 = .ok (.ldc2_w 93, 3) := by decide +kernel
theorem dX2_changedSince_28 : decode cX2_changedSince 28 = .ok (.lxor, 1) := by decide +kernel
theorem dX2_changedSince_29 : decode cX2_changedSince 29 = .ok (.land, 1) := by decide +kernel
theorem dX2_changedSince_30 : decode cX2_changedSince 30 = .ok (.lreturn, 1) := by decide +kernel
theorem dX2_changedSince_31 : decode cX2_changedSince 31 = .ok (.iload_n 2, 1) := by decide +kernel
theorem dX2_changedSince_32 : decode cX2_changedSince 32 = .ok (.iconst 2, 1) := by decide +kernel
theorem dX2_changedSince_33 : decode cX2_changedSince 33 = .ok (.if_icmp .ne 12, 3) := by decide +kernel
theorem dX2_changedSince_36 : decode cX2_changedSince 36 = .ok (.lload 5, 2) := by decide +kernel
theorem dX2_changedSince_38 : decode cX2_changedSince 38 = .ok (.lload_n 3, 1) := by decide +kernel
theorem dX2_changedSince_39 : decode cX2_changedSince 39 = .ok (.ldc2_w 93, 3) := by decide +kernel
theorem dX2_changedSince_42 : decode cX2_changedSince 42 = .ok (.lxor, 1) := by decide +kernel
theorem dX2_changedSince_43 : decode cX2_changedSince 43 = .ok (.land, 1) := by decide +kernel
theorem dX2_changedSince_44 : decode cX2_changedSince 44 = .ok (.lreturn, 1) := by decide +kernel
theorem dX2_changedSince_45 : decode cX2_changedSince 45 = .ok (.lload_n 3, 1) := by decide +kernel
theorem dX2_changedSince_46 : decode cX2_changedSince 46 = .ok (.lload 5, 2) := by decide +kernel
theorem dX2_changedSince_48 : decode cX2_changedSince 48 = .ok (.land, 1) := by decide +kernel
theorem dX2_changedSince_49 : decode cX2_changedSince 49 = .ok (.aload_n 0, 1) := by decide +kernel
theorem dX2_changedSince_50 : decode cX2_changedSince 50 = .ok (.getfield 30, 3) := by decide +kernel
theorem dX2_changedSince_53 : decode cX2_changedSince 53 = .ok (.iload_n 1, 1) := by decide +kernel
theorem dX2_changedSince_54 : decode cX2_changedSince 54 = .ok (.invokevirtual 95, 3) := by decide +kernel
theorem dX2_changedSince_57 : decode cX2_changedSince 57 = .ok (.land, 1) := by decide +kernel
theorem dX2_changedSince_58 : decode cX2_changedSince 58 = .ok (.lreturn, 1) := by decide +kernel
theorem dX2_latestAt_0 : decode cX2_latestAt 0 = .ok (.iconst 0, 1) := by decide +kernel
theorem dX2_latestAt_1 : decode cX2_latestAt 1 = .ok (.istore 4, 2) := by decide +kernel
theorem dX2_latestAt_3 : decode cX2_latestAt 3 = .ok (.iconst 0, 1) := by decide +kernel
theorem dX2_latestAt_4 : decode cX2_latestAt 4 = .ok (.istore 5, 2) := by decide +kernel
theorem dX2_latestAt_6 : decode cX2_latestAt 6 = .ok (.iload 5, 2) := by decide +kernel
theorem dX2_latestAt_8 : decode cX2_latestAt 8 = .ok (.aload_n 0, 1) := by decide +kernel
theorem dX2_latestAt_9 : decode cX2_latestAt 9 = .ok (.getfield 42, 3) := by decide +kernel
theorem dX2_latestAt_12 : decode cX2_latestAt 12 = .ok (.if_icmp .ge 47, 3) := by decide +kernel
theorem dX2_latestAt_15 : decode cX2_latestAt 15 = .ok (.iload 5, 2) := by decide +kernel
theorem dX2_latestAt_17 : decode cX2_latestAt 17 = .ok (.bipush 60, 2) := by decide +kernel
theorem dX2_latestAt_19 : decode cX2_latestAt 19 = .ok (.if_icmp .ge 40, 3) := by decide +kernel
theorem dX2_latestAt_22 : decode cX2_latestAt 22 = .ok (.lload_n 1, 1) := by decide +kernel
theorem dX2_latestAt_23 : decode cX2_latestAt 23 = .ok (.aload_n 0, 1) := by decide +kernel
theorem dX2_latestAt_24 : decode cX2_latestAt 24 = .ok (.getfield 24, 3) := by decide +kernel
theorem dX2_latestAt_27 : decode cX2_latestAt 27 = .ok (.iload 5, 2) := by decide +kernel
theorem dX2_latestAt_29 : decode cX2_latestAt 29 = .ok (.iaload, 1) := by decide +kernel
theorem dX2_latestAt_30 : decode cX2_latestAt 30 = .ok (.invokestatic 99, 3) := by decide +kernel
theorem dX2_latestAt_33 : decode cX2_latestAt 33 = .ok (.ifCond .eq 20, 3) := by decide +kernel
theorem dX2_latestAt_36 : decode cX2_latestAt 36 = .ok (.iload 4, 2) := by decide +kernel
theorem dX2_latestAt_38 : decode cX2_latestAt 38 = .ok (.iload_n 3, 1) := by decide +kernel
theorem dX2_latestAt_39 : decode cX2_latestAt 39 = .ok (.if_icmp .ne 11, 3) := by decide +kernel
theorem dX2_latestAt_42 : decode cX2_latestAt 42 = .ok (.aload_n 0, 1) := by decide +kernel
theorem dX2_latestAt_43 : decode cX2_latestAt 43 = .ok (.getfield 24, 3) := by decide +kernel
theorem dX2_latestAt_46 : decode cX2_latestAt 46 = .ok (.iload 5, 2) := by decide +kernel
theorem dX2_latestAt_48 : decode cX2_latestAt 48 = .ok (.iaload, 1) := by decide +kernel
theorem dX2_latestAt_49 : decode cX2_latestAt 49 = .ok (.ireturn, 1) := by decide +kernel
theorem dX2_latestAt_50 : decode cX2_latestAt 50 = .ok (.iinc 4 1, 3) := by decide +kernel
theorem dX2_latestAt_53 : decode cX2_latestAt 53 = .ok (.iinc 5 1, 3) := by decide +kernel
theorem dX2_latestAt_56 : decode cX2_latestAt 56 = .ok (.goto (-50), 3) := by decide +kernel
theorem dX2_latestAt_59 : decode cX2_latestAt 59 = .ok (.iconst (-1), 1) := by decide +kernel
theorem dX2_latestAt_60 : decode cX2_latestAt 60 = .ok (.ireturn, 1) := by decide +kernel
theorem dX3_init_0 : decode cX3_init 0 = .ok (.aload_n 0, 1) := by decide +kernel
theorem dX3_init_1 : decode cX3_init 1 = .ok (.invokespecial 1, 3) := by decide +kernel
theorem dX3_init_4 : decode cX3_init 4 = .ok (.aload_n 0, 1) := by decide +kernel
theorem dX3_init_5 : decode cX3_init 5 = .ok (.new 7, 3) := by decide +kernel
theorem dX3_init_8 : decode cX3_init 8 = .ok (.dup, 1) := by decide +kernel
theorem dX3_init_9 : decode cX3_init 9 = .ok (.invokespecial 9, 3) := by decide +kernel
theorem dX3_init_12 : decode cX3_init 12 = .ok (.putfield 10, 3) := by decide +kernel
theorem dX3_init_15 : decode cX3_init 15 = .ok (.aload_n 0, 1) := by decide +kernel
theorem dX3_init_16 : decode cX3_init 16 = .ok (.new 16, 3) := by decide +kernel
theorem dX3_init_19 : decode cX3_init 19 = .ok (.dup, 1) := by decide +kernel
theorem dX3_init_20 : decode cX3_init 20 = .ok (.invokespecial 18, 3) := by decide +kernel
theorem dX3_init_23 : decode cX3_init 23 = .ok (.putfield 19, 3) := by decide +kernel
theorem dX3_init_26 : decode cX3_init 26 = .ok (.aload_n 0, 1) := by decide +kernel
theorem dX3_init_27 : decode cX3_init 27 = .ok (.new 16, 3) := by decide +kernel
theorem dX3_init_30 : decode cX3_init 30 = .ok (.dup, 1) := by decide +kernel
theorem dX3_init_31 : decode cX3_init 31 = .ok (.invokespecial 18, 3) := by decide +kernel
theorem dX3_init_34 : decode cX3_init 34 = .ok (.putfield 23, 3) := by decide +kernel
theorem dX3_init_37 : decode cX3_init 37 = .ok (.return_, 1) := by decide +kernel
theorem dX3_add_0 : decode cX3_add 0 = .ok (.iload_n 1, 1) := by decide +kernel
theorem dX3_add_1 : decode cX3_add 1 = .ok (.iconst 0, 1) := by decide +kernel
theorem dX3_add_2 : decode cX3_add 2 = .ok (.sipush 9999, 3) := by decide +kernel
theorem dX3_add_5 : decode cX3_add 5 = .ok (.invokestatic 26, 3) := by decide +kernel
theorem dX3_add_8 : decode cX3_add 8 = .ok (.ifCond .eq 17, 3) := by decide +kernel
theorem dX3_add_11 : decode cX3_add 11 = .ok (.iload_n 2, 1) := by decide +kernel
theorem dX3_add_12 : decode cX3_add 12 = .ok (.invokestatic 30, 3) := by decide +kernel
theorem dX3_add_15 : decode cX3_add 15 = .ok (.ifCond .eq 10, 3) := by decide +kernel
theorem dX3_add_18 : decode cX3_add 18 = .ok (.iload_n 3, 1) := by decide +kernel
theorem dX3_add_19 : decode cX3_add 19 = .ok (.invokestatic 34, 3) := by decide +kernel
theorem dX3_add_22 : decode cX3_add 22 = .ok (.ifCond .ne 13, 3) := by decide +kernel
theorem dX3_add_25 : decode cX3_add 25 = .ok (.new 37, 3) := by decide +kernel
theorem dX3_add_28 : decode cX3_add 28 = .ok (.dup, 1) := by decide +kernel
theorem dX3_add_29 : decode cX3_add 29 = .ok (.ldc 39, 2) := by decide +kernel
theorem dX3_add_31 : decode cX3_add 31 = .ok (.invokespecial 41, 3) := by decide +kernel
theorem dX3_add_34 : decode cX3_add 34 = .ok (.athrow, 1) := by decide +kernel
theorem dX3_add_35 : decode cX3_add 35 = .ok (.aload_n 0, 1) := by decide +kernel
theorem dX3_add_36 : decode cX3_add 36 = .ok (.getfield 10, 3) := by decide +kernel
theorem dX3_add_39 : decode cX3_add 39 = .ok (.getfield 44, 3) := by decide +kernel
theorem dX3_add_42 : decode cX3_add 42 = .ok (.bipush 60, 2) := by decide +kernel
theorem dX3_add_44 : decode cX3_add 44 = .ok (.if_icmp .lt 13, 3) := by decide +kernel
theorem dX3_add_47 : decode cX3_add 47 = .ok (.new 48, 3) := by decide +kernel
theorem dX3_add_50 : decode cX3_add 50 = .ok (.dup, 1) := by decide +kernel
theorem dX3_add_51 : decode cX3_add 51 = .ok (.ldc 50, 2) := by decide +kernel
theorem dX3_add_53 : decode cX3_add 53 = .ok (.invokespecial 52, 3) := by decide +kernel
theorem dX3_add_56 : decode cX3_add 56 = .ok (.athrow, 1) := by decide +kernel
theorem dX3_add_57 : decode cX3_add 57 = .ok (.aload_n 0, 1) := by decide +kernel
theorem dX3_add_58 : decode cX3_add 58 = .ok (.getfield 10, 3) := by decide +kernel
theorem dX3_add_61 : decode cX3_add 61 = .ok (.iload_n 1, 1) := by decide +kernel
theorem dX3_add_62 : decode cX3_add 62 = .ok (.iload_n 2, 1) := by decide +kernel
theorem dX3_add_63 : decode cX3_add 63 = .ok (.iload_n 3, 1) := by decide +kernel
theorem dX3_add_64 : decode cX3_add 64 = .ok (.invokevirtual 53, 3) := by decide +kernel
theorem dX3_add_67 : decode cX3_add 67 = .ok (.ireturn, 1) := by decide +kernel
theorem dX3_move_0 : decode cX3_move 0 = .ok (.aload_n 0, 1) := by decide +kernel
theorem dX3_move_1 : decode cX3_move 1 = .ok (.getfield 10, 3) := by decide +kernel
theorem dX3_move_4 : decode cX3_move 4 = .ok (.iload_n 1, 1) := by decide +kernel
theorem dX3_move_5 : decode cX3_move 5 = .ok (.invokevirtual 57, 3) := by decide +kernel
theorem dX3_move_8 : decode cX3_move 8 = .ok (.invokestatic 60, 3) := by decide +kernel
theorem dX3_move_11 : decode cX3_move 11 = .ok (.iload_n 2, 1) := by decide +kernel
theorem dX3_move_12 : decode cX3_move 12 = .ok (.invokestatic 30, 3) := by decide +kernel
theorem dX3_move_15 : decode cX3_move 15 = .ok (.ifCond .ne 13, 3) := by decide +kernel
theorem dX3_move_18 : decode cX3_move 18 = .ok (.new 37, 3) := by decide +kernel
theorem dX3_move_21 : decode cX3_move 21 = .ok (.dup, 1) := by decide +kernel
theorem dX3_move_22 : decode cX3_move 22 = .ok (.ldc 64, 2) := by decide +kernel
theorem dX3_move_24 : decode cX3_move 24 = .ok (.invokespecial 41, 3) := by decide +kernel
theorem dX3_move_27 : decode cX3_move 27 = .ok (.athrow, 1) := by decide +kernel
theorem dX3_move_28 : decode cX3_move 28 = .ok (.aload_n 0, 1) := by decide +kernel
theorem dX3_move_29 : decode cX3_move 29 = .ok (.getfield 10, 3) := by decide +kernel
theorem dX3_move_32 : decode cX3_move 32 = .ok (.iload_n 1, 1) := by decide +kernel
theorem dX3_move_33 : decode cX3_move 33 = .ok (.invokevirtual 66, 3) := by decide +kernel
theorem dX3_move_36 : decode cX3_move 36 = .ok (.istore_n 3, 1) := by decide +kernel
theorem dX3_move_37 : decode cX3_move 37 = .ok (.aload_n 0, 1) := by decide +kernel
theorem dX3_move_38 : decode cX3_move 38 = .ok (.getfield 10, 3) := by decide +kernel
theorem dX3_move_41 : decode cX3_move 41 = .ok (.iload_n 1, 1) := by decide +kernel
theorem dX3_move_42 : decode cX3_move 42 = .ok (.iload_n 2, 1) := by decide +kernel
theorem dX3_move_43 : decode cX3_move 43 = .ok (.aload_n 0, 1) := by decide +kernel
theorem dX3_move_44 : decode cX3_move 44 = .ok (.getfield 10, 3) := by decide +kernel
theorem dX3_move_47 : decode cX3_move 47 = .ok (.iload_n 1, 1) := by decide +kernel
theorem dX3_move_48 : decode cX3_move 48 = .ok (.invokevirtual 70, 3) := by decide +kernel
theorem dX3_move_51 : decode cX3_move 51 = .ok (.invokevirtual 73, 3) := by decide +kernel
theorem dX3_move_54 : decode cX3_move 54 = .ok (.pop, 1) := by decide +kernel
theorem dX3_move_55 : decode cX3_move 55 = .ok (.iload_n 3, 1) := by decide +kernel
theorem dX3_move_56 : decode cX3_move 56 = .ok (.ireturn, 1) := by decide +kernel
theorem dX3_flag_0 : decode cX3_flag 0 = .ok (.aload_n 0, 1) := by decide +kernel
theorem dX3_flag_1 : decode cX3_flag 1 = .ok (.getfield 10, 3) := by decide +kernel
theorem dX3_flag_4 : decode cX3_flag 4 = .ok (.iload_n 1, 1) := by decide +kernel
theorem dX3_flag_5 : decode cX3_flag 5 = .ok (.invokevirtual 57, 3) := by decide +kernel
theorem dX3_flag_8 : decode cX3_flag 8 = .ok (.invokestatic 60, 3) := by decide +kernel
theorem dX3_flag_11 : decode cX3_flag 11 = .ok (.iload_n 2, 1) := by decide +kernel
theorem dX3_flag_12 : decode cX3_flag 12 = .ok (.invokestatic 76, 3) := by decide +kernel
theorem dX3_flag_15 : decode cX3_flag 15 = .ok (.ifCond .ne 13, 3) := by decide +kernel
theorem dX3_flag_18 : decode cX3_flag 18 = .ok (.new 37, 3) := by decide +kernel
theorem dX3_flag_21 : decode cX3_flag 21 = .ok (.dup, 1) := by decide +kernel
theorem dX3_flag_22 : decode cX3_flag 22 = .ok (.ldc 79, 2) := by decide +kernel
theorem dX3_flag_24 : decode cX3_flag 24 = .ok (.invokespecial 41, 3) := by decide +kernel
theorem dX3_flag_27 : decode cX3_flag 27 = .ok (.athrow, 1) := by decide +kernel
theorem dX3_flag_28 : decode cX3_flag 28 = .ok (.aload_n 0, 1) := by decide +kernel
theorem dX3_flag_29 : decode cX3_flag 29 = .ok (.getfield 10, 3) := by decide +kernel
theorem dX3_flag_32 : decode cX3_flag 32 = .ok (.iload_n 1, 1) := by decide +kernel
theorem dX3_flag_33 : decode cX3_flag 33 = .ok (.iload_n 2, 1) := by decide +kernel
theorem dX3_flag_34 : decode cX3_flag 34 = .ok (.iload_n 3, 1) := by decide +kernel
theorem dX3_flag_35 : decode cX3_flag 35 = .ok (.invokevirtual 81, 3) := by decide +kernel
theorem dX3_flag_38 : decode cX3_flag 38 = .ok (.ireturn, 1) := by decide +kernel
theorem dX3_flagIf_0 : decode cX3_flagIf 0 = .ok (.aload_n 0, 1) := by decide +kernel
theorem dX3_flagIf_1 : decode cX3_flagIf 1 = .ok (.getfield 10, 3) := by decide +kernel
theorem dX3_flagIf_4 : decode cX3_flagIf 4 = .ok (.iload_n 1, 1) := by decide +kernel
theorem dX3_flagIf_5 : decode cX3_flagIf 5 = .ok (.invokevirtual 57, 3) := by decide +kernel
theorem dX3_flagIf_8 : decode cX3_flagIf 8 = .ok (.invokestatic 60, 3) := by decide +kernel
theorem dX3_flagIf_11 : decode cX3_flagIf 11 = .ok (.iload_n 2, 1) := by decide +kernel
theorem dX3_flagIf_12 : decode cX3_flagIf 12 = .ok (.invokestatic 76, 3) := by decide +kernel
theorem dX3_flagIf_15 : decode cX3_flagIf 15 = .ok (.ifCond .ne 13, 3) := by decide +kernel
theorem dX3_flagIf_18 : decode cX3_flagIf 18 = .ok (.new 37, 3) := by decide +kernel
theorem dX3_flagIf_21 : decode cX3_flagIf 21 = .ok (.dup, 1) := by decide +kernel
theorem dX3_flagIf_22 : decode cX3_flagIf 22 = .ok (.ldc 79, 2) := by decide +kernel
theorem dX3_flagIf_24 : decode cX3_flagIf 24 = .ok (.invokespecial 41, 3) := by decide +kernel
theorem dX3_flagIf_27 : decode cX3_flagIf 27 = .ok (.athrow, 1) := by decide +kernel
theorem dX3_flagIf_28 : decode cX3_flagIf 28 = .ok (.iload 4, 2) := by decide +kernel
theorem dX3_flagIf_30 : decode cX3_flagIf 30 = .ok (.aload_n 0, 1) := by decide +kernel
theorem dX3_flagIf_31 : decode cX3_flagIf 31 = .ok (.getfield 10, 3) := by decide +kernel
theorem dX3_flagIf_34 : decode cX3_flagIf 34 = .ok (.getfield 85, 3) := by decide +kernel
theorem dX3_flagIf_37 : decode cX3_flagIf 37 = .ok (.getfield 89, 3) := by decide +kernel
theorem dX3_flagIf_40 : decode cX3_flagIf 40 = .ok (.if_icmp .eq 13, 3) := by decide +kernel
theorem dX3_flagIf_43 : decode cX3_flagIf 43 = .ok (.new 48, 3) := by decide +kernel
theorem dX3_flagIf_46 : decode cX3_flagIf 46 = .ok (.dup, 1) := by decide +kernel
theorem dX3_flagIf_47 : decode cX3_flagIf 47 = .ok (.ldc 94, 2) := by decide +kernel
theorem dX3_flagIf_49 : decode cX3_flagIf 49 = .ok (.invokespecial 52, 3) := by decide +kernel
theorem dX3_flagIf_52 : decode cX3_flagIf 52 = .ok (.athrow, 1) := by decide +kernel
theorem dX3_flagIf_53 : decode cX3_flagIf 53 = .ok (.aload_n 0, 1) := by decide +kernel
theorem dX3_flagIf_54 : decode cX3_flagIf 54 = .ok (.getfield 10, 3) := by decide +kernel
theorem dX3_flagIf_57 : decode cX3_flagIf 57 = .ok (.iload_n 1, 1) := by decide +kernel
theorem dX3_flagIf_58 : decode cX3_flagIf 58 = .ok (.iload_n 2, 1) := by decide +kernel
theorem dX3_flagIf_59 : decode cX3_flagIf 59 = .ok (.iload_n 3, 1) := by decide +kernel
theorem dX3_flagIf_60 : decode cX3_flagIf 60 = .ok (.invokevirtual 81, 3) := by decide +kernel
theorem dX3_flagIf_63 : decode cX3_flagIf 63 = .ok (.ireturn, 1) := by decide +kernel
theorem dX3_destroy_0 : decode cX3_destroy 0 = .ok (.aload_n 0, 1) := by decide +kernel
theorem dX3_destroy_1 : decode cX3_destroy 1 = .ok (.getfield 10, 3) := by decide +kernel
theorem dX3_destroy_4 : decode cX3_destroy 4 = .ok (.iload_n 1, 1) := by decide +kernel
theorem dX3_destroy_5 : decode cX3_destroy 5 = .ok (.invokevirtual 57, 3) := by decide +kernel
theorem dX3_destroy_8 : decode cX3_destroy 8 = .ok (.invokestatic 60, 3) := by decide +kernel
theorem dX3_destroy_11 : decode cX3_destroy 11 = .ok (.aload_n 0, 1) := by decide +kernel
theorem dX3_destroy_12 : decode cX3_destroy 12 = .ok (.getfield 10, 3) := by decide +kernel
theorem dX3_destroy_15 : decode cX3_destroy 15 = .ok (.iload_n 1, 1) := by decide +kernel
theorem dX3_destroy_16 : decode cX3_destroy 16 = .ok (.iconst 0, 1) := by decide +kernel
theorem dX3_destroy_17 : decode cX3_destroy 17 = .ok (.aload_n 0, 1) := by decide +kernel
theorem dX3_destroy_18 : decode cX3_destroy 18 = .ok (.getfield 10, 3) := by decide +kernel
theorem dX3_destroy_21 : decode cX3_destroy 21 = .ok (.iload_n 1, 1) := by decide +kernel
theorem dX3_destroy_22 : decode cX3_destroy 22 = .ok (.invokevirtual 70, 3) := by decide +kernel
theorem dX3_destroy_25 : decode cX3_destroy 25 = .ok (.invokevirtual 73, 3) := by decide +kernel
theorem dX3_destroy_28 : decode cX3_destroy 28 = .ok (.pop, 1) := by decide +kernel
theorem dX3_destroy_29 : decode cX3_destroy 29 = .ok (.aload_n 0, 1) := by decide +kernel
theorem dX3_destroy_30 : decode cX3_destroy 30 = .ok (.getfield 10, 3) := by decide +kernel
theorem dX3_destroy_33 : decode cX3_destroy 33 = .ok (.getfield 85, 3) := by decide +kernel
theorem dX3_destroy_36 : decode cX3_destroy 36 = .ok (.getfield 89, 3) := by decide +kernel
theorem dX3_destroy_39 : decode cX3_destroy 39 = .ok (.ireturn, 1) := by decide +kernel
theorem dX3_state_0 : decode cX3_state 0 = .ok (.aload_n 0, 1) := by decide +kernel
theorem dX3_state_1 : decode cX3_state 1 = .ok (.getfield 10, 3) := by decide +kernel
theorem dX3_state_4 : decode cX3_state 4 = .ok (.getfield 85, 3) := by decide +kernel
theorem dX3_state_7 : decode cX3_state 7 = .ok (.getfield 89, 3) := by decide +kernel
theorem dX3_state_10 : decode cX3_state 10 = .ok (.ireturn, 1) := by decide +kernel
theorem dX3_mails_0 : decode cX3_mails 0 = .ok (.aload_n 0, 1) := by decide +kernel
theorem dX3_mails_1 : decode cX3_mails 1 = .ok (.getfield 10, 3) := by decide +kernel
theorem dX3_mails_4 : decode cX3_mails 4 = .ok (.bipush 63, 2) := by decide +kernel
theorem dX3_mails_6 : decode cX3_mails 6 = .ok (.iconst 0, 1) := by decide +kernel
theorem dX3_mails_7 : decode cX3_mails 7 = .ok (.invokevirtual 96, 3) := by decide +kernel
theorem dX3_mails_10 : decode cX3_mails 10 = .ok (.invokestatic 100, 3) := by decide +kernel
theorem dX3_mails_13 : decode cX3_mails 13 = .ok (.ireturn, 1) := by decide +kernel
theorem dX3_keywords_0 : decode cX3_keywords 0 = .ok (.aload_n 0, 1) := by decide +kernel
theorem dX3_keywords_1 : decode cX3_keywords 1 = .ok (.getfield 10, 3) := by decide +kernel
theorem dX3_keywords_4 : decode cX3_keywords 4 = .ok (.iload_n 1, 1) := by decide +kernel
theorem dX3_keywords_5 : decode cX3_keywords 5 = .ok (.invokevirtual 57, 3) := by decide +kernel
theorem dX3_keywords_8 : decode cX3_keywords 8 = .ok (.invokestatic 60, 3) := by decide +kernel
theorem dX3_keywords_11 : decode cX3_keywords 11 = .ok (.aload_n 0, 1) := by decide +kernel
theorem dX3_keywords_12 : decode cX3_keywords 12 = .ok (.getfield 10, 3) := by decide +kernel
theorem dX3_keywords_15 : decode cX3_keywords 15 = .ok (.iload_n 1, 1) := by decide +kernel
theorem dX3_keywords_16 : decode cX3_keywords 16 = .ok (.invokevirtual 70, 3) := by decide +kernel
theorem dX3_keywords_19 : decode cX3_keywords 19 = .ok (.ireturn, 1) := by decide +kernel
theorem dX3_canTell_0 : decode cX3_canTell 0 = .ok (.aload_n 0, 1) := by decide +kernel
theorem dX3_canTell_1 : decode cX3_canTell 1 = .ok (.iload_n 1, 1) := by decide +kernel
theorem dX3_canTell_2 : decode cX3_canTell 2 = .ok (.invokevirtual 116, 3) := by decide +kernel
theorem dX3_canTell_5 : decode cX3_canTell 5 = .ok (.ifCond .ne 13, 3) := by decide +kernel
theorem dX3_canTell_8 : decode cX3_canTell 8 = .ok (.new 37, 3) := by decide +kernel
theorem dX3_canTell_11 : decode cX3_canTell 11 = .ok (.dup, 1) := by decide +kernel
theorem dX3_canTell_12 : decode cX3_canTell 12 = .ok (.ldc 119, 2) := by decide +kernel
theorem dX3_canTell_14 : decode cX3_canTell 14 = .ok (.invokespecial 41, 3) := by decide +kernel
theorem dX3_canTell_17 : decode cX3_canTell 17 = .ok (.athrow, 1) := by decide +kernel
theorem dX3_canTell_18 : decode cX3_canTell 18 = .ok (.aload_n 0, 1) := by decide +kernel
theorem dX3_canTell_19 : decode cX3_canTell 19 = .ok (.getfield 10, 3) := by decide +kernel
theorem dX3_canTell_22 : decode cX3_canTell 22 = .ok (.getfield 85, 3) := by decide +kernel
theorem dX3_canTell_25 : decode cX3_canTell 25 = .ok (.iload_n 1, 1) := by decide +kernel
theorem dX3_canTell_26 : decode cX3_canTell 26 = .ok (.invokevirtual 121, 3) := by decide +kernel
theorem dX3_canTell_29 : decode cX3_canTell 29 = .ok (.ireturn, 1) := by decide +kernel
theorem dX3_changed_0 : decode cX3_changed 0 = .ok (.aload_n 0, 1) := by decide +kernel
theorem dX3_changed_1 : decode cX3_changed 1 = .ok (.iload_n 1, 1) := by decide +kernel
theorem dX3_changed_2 : decode cX3_changed 2 = .ok (.invokevirtual 116, 3) := by decide +kernel
theorem dX3_changed_5 : decode cX3_changed 5 = .ok (.ifCond .eq 10, 3) := by decide +kernel
theorem dX3_changed_8 : decode cX3_changed 8 = .ok (.iload_n 2, 1) := by decide +kernel
theorem dX3_changed_9 : decode cX3_changed 9 = .ok (.invokestatic 124, 3) := by decide +kernel
theorem dX3_changed_12 : decode cX3_changed 12 = .ok (.ifCond .ne 13, 3) := by decide +kernel
theorem dX3_changed_15 : decode cX3_changed 15 = .ok (.new 37, 3) := by decide +kernel
theorem dX3_changed_18 : decode cX3_changed 18 = .ok (.dup, 1) := by decide +kernel
theorem dX3_changed_19 : decode cX3_changed 19 = .ok (.ldc 127, 2) := by decide +kernel
theorem dX3_changed_21 : decode cX3_changed 21 = .ok (.invokespecial 41, 3) := by decide +kernel
theorem dX3_changed_24 : decode cX3_changed 24 = .ok (.athrow, 1) := by decide +kernel
theorem dX3_changed_25 : decode cX3_changed 25 = .ok (.aload_n 0, 1) := by decide +kernel
theorem dX3_changed_26 : decode cX3_changed 26 = .ok (.iload_n 1, 1) := by decide +kernel
theorem dX3_changed_27 : decode cX3_changed 27 = .ok (.invokevirtual 129, 3) := by decide +kernel
theorem dX3_changed_30 : decode cX3_changed 30 = .ok (.aload_n 0, 1) := by decide +kernel
theorem dX3_changed_31 : decode cX3_changed 31 = .ok (.getfield 10, 3) := by decide +kernel
theorem dX3_changed_34 : decode cX3_changed 34 = .ok (.iload_n 1, 1) := by decide +kernel
theorem dX3_changed_35 : decode cX3_changed 35 = .ok (.iload_n 2, 1) := by decide +kernel
theorem dX3_changed_36 : decode cX3_changed 36 = .ok (.invokevirtual 133, 3) := by decide +kernel
theorem dX3_changed_39 : decode cX3_changed 39 = .ok (.invokestatic 100, 3) := by decide +kernel
theorem dX3_changed_42 : decode cX3_changed 42 = .ok (.ireturn, 1) := by decide +kernel
theorem dX3_page_0 : decode cX3_page 0 = .ok (.aload_n 0, 1) := by decide +kernel
theorem dX3_page_1 : decode cX3_page 1 = .ok (.iload_n 1, 1) := by decide +kernel
theorem dX3_page_2 : decode cX3_page 2 = .ok (.invokevirtual 116, 3) := by decide +kernel
theorem dX3_page_5 : decode cX3_page 5 = .ok (.ifCond .eq 13, 3) := by decide +kernel
theorem dX3_page_8 : decode cX3_page 8 = .ok (.iload_n 2, 1) := by decide +kernel
theorem dX3_page_9 : decode cX3_page 9 = .ok (.iconst 1, 1) := by decide +kernel
theorem dX3_page_10 : decode cX3_page 10 = .ok (.bipush 20, 2) := by decide +kernel
theorem dX3_page_12 : decode cX3_page 12 = .ok (.invokestatic 26, 3) := by decide +kernel
theorem dX3_page_15 : decode cX3_page 15 = .ok (.ifCond .ne 13, 3) := by decide +kernel
theorem dX3_page_18 : decode cX3_page 18 = .ok (.new 37, 3) := by decide +kernel
theorem dX3_page_21 : decode cX3_page 21 = .ok (.dup, 1) := by decide +kernel
theorem dX3_page_22 : decode cX3_page 22 = .ok (.ldc 140, 2) := by decide +kernel
theorem dX3_page_24 : decode cX3_page 24 = .ok (.invokespecial 41, 3) := by decide +kernel
theorem dX3_page_27 : decode cX3_page 27 = .ok (.athrow, 1) := by decide +kernel
theorem dX3_page_28 : decode cX3_page 28 = .ok (.aload_n 0, 1) := by decide +kernel
theorem dX3_page_29 : decode cX3_page 29 = .ok (.iload_n 1, 1) := by decide +kernel
theorem dX3_page_30 : decode cX3_page 30 = .ok (.invokevirtual 129, 3) := by decide +kernel
theorem dX3_page_33 : decode cX3_page 33 = .ok (.aload_n 0, 1) := by decide +kernel
theorem dX3_page_34 : decode cX3_page 34 = .ok (.getfield 10, 3) := by decide +kernel
theorem dX3_page_37 : decode cX3_page 37 = .ok (.getfield 85, 3) := by decide +kernel
theorem dX3_page_40 : decode cX3_page 40 = .ok (.iload_n 1, 1) := by decide +kernel
theorem dX3_page_41 : decode cX3_page 41 = .ok (.iload_n 2, 1) := by decide +kernel
theorem dX3_page_42 : decode cX3_page 42 = .ok (.invokevirtual 142, 3) := by decide +kernel
theorem dX3_page_45 : decode cX3_page 45 = .ok (.ireturn, 1) := by decide +kernel
theorem dX3_found_0 : decode cX3_found 0 = .ok (.iload_n 1, 1) := by decide +kernel
theorem dX3_found_1 : decode cX3_found 1 = .ok (.invokestatic 111, 3) := by decide +kernel
theorem dX3_found_4 : decode cX3_found 4 = .ok (.ifCond .eq 10, 3) := by decide +kernel
theorem dX3_found_7 : decode cX3_found 7 = .ok (.iload_n 2, 1) := by decide +kernel
theorem dX3_found_8 : decode cX3_found 8 = .ok (.invokestatic 146, 3) := by decide +kernel
theorem dX3_found_11 : decode cX3_found 11 = .ok (.ifCond .ne 13, 3) := by decide +kernel
theorem dX3_found_14 : decode cX3_found 14 = .ok (.new 37, 3) := by decide +kernel
theorem dX3_found_17 : decode cX3_found 17 = .ok (.dup, 1) := by decide +kernel
theorem dX3_found_18 : decode cX3_found 18 = .ok (.ldc 114, 2) := by decide +kernel
theorem dX3_found_20 : decode cX3_found 20 = .ok (.invokespecial 41, 3) := by decide +kernel
theorem dX3_found_23 : decode cX3_found 23 = .ok (.athrow, 1) := by decide +kernel
theorem dX3_found_24 : decode cX3_found 24 = .ok (.aload_n 0, 1) := by decide +kernel
theorem dX3_found_25 : decode cX3_found 25 = .ok (.getfield 10, 3) := by decide +kernel
theorem dX3_found_28 : decode cX3_found 28 = .ok (.iconst 1, 1) := by decide +kernel
theorem dX3_found_29 : decode cX3_found 29 = .ok (.iload_n 1, 1) := by decide +kernel
theorem dX3_found_30 : decode cX3_found 30 = .ok (.ishl, 1) := by decide +kernel
theorem dX3_found_31 : decode cX3_found 31 = .ok (.iload_n 2, 1) := by decide +kernel
theorem dX3_found_32 : decode cX3_found 32 = .ok (.invokestatic 149, 3) := by decide +kernel
theorem dX3_found_35 : decode cX3_found 35 = .ok (.invokevirtual 96, 3) := by decide +kernel
theorem dX3_found_38 : decode cX3_found 38 = .ok (.invokestatic 100, 3) := by decide +kernel
theorem dX3_found_41 : decode cX3_found 41 = .ok (.ireturn, 1) := by decide +kernel
theorem dX3_foundAt_0 : decode cX3_foundAt 0 = .ok (.iload_n 1, 1) := by decide +kernel
theorem dX3_foundAt_1 : decode cX3_foundAt 1 = .ok (.invokestatic 111, 3) := by decide +kernel
theorem dX3_foundAt_4 : decode cX3_foundAt 4 = .ok (.ifCond .eq 10, 3) := by decide +kernel
theorem dX3_foundAt_7 : decode cX3_foundAt 7 = .ok (.iload_n 2, 1) := by decide +kernel
theorem dX3_foundAt_8 : decode cX3_foundAt 8 = .ok (.invokestatic 146, 3) := by decide +kernel
theorem dX3_foundAt_11 : decode cX3_foundAt 11 = .ok (.ifCond .ne 13, 3) := by decide +kernel
theorem dX3_foundAt_14 : decode cX3_foundAt 14 = .ok (.new 37, 3) := by decide +kernel
theorem dX3_foundAt_17 : decode cX3_foundAt 17 = .ok (.dup, 1) := by decide +kernel
theorem dX3_foundAt_18 : decode cX3_foundAt 18 = .ok (.ldc 114, 2) := by decide +kernel
theorem dX3_foundAt_20 : decode cX3_foundAt 20 = .ok (.invokespecial 41, 3) := by decide +kernel
theorem dX3_foundAt_23 : decode cX3_foundAt 23 = .ok (.athrow, 1) := by decide +kernel
theorem dX3_foundAt_24 : decode cX3_foundAt 24 = .ok (.aload_n 0, 1) := by decide +kernel
theorem dX3_foundAt_25 : decode cX3_foundAt 25 = .ok (.getfield 10, 3) := by decide +kernel
theorem dX3_foundAt_28 : decode cX3_foundAt 28 = .ok (.aload_n 0, 1) := by decide +kernel
theorem dX3_foundAt_29 : decode cX3_foundAt 29 = .ok (.getfield 10, 3) := by decide +kernel
theorem dX3_foundAt_32 : decode cX3_foundAt 32 = .ok (.iconst 1, 1) := by decide +kernel
theorem dX3_foundAt_33 : decode cX3_foundAt 33 = .ok (.iload_n 1, 1) := by decide +kernel
theorem dX3_foundAt_34 : decode cX3_foundAt 34 = .ok (.ishl, 1) := by decide +kernel
theorem dX3_foundAt_35 : decode cX3_foundAt 35 = .ok (.iload_n 2, 1) := by decide +kernel
theorem dX3_foundAt_36 : decode cX3_foundAt 36 = .ok (.invokestatic 149, 3) := by decide +kernel
theorem dX3_foundAt_39 : decode cX3_foundAt 39 = .ok (.invokevirtual 96, 3) := by decide +kernel
theorem dX3_foundAt_42 : decode cX3_foundAt 42 = .ok (.iload_n 3, 1) := by decide +kernel
theorem dX3_foundAt_43 : decode cX3_foundAt 43 = .ok (.invokevirtual 152, 3) := by decide +kernel
theorem dX3_foundAt_46 : decode cX3_foundAt 46 = .ok (.istore 4, 2) := by decide +kernel
theorem dX3_foundAt_48 : decode cX3_foundAt 48 = .ok (.iload 4, 2) := by decide +kernel
theorem dX3_foundAt_50 : decode cX3_foundAt 50 = .ok (.iconst (-1), 1) := by decide +kernel
theorem dX3_foundAt_51 : decode cX3_foundAt 51 = .ok (.if_icmp .eq 7, 3) := by decide +kernel
theorem dX3_foundAt_54 : decode cX3_foundAt 54 = .ok (.iconst 1, 1) := by decide +kernel
theorem dX3_foundAt_55 : decode cX3_foundAt 55 = .ok (.goto 4, 3) := by decide +kernel
theorem dX3_foundAt_58 : decode cX3_foundAt 58 = .ok (.iconst 0, 1) := by decide +kernel
theorem dX3_foundAt_59 : decode cX3_foundAt 59 = .ok (.invokestatic 60, 3) := by decide +kernel
theorem dX3_foundAt_62 : decode cX3_foundAt 62 = .ok (.iload 4, 2) := by decide +kernel
theorem dX3_foundAt_64 : decode cX3_foundAt 64 = .ok (.ireturn, 1) := by decide +kernel
theorem dX3_removed_0 : decode cX3_removed 0 = .ok (.aload_n 0, 1) := by decide +kernel
theorem dX3_removed_1 : decode cX3_removed 1 = .ok (.iload_n 1, 1) := by decide +kernel
theorem dX3_removed_2 : decode cX3_removed 2 = .ok (.invokevirtual 116, 3) := by decide +kernel
theorem dX3_removed_5 : decode cX3_removed 5 = .ok (.ifCond .eq 17, 3) := by decide +kernel
theorem dX3_removed_8 : decode cX3_removed 8 = .ok (.iload_n 2, 1) := by decide +kernel
theorem dX3_removed_9 : decode cX3_removed 9 = .ok (.invokestatic 111, 3) := by decide +kernel
theorem dX3_removed_12 : decode cX3_removed 12 = .ok (.ifCond .eq 10, 3) := by decide +kernel
theorem dX3_removed_15 : decode cX3_removed 15 = .ok (.iload_n 3, 1) := by decide +kernel
theorem dX3_removed_16 : decode cX3_removed 16 = .ok (.invokestatic 146, 3) := by decide +kernel
theorem dX3_removed_19 : decode cX3_removed 19 = .ok (.ifCond .ne 13, 3) := by decide +kernel
theorem dX3_removed_22 : decode cX3_removed 22 = .ok (.new 37, 3) := by decide +kernel
theorem dX3_removed_25 : decode cX3_removed 25 = .ok (.dup, 1) := by decide +kernel
theorem dX3_removed_26 : decode cX3_removed 26 = .ok (.ldc 155, 2) := by decide +kernel
theorem dX3_removed_28 : decode cX3_removed 28 = .ok (.invokespecial 41, 3) := by decide +kernel
theorem dX3_removed_31 : decode cX3_removed 31 = .ok (.athrow, 1) := by decide +kernel
theorem dX3_removed_32 : decode cX3_removed 32 = .ok (.aload_n 0, 1) := by decide +kernel
theorem dX3_removed_33 : decode cX3_removed 33 = .ok (.iload_n 1, 1) := by decide +kernel
theorem dX3_removed_34 : decode cX3_removed 34 = .ok (.invokevirtual 129, 3) := by decide +kernel
theorem dX3_removed_37 : decode cX3_removed 37 = .ok (.aload_n 0, 1) := by decide +kernel
theorem dX3_removed_38 : decode cX3_removed 38 = .ok (.getfield 10, 3) := by decide +kernel
theorem dX3_removed_41 : decode cX3_removed 41 = .ok (.iload_n 1, 1) := by decide +kernel
theorem dX3_removed_42 : decode cX3_removed 42 = .ok (.iconst 1, 1) := by decide +kernel
theorem dX3_removed_43 : decode cX3_removed 43 = .ok (.iload_n 2, 1) := by decide +kernel
theorem dX3_removed_44 : decode cX3_removed 44 = .ok (.ishl, 1) := by decide +kernel
theorem dX3_removed_45 : decode cX3_removed 45 = .ok (.iload_n 3, 1) := by decide +kernel
theorem dX3_removed_46 : decode cX3_removed 46 = .ok (.invokestatic 149, 3) := by decide +kernel
theorem dX3_removed_49 : decode cX3_removed 49 = .ok (.invokevirtual 157, 3) := by decide +kernel
theorem dX3_removed_52 : decode cX3_removed 52 = .ok (.lstore 4, 2) := by decide +kernel
theorem dX3_removed_54 : decode cX3_removed 54 = .ok (.lload 4, 2) := by decide +kernel
theorem dX3_removed_56 : decode cX3_removed 56 = .ok (.aload_n 0, 1) := by decide +kernel
theorem dX3_removed_57 : decode cX3_removed 57 = .ok (.getfield 10, 3) := by decide +kernel
theorem dX3_removed_60 : decode cX3_removed 60 = .ok (.iconst 1, 1) := by decide +kernel
theorem dX3_removed_61 : decode cX3_removed 61 = .ok (.iload_n 2, 1) := by decide +kernel
theorem dX3_removed_62 : decode cX3_removed 62 = .ok (.ishl, 1) := by decide +kernel
theorem dX3_removed_63 : decode cX3_removed 63 = .ok (.iload_n 3, 1) := by decide +kernel
theorem dX3_removed_64 : decode cX3_removed 64 = .ok (.invokestatic 149, 3) := by decide +kernel
theorem dX3_removed_67 : decode cX3_removed 67 = .ok (.invokevirtual 96, 3) := by decide +kernel
theorem dX3_removed_70 : decode cX3_removed 70 = .ok (.ldc2_w 161, 3) := by decide +kernel
theorem dX3_removed_73 : decode cX3_removed 73 = .ok (.lxor, 1) := by decide +kernel
theorem dX3_removed_74 : decode cX3_removed 74 = .ok (.land, 1) := by decide +kernel
theorem dX3_removed_75 : decode cX3_removed 75 = .ok (.invokestatic 100, 3) := by decide +kernel
theorem dX3_removed_78 : decode cX3_removed 78 = .ok (.ireturn, 1) := by decide +kernel
theorem dX3_added_0 : decode cX3_added 0 = .ok (.aload_n 0, 1) := by decide +kernel
theorem dX3_added_1 : decode cX3_added 1 = .ok (.iload_n 1, 1) := by decide +kernel
theorem dX3_added_2 : decode cX3_added 2 = .ok (.invokevirtual 116, 3) := by decide +kernel
theorem dX3_added_5 : decode cX3_added 5 = .ok (.ifCond .eq 17, 3) := by decide +kernel
theorem dX3_added_8 : decode cX3_added 8 = .ok (.iload_n 2, 1) := by decide +kernel
theorem dX3_added_9 : decode cX3_added 9 = .ok (.invokestatic 111, 3) := by decide +kernel
theorem dX3_added_12 : decode cX3_added 12 = .ok (.ifCond .eq 10, 3) := by decide +kernel
theorem dX3_added_15 : decode cX3_added 15 = .ok (.iload_n 3, 1) := by decide +kernel
theorem dX3_added_16 : decode cX3_added 16 = .ok (.invokestatic 146, 3) := by decide +kernel
theorem dX3_added_19 : decode cX3_added 19 = .ok (.ifCond .ne 13, 3) := by decide +kernel
theorem dX3_added_22 : decode cX3_added 22 = .ok (.new 37, 3) := by decide +kernel
theorem dX3_added_25 : decode cX3_added 25 = .ok (.dup, 1) := by decide +kernel
theorem dX3_added_26 : decode cX3_added 26 = .ok (.ldc 155, 2) := by decide +kernel
theorem dX3_added_28 : decode cX3_added 28 = .ok (.invokespecial 41, 3) := by decide +kernel
theorem dX3_added_31 : decode cX3_added 31 = .ok (.athrow, 1) := by decide +kernel
theorem dX3_added_32 : decode cX3_added 32 = .ok (.aload_n 0, 1) := by decide +kernel
theorem dX3_added_33 : decode cX3_added 33 = .ok (.iload_n 1, 1) := by decide +kernel
theorem dX3_added_34 : decode cX3_added 34 = .ok (.invokevirtual 129, 3) := by decide +kernel
theorem dX3_added_37 : decode cX3_added 37 = .ok (.aload_n 0, 1) := by decide +kernel
theorem dX3_added_38 : decode cX3_added 38 = .ok (.getfield 10, 3) := by decide +kernel
theorem dX3_added_41 : decode cX3_added 41 = .ok (.iload_n 1, 1) := by decide +kernel
theorem dX3_added_42 : decode cX3_added 42 = .ok (.iconst 1, 1) := by decide +kernel
theorem dX3_added_43 : decode cX3_added 43 = .ok (.iload_n 2, 1) := by decide +kernel
theorem dX3_added_44 : decode cX3_added 44 = .ok (.ishl, 1) := by decide +kernel
theorem dX3_added_45 : decode cX3_added 45 = .ok (.iload_n 3, 1) := by decide +kernel
theorem dX3_added_46 : decode cX3_added 46 = .ok (.invokestatic 149, 3) := by decide +kernel
theorem dX3_added_49 : decode cX3_added 49 = .ok (.invokevirtual 157, 3) := by decide +kernel
theorem dX3_added_52 : decode cX3_added 52 = .ok (.lstore 4, 2) := by decide +kernel
theorem dX3_added_54 : decode cX3_added 54 = .ok (.aload_n 0, 1) := by decide +kernel
theorem dX3_added_55 : decode cX3_added 55 = .ok (.getfield 10, 3) := by decide +kernel
theorem dX3_added_58 : decode cX3_added 58 = .ok (.iconst 1, 1) := by decide +kernel
theorem dX3_added_59 : decode cX3_added 59 = .ok (.iload_n 2, 1) := by decide +kernel
theorem dX3_added_60 : decode cX3_added 60 = .ok (.ishl, 1) := by decide +kernel
theorem dX3_added_61 : decode cX3_added 61 = .ok (.iload_n 3, 1) := by decide +kernel
theorem dX3_added_62 : decode cX3_added 62 = .ok (.invokestatic 149, 3) := by decide +kernel
theorem dX3_added_65 : decode cX3_added 65 = .ok (.invokevirtual 96, 3) := by decide +kernel
theorem dX3_added_68 : decode cX3_added 68 = .ok (.lload 4, 2) := by decide +kernel
theorem dX3_added_70 : decode cX3_added 70 = .ok (.ldc2_w 161, 3) := by decide +kernel
theorem dX3_added_73 : decode cX3_added 73 = .ok (.lxor, 1) := by decide +kernel
theorem dX3_added_74 : decode cX3_added 74 = .ok (.land, 1) := by decide +kernel
theorem dX3_added_75 : decode cX3_added 75 = .ok (.invokestatic 100, 3) := by decide +kernel
theorem dX3_added_78 : decode cX3_added 78 = .ok (.ireturn, 1) := by decide +kernel
theorem dX3_watch_0 : decode cX3_watch 0 = .ok (.iload_n 1, 1) := by decide +kernel
theorem dX3_watch_1 : decode cX3_watch 1 = .ok (.invokestatic 163, 3) := by decide +kernel
theorem dX3_watch_4 : decode cX3_watch 4 = .ok (.ifCond .eq 20, 3) := by decide +kernel
theorem dX3_watch_7 : decode cX3_watch 7 = .ok (.iload_n 2, 1) := by decide +kernel
theorem dX3_watch_8 : decode cX3_watch 8 = .ok (.invokestatic 111, 3) := by decide +kernel
theorem dX3_watch_11 : decode cX3_watch 11 = .ok (.ifCond .eq 13, 3) := by decide +kernel
theorem dX3_watch_14 : decode cX3_watch 14 = .ok (.iload_n 3, 1) := by decide +kernel
theorem dX3_watch_15 : decode cX3_watch 15 = .ok (.iconst 1, 1) := by decide +kernel
theorem dX3_watch_16 : decode cX3_watch 16 = .ok (.bipush 10, 2) := by decide +kernel
theorem dX3_watch_18 : decode cX3_watch 18 = .ok (.invokestatic 26, 3) := by decide +kernel
theorem dX3_watch_21 : decode cX3_watch 21 = .ok (.ifCond .ne 13, 3) := by decide +kernel
theorem dX3_watch_24 : decode cX3_watch 24 = .ok (.new 37, 3) := by decide +kernel
theorem dX3_watch_27 : decode cX3_watch 27 = .ok (.dup, 1) := by decide +kernel
theorem dX3_watch_28 : decode cX3_watch 28 = .ok (.ldc 166, 2) := by decide +kernel
theorem dX3_watch_30 : decode cX3_watch 30 = .ok (.invokespecial 41, 3) := by decide +kernel
theorem dX3_watch_33 : decode cX3_watch 33 = .ok (.athrow, 1) := by decide +kernel
theorem dX3_watch_34 : decode cX3_watch 34 = .ok (.aload_n 0, 1) := by decide +kernel
theorem dX3_watch_35 : decode cX3_watch 35 = .ok (.iload_n 1, 1) := by decide +kernel
theorem dX3_watch_36 : decode cX3_watch 36 = .ok (.invokevirtual 168, 3) := by decide +kernel
theorem dX3_watch_39 : decode cX3_watch 39 = .ok (.astore 4, 2) := by decide +kernel
theorem dX3_watch_41 : decode cX3_watch 41 = .ok (.aload 4, 2) := by decide +kernel
theorem dX3_watch_43 : decode cX3_watch 43 = .ok (.iload_n 2, 1) := by decide +kernel
theorem dX3_watch_44 : decode cX3_watch 44 = .ok (.putfield 172, 3) := by decide +kernel
theorem dX3_watch_47 : decode cX3_watch 47 = .ok (.aload 4, 2) := by decide +kernel
theorem dX3_watch_49 : decode cX3_watch 49 = .ok (.iload_n 3, 1) := by decide +kernel
theorem dX3_watch_50 : decode cX3_watch 50 = .ok (.putfield 175, 3) := by decide +kernel
theorem dX3_watch_53 : decode cX3_watch 53 = .ok (.return_, 1) := by decide +kernel
theorem dX3_flagOffline_0 : decode cX3_flagOffline 0 = .ok (.iload_n 1, 1) := by decide +kernel
theorem dX3_flagOffline_1 : decode cX3_flagOffline 1 = .ok (.invokestatic 163, 3) := by decide +kernel
theorem dX3_flagOffline_4 : decode cX3_flagOffline 4 = .ok (.ifCond .eq 10, 3) := by decide +kernel
theorem dX3_flagOffline_7 : decode cX3_flagOffline 7 = .ok (.iload_n 3, 1) := by decide +kernel
theorem dX3_flagOffline_8 : decode cX3_flagOffline 8 = .ok (.invokestatic 76, 3) := by decide +kernel
theorem dX3_flagOffline_11 : decode cX3_flagOffline 11 = .ok (.ifCond .ne 13, 3) := by decide +kernel
theorem dX3_flagOffline_14 : decode cX3_flagOffline 14 = .ok (.new 37, 3) := by decide +kernel
theorem dX3_flagOffline_17 : decode cX3_flagOffline 17 = .ok (.dup, 1) := by decide +kernel
theorem dX3_flagOffline_18 : decode cX3_flagOffline 18 = .ok (.ldc 178, 2) := by decide +kernel
theorem dX3_flagOffline_20 : decode cX3_flagOffline 20 = .ok (.invokespecial 41, 3) := by decide +kernel
theorem dX3_flagOffline_23 : decode cX3_flagOffline 23 = .ok (.athrow, 1) := by decide +kernel
theorem dX3_flagOffline_24 : decode cX3_flagOffline 24 = .ok (.aload_n 0, 1) := by decide +kernel
theorem dX3_flagOffline_25 : decode cX3_flagOffline 25 = .ok (.iload_n 1, 1) := by decide +kernel
theorem dX3_flagOffline_26 : decode cX3_flagOffline 26 = .ok (.invokevirtual 168, 3) := by decide +kernel
theorem dX3_flagOffline_29 : decode cX3_flagOffline 29 = .ok (.astore 5, 2) := by decide +kernel
theorem dX3_flagOffline_31 : decode cX3_flagOffline 31 = .ok (.aload 5, 2) := by decide +kernel
theorem dX3_flagOffline_33 : decode cX3_flagOffline 33 = .ok (.iload_n 2, 1) := by decide +kernel
theorem dX3_flagOffline_34 : decode cX3_flagOffline 34 = .ok (.invokevirtual 180, 3) := by decide +kernel
theorem dX3_flagOffline_37 : decode cX3_flagOffline 37 = .ok (.istore 6, 2) := by decide +kernel
theorem dX3_flagOffline_39 : decode cX3_flagOffline 39 = .ok (.iload 6, 2) := by decide +kernel
theorem dX3_flagOffline_41 : decode cX3_flagOffline 41 = .ok (.iconst (-1), 1) := by decide +kernel
theorem dX3_flagOffline_42 : decode cX3_flagOffline 42 = .ok (.if_icmp .ne 13, 3) := by decide +kernel
theorem dX3_flagOffline_45 : decode cX3_flagOffline 45 = .ok (.new 37, 3) := by decide +kernel
theorem dX3_flagOffline_48 : decode cX3_flagOffline 48 = .ok (.dup, 1) := by decide +kernel
theorem dX3_flagOffline_49 : decode cX3_flagOffline 49 = .ok (.ldc 183, 2) := by decide +kernel
theorem dX3_flagOffline_51 : decode cX3_flagOffline 51 = .ok (.invokespecial 41, 3) := by decide +kernel
theorem dX3_flagOffline_54 : decode cX3_flagOffline 54 = .ok (.athrow, 1) := by decide +kernel
theorem dX3_flagOffline_55 : decode cX3_flagOffline 55 = .ok (.aload 5, 2) := by decide +kernel
theorem dX3_flagOffline_57 : decode cX3_flagOffline 57 = .ok (.getfield 185, 3) := by decide +kernel
theorem dX3_flagOffline_60 : decode cX3_flagOffline 60 = .ok (.bipush 10, 2) := by decide +kernel
theorem dX3_flagOffline_62 : decode cX3_flagOffline 62 = .ok (.if_icmp .lt 13, 3) := by decide +kernel
theorem dX3_flagOffline_65 : decode cX3_flagOffline 65 = .ok (.new 48, 3) := by decide +kernel
theorem dX3_flagOffline_68 : decode cX3_flagOffline 68 = .ok (.dup, 1) := by decide +kernel
theorem dX3_flagOffline_69 : decode cX3_flagOffline 69 = .ok (.ldc 188, 2) := by decide +kernel
theorem dX3_flagOffline_71 : decode cX3_flagOffline 71 = .ok (.invokespecial 52, 3) := by decide +kernel
theorem dX3_flagOffline_74 : decode cX3_flagOffline 74 = .ok (.athrow, 1) := by decide +kernel
theorem dX3_flagOffline_75 : decode cX3_flagOffline 75 = .ok (.aload 5, 2) := by decide +kernel
theorem dX3_flagOffline_77 : decode cX3_flagOffline 77 = .ok (.iload 6, 2) := by decide +kernel
theorem dX3_flagOffline_79 : decode cX3_flagOffline 79 = .ok (.iload_n 3, 1) := by decide +kernel
theorem dX3_flagOffline_80 : decode cX3_flagOffline 80 = .ok (.iload 4, 2) := by decide +kernel
theorem dX3_flagOffline_82 : decode cX3_flagOffline 82 = .ok (.invokevirtual 190, 3) := by decide +kernel
theorem dX3_flagOffline_85 : decode cX3_flagOffline 85 = .ok (.aload 5, 2) := by decide +kernel
theorem dX3_flagOffline_87 : decode cX3_flagOffline 87 = .ok (.getfield 185, 3) := by decide +kernel
theorem dX3_flagOffline_90 : decode cX3_flagOffline 90 = .ok (.ireturn, 1) := by decide +kernel
theorem dX3_sync_0 : decode cX3_sync 0 = .ok (.iload_n 1, 1) := by decide +kernel
theorem dX3_sync_1 : decode cX3_sync 1 = .ok (.invokestatic 194, 3) := by decide +kernel
theorem dX3_sync_4 : decode cX3_sync 4 = .ok (.aload_n 0, 1) := by decide +kernel
theorem dX3_sync_5 : decode cX3_sync 5 = .ok (.iload_n 1, 1) := by decide +kernel
theorem dX3_sync_6 : decode cX3_sync 6 = .ok (.invokevirtual 168, 3) := by decide +kernel
theorem dX3_sync_9 : decode cX3_sync 9 = .ok (.astore_n 2, 1) := by decide +kernel
theorem dX3_sync_10 : decode cX3_sync 10 = .ok (.aload_n 0, 1) := by decide +kernel
theorem dX3_sync_11 : decode cX3_sync 11 = .ok (.getfield 10, 3) := by decide +kernel
theorem dX3_sync_14 : decode cX3_sync 14 = .ok (.getfield 85, 3) := by decide +kernel
theorem dX3_sync_17 : decode cX3_sync 17 = .ok (.aload_n 2, 1) := by decide +kernel
theorem dX3_sync_18 : decode cX3_sync 18 = .ok (.getfield 197, 3) := by decide +kernel
theorem dX3_sync_21 : decode cX3_sync 21 = .ok (.invokevirtual 121, 3) := by decide +kernel
theorem dX3_sync_24 : decode cX3_sync 24 = .ok (.ifCond .ne 13, 3) := by decide +kernel
theorem dX3_sync_27 : decode cX3_sync 27 = .ok (.aload_n 2, 1) := by decide +kernel
theorem dX3_sync_28 : decode cX3_sync 28 = .ok (.dup, 1) := by decide +kernel
theorem dX3_sync_29 : decode cX3_sync 29 = .ok (.getfield 200, 3) := by decide +kernel
theorem dX3_sync_32 : decode cX3_sync 32 = .ok (.iconst 1, 1) := by decide +kernel
theorem dX3_sync_33 : decode cX3_sync 33 = .ok (.iadd, 1) := by decide +kernel
theorem dX3_sync_34 : decode cX3_sync 34 = .ok (.putfield 200, 3) := by decide +kernel
theorem dX3_sync_37 : decode cX3_sync 37 = .ok (.aload_n 2, 1) := by decide +kernel
theorem dX3_sync_38 : decode cX3_sync 38 = .ok (.aload_n 0, 1) := by decide +kernel
theorem dX3_sync_39 : decode cX3_sync 39 = .ok (.getfield 10, 3) := by decide +kernel
theorem dX3_sync_42 : decode cX3_sync 42 = .ok (.invokevirtual 203, 3) := by decide +kernel
theorem dX3_sync_45 : decode cX3_sync 45 = .ok (.istore_n 3, 1) := by decide +kernel
theorem dX3_sync_46 : decode cX3_sync 46 = .ok (.aload_n 2, 1) := by decide +kernel
theorem dX3_sync_47 : decode cX3_sync 47 = .ok (.aload_n 0, 1) := by decide +kernel
theorem dX3_sync_48 : decode cX3_sync 48 = .ok (.getfield 10, 3) := by decide +kernel
theorem dX3_sync_51 : decode cX3_sync 51 = .ok (.invokevirtual 207, 3) := by decide +kernel
theorem dX3_sync_54 : decode cX3_sync 54 = .ok (.aload_n 2, 1) := by decide +kernel
theorem dX3_sync_55 : decode cX3_sync 55 = .ok (.aload_n 0, 1) := by decide +kernel
theorem dX3_sync_56 : decode cX3_sync 56 = .ok (.getfield 10, 3) := by decide +kernel
theorem dX3_sync_59 : decode cX3_sync 59 = .ok (.invokevirtual 211, 3) := by decide +kernel
theorem dX3_sync_62 : decode cX3_sync 62 = .ok (.iload_n 3, 1) := by decide +kernel
theorem dX3_sync_63 : decode cX3_sync 63 = .ok (.ireturn, 1) := by decide +kernel
theorem dX3_stateOf_0 : decode cX3_stateOf 0 = .ok (.iload_n 1, 1) := by decide +kernel
theorem dX3_stateOf_1 : decode cX3_stateOf 1 = .ok (.invokestatic 194, 3) := by decide +kernel
theorem dX3_stateOf_4 : decode cX3_stateOf 4 = .ok (.aload_n 0, 1) := by decide +kernel
theorem dX3_stateOf_5 : decode cX3_stateOf 5 = .ok (.iload_n 1, 1) := by decide +kernel
theorem dX3_stateOf_6 : decode cX3_stateOf 6 = .ok (.invokevirtual 168, 3) := by decide +kernel
theorem dX3_stateOf_9 : decode cX3_stateOf 9 = .ok (.getfield 197, 3) := by decide +kernel
theorem dX3_stateOf_12 : decode cX3_stateOf 12 = .ok (.ireturn, 1) := by decide +kernel
theorem dX3_window_0 : decode cX3_window 0 = .ok (.iload_n 1, 1) := by decide +kernel
