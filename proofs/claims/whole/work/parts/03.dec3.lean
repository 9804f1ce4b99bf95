theorem dX4_foundOne_45 : decode cX4_foundOne 45 = .ok (.getfield 7, 3) := by decide +kernel
theorem dX4_foundOne_48 : decode cX4_foundOne 48 = .ok (.iload 6, 2) := by decide +kernel
theorem dX4_foundOne_50 : decode cX4_foundOne 50 = .ok (.iaload, 1) := by decide +kernel
theorem dX4_foundOne_51 : decode cX4_foundOne 51 = .ok (.aload_n 0, 1) := by decide +kernel
theorem dX4_foundOne_52 : decode cX4_foundOne 52 = .ok (.getfield 7, 3) := by decide +kernel
theorem dX4_foundOne_55 : decode cX4_foundOne 55 = .ok (.iload 4, 2) := by decide +kernel
theorem dX4_foundOne_57 : decode cX4_foundOne 57 = .ok (.iaload, 1) := by decide +kernel
theorem dX4_foundOne_58 : decode cX4_foundOne 58 = .ok (.if_icmp .ne 14, 3) := by decide +kernel
theorem dX4_foundOne_61 : decode cX4_foundOne 61 = .ok (.iload 6, 2) := by decide +kernel
theorem dX4_foundOne_63 : decode cX4_foundOne 63 = .ok (.iload 4, 2) := by decide +kernel
theorem dX4_foundOne_65 : decode cX4_foundOne 65 = .ok (.if_icmp .le 7, 3) := by decide +kernel
theorem dX4_foundOne_68 : decode cX4_foundOne 68 = .ok (.iconst 1, 1) := by decide +kernel
theorem dX4_foundOne_69 : decode cX4_foundOne 69 = .ok (.goto 4, 3) := by decide +kernel
theorem dX4_foundOne_72 : decode cX4_foundOne 72 = .ok (.iconst 0, 1) := by decide +kernel
theorem dX4_foundOne_73 : decode cX4_foundOne 73 = .ok (.istore 7, 2) := by decide +kernel
theorem dX4_foundOne_75 : decode cX4_foundOne 75 = .ok (.iload 5, 2) := by decide +kernel
theorem dX4_foundOne_77 : decode cX4_foundOne 77 = .ok (.aload_n 0, 1) := by decide +kernel
theorem dX4_foundOne_78 : decode cX4_foundOne 78 = .ok (.iload 6, 2) := by decide +kernel
theorem dX4_foundOne_80 : decode cX4_foundOne 80 = .ok (.iload_n 1, 1) := by decide +kernel
theorem dX4_foundOne_81 : decode cX4_foundOne 81 = .ok (.iload_n 2, 1) := by decide +kernel
theorem dX4_foundOne_82 : decode cX4_foundOne 82 = .ok (.invokevirtual 112, 3) := by decide +kernel
theorem dX4_foundOne_85 : decode cX4_foundOne 85 = .ok (.ifCond .eq 12, 3) := by decide +kernel
theorem dX4_foundOne_88 : decode cX4_foundOne 88 = .ok (.iload 7, 2) := by decide +kernel
theorem dX4_foundOne_90 : decode cX4_foundOne 90 = .ok (.ifCond .eq 7, 3) := by decide +kernel
theorem dX4_foundOne_93 : decode cX4_foundOne 93 = .ok (.iconst 1, 1) := by decide +kernel
theorem dX4_foundOne_94 : decode cX4_foundOne 94 = .ok (.goto 4, 3) := by decide +kernel
theorem dX4_foundOne_97 : decode cX4_foundOne 97 = .ok (.iconst 0, 1) := by decide +kernel
theorem dX4_foundOne_98 : decode cX4_foundOne 98 = .ok (.iadd, 1) := by decide +kernel
theorem dX4_foundOne_99 : decode cX4_foundOne 99 = .ok (.istore 5, 2) := by decide +kernel
theorem dX4_foundOne_101 : decode cX4_foundOne 101 = .ok (.iinc 6 1, 3) := by decide +kernel
theorem dX4_foundOne_104 : decode cX4_foundOne 104 = .ok (.goto (-86), 3) := by decide +kernel
theorem dX4_foundOne_107 : decode cX4_foundOne 107 = .ok (.aload_n 0, 1) := by decide +kernel
theorem dX4_foundOne_108 : decode cX4_foundOne 108 = .ok (.iload 4, 2) := by decide +kernel
theorem dX4_foundOne_110 : decode cX4_foundOne 110 = .ok (.iload_n 1, 1) := by decide +kernel
theorem dX4_foundOne_111 : decode cX4_foundOne 111 = .ok (.iload_n 2, 1) := by decide +kernel
theorem dX4_foundOne_112 : decode cX4_foundOne 112 = .ok (.invokevirtual 112, 3) := by decide +kernel
theorem dX4_foundOne_115 : decode cX4_foundOne 115 = .ok (.ifCond .eq 12, 3) := by decide +kernel
theorem dX4_foundOne_118 : decode cX4_foundOne 118 = .ok (.iload 5, 2) := by decide +kernel
theorem dX4_foundOne_120 : decode cX4_foundOne 120 = .ok (.iload_n 3, 1) := by decide +kernel
theorem dX4_foundOne_121 : decode cX4_foundOne 121 = .ok (.if_icmp .ne 6, 3) := by decide +kernel
theorem dX4_foundOne_124 : decode cX4_foundOne 124 = .ok (.iload 4, 2) := by decide +kernel
theorem dX4_foundOne_126 : decode cX4_foundOne 126 = .ok (.ireturn, 1) := by decide +kernel
theorem dX4_foundOne_127 : decode cX4_foundOne 127 = .ok (.iinc 4 1, 3) := by decide +kernel
theorem dX4_foundOne_130 : decode cX4_foundOne 130 = .ok (.goto (-127), 3) := by decide +kernel
theorem dX4_foundOne_133 : decode cX4_foundOne 133 = .ok (.iconst (-1), 1) := by decide +kernel
theorem dX4_foundOne_134 : decode cX4_foundOne 134 = .ok (.ireturn, 1) := by decide +kernel
theorem dX4_foundAt_0 : decode cX4_foundAt 0 = .ok (.iload_n 1, 1) := by decide +kernel
theorem dX4_foundAt_1 : decode cX4_foundAt 1 = .ok (.iload_n 2, 1) := by decide +kernel
theorem dX4_foundAt_2 : decode cX4_foundAt 2 = .ok (.invokestatic 140, 3) := by decide +kernel
theorem dX4_foundAt_5 : decode cX4_foundAt 5 = .ok (.ifCond .eq 7, 3) := by decide +kernel
theorem dX4_foundAt_8 : decode cX4_foundAt 8 = .ok (.iconst 0, 1) := by decide +kernel
theorem dX4_foundAt_9 : decode cX4_foundAt 9 = .ok (.goto 4, 3) := by decide +kernel
theorem dX4_foundAt_12 : decode cX4_foundAt 12 = .ok (.iconst 1, 1) := by decide +kernel
theorem dX4_foundAt_13 : decode cX4_foundAt 13 = .ok (.istore 4, 2) := by decide +kernel
theorem dX4_foundAt_15 : decode cX4_foundAt 15 = .ok (.aload_n 0, 1) := by decide +kernel
theorem dX4_foundAt_16 : decode cX4_foundAt 16 = .ok (.iload 4, 2) := by decide +kernel
theorem dX4_foundAt_18 : decode cX4_foundAt 18 = .ok (.ifCond .ne 23, 3) := by decide +kernel
theorem dX4_foundAt_21 : decode cX4_foundAt 21 = .ok (.iload_n 3, 1) := by decide +kernel
theorem dX4_foundAt_22 : decode cX4_foundAt 22 = .ok (.iconst 0, 1) := by decide +kernel
theorem dX4_foundAt_23 : decode cX4_foundAt 23 = .ok (.aload_n 0, 1) := by decide +kernel
theorem dX4_foundAt_24 : decode cX4_foundAt 24 = .ok (.iload_n 1, 1) := by decide +kernel
theorem dX4_foundAt_25 : decode cX4_foundAt 25 = .ok (.iload_n 2, 1) := by decide +kernel
theorem dX4_foundAt_26 : decode cX4_foundAt 26 = .ok (.invokevirtual 115, 3) := by decide +kernel
theorem dX4_foundAt_29 : decode cX4_foundAt 29 = .ok (.iconst 1, 1) := by decide +kernel
theorem dX4_foundAt_30 : decode cX4_foundAt 30 = .ok (.isub, 1) := by decide +kernel
theorem dX4_foundAt_31 : decode cX4_foundAt 31 = .ok (.invokestatic 87, 3) := by decide +kernel
theorem dX4_foundAt_34 : decode cX4_foundAt 34 = .ok (.ifCond .ne 7, 3) := by decide +kernel
theorem dX4_foundAt_37 : decode cX4_foundAt 37 = .ok (.iconst 2, 1) := by decide +kernel
theorem dX4_foundAt_38 : decode cX4_foundAt 38 = .ok (.goto 5, 3) := by decide +kernel
theorem dX4_foundAt_41 : decode cX4_foundAt 41 = .ok (.iload 4, 2) := by decide +kernel
theorem dX4_foundAt_43 : decode cX4_foundAt 43 = .ok (.invokevirtual 94, 3) := by decide +kernel
theorem dX4_foundAt_46 : decode cX4_foundAt 46 = .ok (.ifCond .ne 5, 3) := by decide +kernel
theorem dX4_foundAt_49 : decode cX4_foundAt 49 = .ok (.iconst 0, 1) := by decide +kernel
theorem dX4_foundAt_50 : decode cX4_foundAt 50 = .ok (.ireturn, 1) := by decide +kernel
theorem dX4_foundAt_51 : decode cX4_foundAt 51 = .ok (.aload_n 0, 1) := by decide +kernel
theorem dX4_foundAt_52 : decode cX4_foundAt 52 = .ok (.iload_n 1, 1) := by decide +kernel
theorem dX4_foundAt_53 : decode cX4_foundAt 53 = .ok (.iload_n 2, 1) := by decide +kernel
theorem dX4_foundAt_54 : decode cX4_foundAt 54 = .ok (.iload_n 3, 1) := by decide +kernel
theorem dX4_foundAt_55 : decode cX4_foundAt 55 = .ok (.invokevirtual 143, 3) := by decide +kernel
theorem dX4_foundAt_58 : decode cX4_foundAt 58 = .ok (.ireturn, 1) := by decide +kernel
theorem dX4_wasFound_0 : decode cX4_wasFound 0 = .ok (.aload_n 0, 1) := by decide +kernel
theorem dX4_wasFound_1 : decode cX4_wasFound 1 = .ok (.getfield 13, 3) := by decide +kernel
theorem dX4_wasFound_4 : decode cX4_wasFound 4 = .ok (.iload_n 1, 1) := by decide +kernel
theorem dX4_wasFound_5 : decode cX4_wasFound 5 = .ok (.iaload, 1) := by decide +kernel
theorem dX4_wasFound_6 : decode cX4_wasFound 6 = .ok (.istore 5, 2) := by decide +kernel
theorem dX4_wasFound_8 : decode cX4_wasFound 8 = .ok (.aload_n 0, 1) := by decide +kernel
theorem dX4_wasFound_9 : decode cX4_wasFound 9 = .ok (.getfield 16, 3) := by decide +kernel
theorem dX4_wasFound_12 : decode cX4_wasFound 12 = .ok (.iload_n 1, 1) := by decide +kernel
theorem dX4_wasFound_13 : decode cX4_wasFound 13 = .ok (.iaload, 1) := by decide +kernel
theorem dX4_wasFound_14 : decode cX4_wasFound 14 = .ok (.istore 6, 2) := by decide +kernel
theorem dX4_wasFound_16 : decode cX4_wasFound 16 = .ok (.aload_n 0, 1) := by decide +kernel
theorem dX4_wasFound_17 : decode cX4_wasFound 17 = .ok (.getfield 91, 3) := by decide +kernel
theorem dX4_wasFound_20 : decode cX4_wasFound 20 = .ok (.iconst 1, 1) := by decide +kernel
theorem dX4_wasFound_21 : decode cX4_wasFound 21 = .ok (.isub, 1) := by decide +kernel
theorem dX4_wasFound_22 : decode cX4_wasFound 22 = .ok (.istore 7, 2) := by decide +kernel
theorem dX4_wasFound_24 : decode cX4_wasFound 24 = .ok (.iload 7, 2) := by decide +kernel
theorem dX4_wasFound_26 : decode cX4_wasFound 26 = .ok (.iload_n 2, 1) := by decide +kernel
theorem dX4_wasFound_27 : decode cX4_wasFound 27 = .ok (.if_icmp .lt 38, 3) := by decide +kernel
theorem dX4_wasFound_30 : decode cX4_wasFound 30 = .ok (.aload_n 0, 1) := by decide +kernel
theorem dX4_wasFound_31 : decode cX4_wasFound 31 = .ok (.getfield 31, 3) := by decide +kernel
theorem dX4_wasFound_34 : decode cX4_wasFound 34 = .ok (.iload 7, 2) := by decide +kernel
theorem dX4_wasFound_36 : decode cX4_wasFound 36 = .ok (.iaload, 1) := by decide +kernel
theorem dX4_wasFound_37 : decode cX4_wasFound 37 = .ok (.iload_n 1, 1) := by decide +kernel
theorem dX4_wasFound_38 : decode cX4_wasFound 38 = .ok (.if_icmp .ne 21, 3) := by decide +kernel
theorem dX4_wasFound_41 : decode cX4_wasFound 41 = .ok (.aload_n 0, 1) := by decide +kernel
theorem dX4_wasFound_42 : decode cX4_wasFound 42 = .ok (.getfield 34, 3) := by decide +kernel
theorem dX4_wasFound_45 : decode cX4_wasFound 45 = .ok (.iload 7, 2) := by decide +kernel
theorem dX4_wasFound_47 : decode cX4_wasFound 47 = .ok (.iaload, 1) := by decide +kernel
theorem dX4_wasFound_48 : decode cX4_wasFound 48 = .ok (.istore 5, 2) := by decide +kernel
theorem dX4_wasFound_50 : decode cX4_wasFound 50 = .ok (.aload_n 0, 1) := by decide +kernel
theorem dX4_wasFound_51 : decode cX4_wasFound 51 = .ok (.getfield 37, 3) := by decide +kernel
theorem dX4_wasFound_54 : decode cX4_wasFound 54 = .ok (.iload 7, 2) := by decide +kernel
theorem dX4_wasFound_56 : decode cX4_wasFound 56 = .ok (.iaload, 1) := by decide +kernel
theorem dX4_wasFound_57 : decode cX4_wasFound 57 = .ok (.istore 6, 2) := by decide +kernel
theorem dX4_wasFound_59 : decode cX4_wasFound 59 = .ok (.iinc 7 (-1), 3) := by decide +kernel
theorem dX4_wasFound_62 : decode cX4_wasFound 62 = .ok (.goto (-38), 3) := by decide +kernel
theorem dX4_wasFound_65 : decode cX4_wasFound 65 = .ok (.aload_n 0, 1) := by decide +kernel
theorem dX4_wasFound_66 : decode cX4_wasFound 66 = .ok (.iload_n 1, 1) := by decide +kernel
theorem dX4_wasFound_67 : decode cX4_wasFound 67 = .ok (.iload_n 2, 1) := by decide +kernel
theorem dX4_wasFound_68 : decode cX4_wasFound 68 = .ok (.invokevirtual 125, 3) := by decide +kernel
theorem dX4_wasFound_71 : decode cX4_wasFound 71 = .ok (.ifCond .eq 32, 3) := by decide +kernel
theorem dX4_wasFound_74 : decode cX4_wasFound 74 = .ok (.iload 5, 2) := by decide +kernel
theorem dX4_wasFound_76 : decode cX4_wasFound 76 = .ok (.iload_n 3, 1) := by decide +kernel
theorem dX4_wasFound_77 : decode cX4_wasFound 77 = .ok (.invokestatic 105, 3) := by decide +kernel
theorem dX4_wasFound_80 : decode cX4_wasFound 80 = .ok (.ifCond .eq 23, 3) := by decide +kernel
theorem dX4_wasFound_83 : decode cX4_wasFound 83 = .ok (.iload 4, 2) := by decide +kernel
theorem dX4_wasFound_85 : decode cX4_wasFound 85 = .ok (.iconst (-1), 1) := by decide +kernel
theorem dX4_wasFound_86 : decode cX4_wasFound 86 = .ok (.if_icmp .eq 13, 3) := by decide +kernel
theorem dX4_wasFound_89 : decode cX4_wasFound 89 = .ok (.iload 6, 2) := by decide +kernel
theorem dX4_wasFound_91 : decode cX4_wasFound 91 = .ok (.iload 4, 2) := by decide +kernel
theorem dX4_wasFound_93 : decode cX4_wasFound 93 = .ok (.invokestatic 105, 3) := by decide +kernel
theorem dX4_wasFound_96 : decode cX4_wasFound 96 = .ok (.ifCond .eq 7, 3) := by decide +kernel
theorem dX4_wasFound_99 : decode cX4_wasFound 99 = .ok (.iconst 1, 1) := by decide +kernel
theorem dX4_wasFound_100 : decode cX4_wasFound 100 = .ok (.goto 4, 3) := by decide +kernel
theorem dX4_wasFound_103 : decode cX4_wasFound 103 = .ok (.iconst 0, 1) := by decide +kernel
theorem dX4_wasFound_104 : decode cX4_wasFound 104 = .ok (.ireturn, 1) := by decide +kernel
theorem dX4_removed_0 : decode cX4_removed 0 = .ok (.iconst 0, 1) := by decide +kernel
theorem dX4_removed_1 : decode cX4_removed 1 = .ok (.istore 4, 2) := by decide +kernel
theorem dX4_removed_3 : decode cX4_removed 3 = .ok (.aload_n 0, 1) := by decide +kernel
theorem dX4_removed_4 : decode cX4_removed 4 = .ok (.aload_n 0, 1) := by decide +kernel
theorem dX4_removed_5 : decode cX4_removed 5 = .ok (.iload_n 1, 1) := by decide +kernel
theorem dX4_removed_6 : decode cX4_removed 6 = .ok (.invokevirtual 119, 3) := by decide +kernel
theorem dX4_removed_9 : decode cX4_removed 9 = .ok (.ifCond .eq 11, 3) := by decide +kernel
theorem dX4_removed_12 : decode cX4_removed 12 = .ok (.iload_n 2, 1) := by decide +kernel
theorem dX4_removed_13 : decode cX4_removed 13 = .ok (.iload_n 3, 1) := by decide +kernel
theorem dX4_removed_14 : decode cX4_removed 14 = .ok (.invokestatic 140, 3) := by decide +kernel
theorem dX4_removed_17 : decode cX4_removed 17 = .ok (.ifCond .ne 7, 3) := by decide +kernel
theorem dX4_removed_20 : decode cX4_removed 20 = .ok (.iconst 1, 1) := by decide +kernel
theorem dX4_removed_21 : decode cX4_removed 21 = .ok (.goto 16, 3) := by decide +kernel
theorem dX4_removed_24 : decode cX4_removed 24 = .ok (.aload_n 0, 1) := by decide +kernel
theorem dX4_removed_25 : decode cX4_removed 25 = .ok (.iload_n 1, 1) := by decide +kernel
theorem dX4_removed_26 : decode cX4_removed 26 = .ok (.invokevirtual 122, 3) := by decide +kernel
theorem dX4_removed_29 : decode cX4_removed 29 = .ok (.ifCond .ne 7, 3) := by decide +kernel
theorem dX4_removed_32 : decode cX4_removed 32 = .ok (.iconst 2, 1) := by decide +kernel
theorem dX4_removed_33 : decode cX4_removed 33 = .ok (.goto 4, 3) := by decide +kernel
theorem dX4_removed_36 : decode cX4_removed 36 = .ok (.iconst 0, 1) := by decide +kernel
theorem dX4_removed_37 : decode cX4_removed 37 = .ok (.invokevirtual 94, 3) := by decide +kernel
theorem dX4_removed_40 : decode cX4_removed 40 = .ok (.ifCond .eq 54, 3) := by decide +kernel
theorem dX4_removed_43 : decode cX4_removed 43 = .ok (.iconst 0, 1) := by decide +kernel
theorem dX4_removed_44 : decode cX4_removed 44 = .ok (.istore 5, 2) := by decide +kernel
theorem dX4_removed_46 : decode cX4_removed 46 = .ok (.iload 5, 2) := by decide +kernel
theorem dX4_removed_48 : decode cX4_removed 48 = .ok (.aload_n 0, 1) := by decide +kernel
theorem dX4_removed_49 : decode cX4_removed 49 = .ok (.getfield 84, 3) := by decide +kernel
theorem dX4_removed_52 : decode cX4_removed 52 = .ok (.if_icmp .ge 42, 3) := by decide +kernel
theorem dX4_removed_55 : decode cX4_removed 55 = .ok (.iload 4, 2) := by decide +kernel
theorem dX4_removed_57 : decode cX4_removed 57 = .ok (.aload_n 0, 1) := by decide +kernel
theorem dX4_removed_58 : decode cX4_removed 58 = .ok (.iload 5, 2) := by decide +kernel
theorem dX4_removed_60 : decode cX4_removed 60 = .ok (.iload_n 1, 1) := by decide +kernel
theorem dX4_removed_61 : decode cX4_removed 61 = .ok (.iload_n 2, 1) := by decide +kernel
theorem dX4_removed_62 : decode cX4_removed 62 = .ok (.iload_n 3, 1) := by decide +kernel
theorem dX4_removed_63 : decode cX4_removed 63 = .ok (.invokevirtual 147, 3) := by decide +kernel
theorem dX4_removed_66 : decode cX4_removed 66 = .ok (.ifCond .eq 18, 3) := by decide +kernel
theorem dX4_removed_69 : decode cX4_removed 69 = .ok (.aload_n 0, 1) := by decide +kernel
theorem dX4_removed_70 : decode cX4_removed 70 = .ok (.iload 5, 2) := by decide +kernel
theorem dX4_removed_72 : decode cX4_removed 72 = .ok (.iload_n 2, 1) := by decide +kernel
theorem dX4_removed_73 : decode cX4_removed 73 = .ok (.iload_n 3, 1) := by decide +kernel
theorem dX4_removed_74 : decode cX4_removed 74 = .ok (.invokevirtual 112, 3) := by decide +kernel
theorem dX4_removed_77 : decode cX4_removed 77 = .ok (.ifCond .ne 7, 3) := by decide +kernel
theorem dX4_removed_80 : decode cX4_removed 80 = .ok (.iconst 1, 1) := by decide +kernel
theorem dX4_removed_81 : decode cX4_removed 81 = .ok (.goto 4, 3) := by decide +kernel
theorem dX4_removed_84 : decode cX4_removed 84 = .ok (.iconst 0, 1) := by decide +kernel
theorem dX4_removed_85 : decode cX4_removed 85 = .ok (.iadd, 1) := by decide +kernel
theorem dX4_removed_86 : decode cX4_removed 86 = .ok (.istore 4, 2) := by decide +kernel
theorem dX4_removed_88 : decode cX4_removed 88 = .ok (.iinc 5 1, 3) := by decide +kernel
theorem dX4_removed_91 : decode cX4_removed 91 = .ok (.goto (-45), 3) := by decide +kernel
theorem dX4_removed_94 : decode cX4_removed 94 = .ok (.iload 4, 2) := by decide +kernel
theorem dX4_removed_96 : decode cX4_removed 96 = .ok (.ireturn, 1) := by decide +kernel
theorem dX4_added_0 : decode cX4_added 0 = .ok (.iconst 0, 1) := by decide +kernel
theorem dX4_added_1 : decode cX4_added 1 = .ok (.istore 4, 2) := by decide +kernel
theorem dX4_added_3 : decode cX4_added 3 = .ok (.aload_n 0, 1) := by decide +kernel
theorem dX4_added_4 : decode cX4_added 4 = .ok (.aload_n 0, 1) := by decide +kernel
theorem dX4_added_5 : decode cX4_added 5 = .ok (.iload_n 1, 1) := by decide +kernel
theorem dX4_added_6 : decode cX4_added 6 = .ok (.invokevirtual 119, 3) := by decide +kernel
theorem dX4_added_9 : decode cX4_added 9 = .ok (.ifCond .eq 11, 3) := by decide +kernel
theorem dX4_added_12 : decode cX4_added 12 = .ok (.iload_n 2, 1) := by decide +kernel
theorem dX4_added_13 : decode cX4_added 13 = .ok (.iload_n 3, 1) := by decide +kernel
theorem dX4_added_14 : decode cX4_added 14 = .ok (.invokestatic 140, 3) := by decide +kernel
theorem dX4_added_17 : decode cX4_added 17 = .ok (.ifCond .ne 7, 3) := by decide +kernel
theorem dX4_added_20 : decode cX4_added 20 = .ok (.iconst 1, 1) := by decide +kernel
theorem dX4_added_21 : decode cX4_added 21 = .ok (.goto 16, 3) := by decide +kernel
theorem dX4_added_24 : decode cX4_added 24 = .ok (.aload_n 0, 1) := by decide +kernel
theorem dX4_added_25 : decode cX4_added 25 = .ok (.iload_n 1, 1) := by decide +kernel
theorem dX4_added_26 : decode cX4_added 26 = .ok (.invokevirtual 122, 3) := by decide +kernel
theorem dX4_added_29 : decode cX4_added 29 = .ok (.ifCond .ne 7, 3) := by decide +kernel
theorem dX4_added_32 : decode cX4_added 32 = .ok (.iconst 2, 1) := by decide +kernel
theorem dX4_added_33 : decode cX4_added 33 = .ok (.goto 4, 3) := by decide +kernel
theorem dX4_added_36 : decode cX4_added 36 = .ok (.iconst 0, 1) := by decide +kernel
theorem dX4_added_37 : decode cX4_added 37 = .ok (.invokevirtual 94, 3) := by decide +kernel
theorem dX4_added_40 : decode cX4_added 40 = .ok (.ifCond .eq 54, 3) := by decide +kernel
theorem dX4_added_43 : decode cX4_added 43 = .ok (.iconst 0, 1) := by decide +kernel
theorem dX4_added_44 : decode cX4_added 44 = .ok (.istore 5, 2) := by decide +kernel
theorem dX4_added_46 : decode cX4_added 46 = .ok (.iload 5, 2) := by decide +kernel
theorem dX4_added_48 : decode cX4_added 48 = .ok (.aload_n 0, 1) := by decide +kernel
theorem dX4_added_49 : decode cX4_added 49 = .ok (.getfield 84, 3) := by decide +kernel
theorem dX4_added_52 : decode cX4_added 52 = .ok (.if_icmp .ge 42, 3) := by decide +kernel
theorem dX4_added_55 : decode cX4_added 55 = .ok (.iload 4, 2) := by decide +kernel
theorem dX4_added_57 : decode cX4_added 57 = .ok (.aload_n 0, 1) := by decide +kernel
theorem dX4_added_58 : decode cX4_added 58 = .ok (.iload 5, 2) := by decide +kernel
theorem dX4_added_60 : decode cX4_added 60 = .ok (.iload_n 1, 1) := by decide +kernel
theorem dX4_added_61 : decode cX4_added 61 = .ok (.iload_n 2, 1) := by decide +kernel
theorem dX4_added_62 : decode cX4_added 62 = .ok (.iload_n 3, 1) := by decide +kernel
theorem dX4_added_63 : decode cX4_added 63 = .ok (.invokevirtual 147, 3) := by decide +kernel
theorem dX4_added_66 : decode cX4_added 66 = .ok (.ifCond .ne 18, 3) := by decide +kernel
theorem dX4_added_69 : decode cX4_added 69 = .ok (.aload_n 0, 1) := by decide +kernel
theorem dX4_added_70 : decode cX4_added 70 = .ok (.iload 5, 2) := by decide +kernel
theorem dX4_added_72 : decode cX4_added 72 = .ok (.iload_n 2, 1) := by decide +kernel
theorem dX4_added_73 : decode cX4_added 73 = .ok (.iload_n 3, 1) := by decide +kernel
theorem dX4_added_74 : decode cX4_added 74 = .ok (.invokevirtual 112, 3) := by decide +kernel
theorem dX4_added_77 : decode cX4_added 77 = .ok (.ifCond .eq 7, 3) := by decide +kernel
theorem dX4_added_80 : decode cX4_added 80 = .ok (.iconst 1, 1) := by decide +kernel
theorem dX4_added_81 : decode cX4_added 81 = .ok (.goto 4, 3) := by decide +kernel
theorem dX4_added_84 : decode cX4_added 84 = .ok (.iconst 0, 1) := by decide +kernel
theorem dX4_added_85 : decode cX4_added 85 = .ok (.iadd, 1) := by decide +kernel
theorem dX4_added_86 : decode cX4_added 86 = .ok (.istore 4, 2) := by decide +kernel
theorem dX4_added_88 : decode cX4_added 88 = .ok (.iinc 5 1, 3) := by decide +kernel
theorem dX4_added_91 : decode cX4_added 91 = .ok (.goto (-45), 3) := by decide +kernel
theorem dX4_added_94 : decode cX4_added 94 = .ok (.iload 4, 2) := by decide +kernel
theorem dX4_added_96 : decode cX4_added 96 = .ok (.ireturn, 1) := by decide +kernel
theorem dX4_isClient_0 : decode cX4_isClient 0 = .ok (.iload_n 0, 1) := by decide +kernel
theorem dX4_isClient_1 : decode cX4_isClient 1 = .ok (.iconst 0, 1) := by decide +kernel
theorem dX4_isClient_2 : decode cX4_isClient 2 = .ok (.iconst 1, 1) := by decide +kernel
theorem dX4_isClient_3 : decode cX4_isClient 3 = .ok (.invokestatic 87, 3) := by decide +kernel
theorem dX4_isClient_6 : decode cX4_isClient 6 = .ok (.ireturn, 1) := by decide +kernel
theorem dX4_watch_0 : decode cX4_watch 0 = .ok (.aload_n 0, 1) := by decide +kernel
theorem dX4_watch_1 : decode cX4_watch 1 = .ok (.iload_n 1, 1) := by decide +kernel
theorem dX4_watch_2 : decode cX4_watch 2 = .ok (.invokestatic 151, 3) := by decide +kernel
theorem dX4_watch_5 : decode cX4_watch 5 = .ok (.ifCond .eq 26, 3) := by decide +kernel
theorem dX4_watch_8 : decode cX4_watch 8 = .ok (.iload_n 2, 1) := by decide +kernel
theorem dX4_watch_9 : decode cX4_watch 9 = .ok (.iconst 0, 1) := by decide +kernel
theorem dX4_watch_10 : decode cX4_watch 10 = .ok (.iconst 5, 1) := by decide +kernel
theorem dX4_watch_11 : decode cX4_watch 11 = .ok (.invokestatic 87, 3) := by decide +kernel
theorem dX4_watch_14 : decode cX4_watch 14 = .ok (.ifCond .eq 17, 3) := by decide +kernel
theorem dX4_watch_17 : decode cX4_watch 17 = .ok (.iload_n 3, 1) := by decide +kernel
theorem dX4_watch_18 : decode cX4_watch 18 = .ok (.iconst 1, 1) := by decide +kernel
theorem dX4_watch_19 : decode cX4_watch 19 = .ok (.bipush 10, 2) := by decide +kernel
theorem dX4_watch_21 : decode cX4_watch 21 = .ok (.invokestatic 87, 3) := by decide +kernel
theorem dX4_watch_24 : decode cX4_watch 24 = .ok (.ifCond .eq 7, 3) := by decide +kernel
theorem dX4_watch_27 : decode cX4_watch 27 = .ok (.iconst 0, 1) := by decide +kernel
theorem dX4_watch_28 : decode cX4_watch 28 = .ok (.goto 4, 3) := by decide +kernel
theorem dX4_watch_31 : decode cX4_watch 31 = .ok (.iconst 1, 1) := by decide +kernel
theorem dX4_watch_32 : decode cX4_watch 32 = .ok (.invokevirtual 94, 3) := by decide +kernel
theorem dX4_watch_35 : decode cX4_watch 35 = .ok (.ifCond .eq 17, 3) := by decide +kernel
theorem dX4_watch_38 : decode cX4_watch 38 = .ok (.aload_n 0, 1) := by decide +kernel
theorem dX4_watch_39 : decode cX4_watch 39 = .ok (.getfield 47, 3) := by decide +kernel
theorem dX4_watch_42 : decode cX4_watch 42 = .ok (.iload_n 1, 1) := by decide +kernel
theorem dX4_watch_43 : decode cX4_watch 43 = .ok (.iload_n 2, 1) := by decide +kernel
theorem dX4_watch_44 : decode cX4_watch 44 = .ok (.iastore, 1) := by decide +kernel
theorem dX4_watch_45 : decode cX4_watch 45 = .ok (.aload_n 0, 1) := by decide +kernel
theorem dX4_watch_46 : decode cX4_watch 46 = .ok (.getfield 50, 3) := by decide +kernel
theorem dX4_watch_49 : decode cX4_watch 49 = .ok (.iload_n 1, 1) := by decide +kernel
theorem dX4_watch_50 : decode cX4_watch 50 = .ok (.iload_n 3, 1) := by decide +kernel
theorem dX4_watch_51 : decode cX4_watch 51 = .ok (.iastore, 1) := by decide +kernel
theorem dX4_watch_52 : decode cX4_watch 52 = .ok (.return_, 1) := by decide +kernel
theorem dX4_windowPlace_0 : decode cX4_windowPlace 0 = .ok (.iconst (-1), 1) := by decide +kernel
theorem dX4_windowPlace_1 : decode cX4_windowPlace 1 = .ok (.istore_n 3, 1) := by decide +kernel
theorem dX4_windowPlace_2 : decode cX4_windowPlace 2 = .ok (.bipush 10, 2) := by decide +kernel
theorem dX4_windowPlace_4 : decode cX4_windowPlace 4 = .ok (.iload_n 1, 1) := by decide +kernel
theorem dX4_windowPlace_5 : decode cX4_windowPlace 5 = .ok (.imul, 1) := by decide +kernel
theorem dX4_windowPlace_6 : decode cX4_windowPlace 6 = .ok (.istore 4, 2) := by decide +kernel
theorem dX4_windowPlace_8 : decode cX4_windowPlace 8 = .ok (.iload 4, 2) := by decide +kernel
theorem dX4_windowPlace_10 : decode cX4_windowPlace 10 = .ok (.bipush 10, 2) := by decide +kernel
theorem dX4_windowPlace_12 : decode cX4_windowPlace 12 = .ok (.iload_n 1, 1) := by decide +kernel
theorem dX4_windowPlace_13 : decode cX4_windowPlace 13 = .ok (.imul, 1) := by decide +kernel
theorem dX4_windowPlace_14 : decode cX4_windowPlace 14 = .ok (.aload_n 0, 1) := by decide +kernel
theorem dX4_windowPlace_15 : decode cX4_windowPlace 15 = .ok (.getfield 56, 3) := by decide +kernel
theorem dX4_windowPlace_18 : decode cX4_windowPlace 18 = .ok (.iload_n 1, 1) := by decide +kernel
theorem dX4_windowPlace_19 : decode cX4_windowPlace 19 = .ok (.iaload, 1) := by decide +kernel
theorem dX4_windowPlace_20 : decode cX4_windowPlace 20 = .ok (.iadd, 1) := by decide +kernel
theorem dX4_windowPlace_21 : decode cX4_windowPlace 21 = .ok (.if_icmp .ge 27, 3) := by decide +kernel
theorem dX4_windowPlace_24 : decode cX4_windowPlace 24 = .ok (.aload_n 0, 1) := by decide +kernel
theorem dX4_windowPlace_25 : decode cX4_windowPlace 25 = .ok (.getfield 59, 3) := by decide +kernel
theorem dX4_windowPlace_28 : decode cX4_windowPlace 28 = .ok (.iload 4, 2) := by decide +kernel
theorem dX4_windowPlace_30 : decode cX4_windowPlace 30 = .ok (.iaload, 1) := by decide +kernel
theorem dX4_windowPlace_31 : decode cX4_windowPlace 31 = .ok (.iload_n 2, 1) := by decide +kernel
theorem dX4_windowPlace_32 : decode cX4_windowPlace 32 = .ok (.if_icmp .ne 8, 3) := by decide +kernel
theorem dX4_windowPlace_35 : decode cX4_windowPlace 35 = .ok (.iload 4, 2) := by decide +kernel
theorem dX4_windowPlace_37 : decode cX4_windowPlace 37 = .ok (.goto 4, 3) := by decide +kernel
theorem dX4_windowPlace_40 : decode cX4_windowPlace 40 = .ok (.iload_n 3, 1) := by decide +kernel
theorem dX4_windowPlace_41 : decode cX4_windowPlace 41 = .ok (.istore_n 3, 1) := by decide +kernel
theorem dX4_windowPlace_42 : decode cX4_windowPlace 42 = .ok (.iinc 4 1, 3) := by decide +kernel
theorem dX4_windowPlace_45 : decode cX4_windowPlace 45 = .ok (.goto (-37), 3) := by decide +kernel
theorem dX4_windowPlace_48 : decode cX4_windowPlace 48 = .ok (.iload_n 3, 1) := by decide +kernel
theorem dX4_windowPlace_49 : decode cX4_windowPlace 49 = .ok (.ireturn, 1) := by decide +kernel
theorem dX4_flagOffline_0 : decode cX4_flagOffline 0 = .ok (.iload_n 1, 1) := by decide +kernel
theorem dX4_flagOffline_1 : decode cX4_flagOffline 1 = .ok (.invokestatic 151, 3) := by decide +kernel
theorem dX4_flagOffline_4 : decode cX4_flagOffline 4 = .ok (.ifCond .eq 22, 3) := by decide +kernel
theorem dX4_flagOffline_7 : decode cX4_flagOffline 7 = .ok (.iload_n 3, 1) := by decide +kernel
theorem dX4_flagOffline_8 : decode cX4_flagOffline 8 = .ok (.iconst 0, 1) := by decide +kernel
theorem dX4_flagOffline_9 : decode cX4_flagOffline 9 = .ok (.iconst 3, 1) := by decide +kernel
theorem dX4_flagOffline_10 : decode cX4_flagOffline 10 = .ok (.invokestatic 87, 3) := by decide +kernel
theorem dX4_flagOffline_13 : decode cX4_flagOffline 13 = .ok (.ifCond .eq 13, 3) := by decide +kernel
theorem dX4_flagOffline_16 : decode cX4_flagOffline 16 = .ok (.aload_n 0, 1) := by decide +kernel
theorem dX4_flagOffline_17 : decode cX4_flagOffline 17 = .ok (.iload_n 1, 1) := by decide +kernel
theorem dX4_flagOffline_18 : decode cX4_flagOffline 18 = .ok (.iload_n 2, 1) := by decide +kernel
theorem dX4_flagOffline_19 : decode cX4_flagOffline 19 = .ok (.invokevirtual 154, 3) := by decide +kernel
theorem dX4_flagOffline_22 : decode cX4_flagOffline 22 = .ok (.iconst (-1), 1) := by decide +kernel
theorem dX4_flagOffline_23 : decode cX4_flagOffline 23 = .ok (.if_icmp .ne 7, 3) := by decide +kernel
theorem dX4_flagOffline_26 : decode cX4_flagOffline 26 = .ok (.iconst 1, 1) := by decide +kernel
theorem dX4_flagOffline_27 : decode cX4_flagOffline 27 = .ok (.goto 19, 3) := by decide +kernel
theorem dX4_flagOffline_30 : decode cX4_flagOffline 30 = .ok (.aload_n 0, 1) := by decide +kernel
theorem dX4_flagOffline_31 : decode cX4_flagOffline 31 = .ok (.getfield 65, 3) := by decide +kernel
theorem dX4_flagOffline_34 : decode cX4_flagOffline 34 = .ok (.iload_n 1, 1) := by decide +kernel
theorem dX4_flagOffline_35 : decode cX4_flagOffline 35 = .ok (.iaload, 1) := by decide +kernel
theorem dX4_flagOffline_36 : decode cX4_flagOffline 36 = .ok (.bipush 10, 2) := by decide +kernel
theorem dX4_flagOffline_38 : decode cX4_flagOffline 38 = .ok (.if_icmp .ne 7, 3) := by decide +kernel
theorem dX4_flagOffline_41 : decode cX4_flagOffline 41 = .ok (.iconst 2, 1) := by decide +kernel
theorem dX4_flagOffline_42 : decode cX4_flagOffline 42 = .ok (.goto 4, 3) := by decide +kernel
theorem dX4_flagOffline_45 : decode cX4_flagOffline 45 = .ok (.iconst 0, 1) := by decide +kernel
theorem dX4_flagOffline_46 : decode cX4_flagOffline 46 = .ok (.istore 5, 2) := by decide +kernel
theorem dX4_flagOffline_48 : decode cX4_flagOffline 48 = .ok (.aload_n 0, 1) := by decide +kernel
theorem dX4_flagOffline_49 : decode cX4_flagOffline 49 = .ok (.iload 5, 2) := by decide +kernel
theorem dX4_flagOffline_51 : decode cX4_flagOffline 51 = .ok (.invokevirtual 94, 3) := by decide +kernel
theorem dX4_flagOffline_54 : decode cX4_flagOffline 54 = .ok (.ifCond .ne 5, 3) := by decide +kernel
theorem dX4_flagOffline_57 : decode cX4_flagOffline 57 = .ok (.iconst 0, 1) := by decide +kernel
theorem dX4_flagOffline_58 : decode cX4_flagOffline 58 = .ok (.ireturn, 1) := by decide +kernel
theorem dX4_flagOffline_59 : decode cX4_flagOffline 59 = .ok (.bipush 10, 2) := by decide +kernel
theorem dX4_flagOffline_61 : decode cX4_flagOffline 61 = .ok (.iload_n 1, 1) := by decide +kernel
theorem dX4_flagOffline_62 : decode cX4_flagOffline 62 = .ok (.imul, 1) := by decide +kernel
theorem dX4_flagOffline_63 : decode cX4_flagOffline 63 = .ok (.aload_n 0, 1) := by decide +kernel
theorem dX4_flagOffline_64 : decode cX4_flagOffline 64 = .ok (.getfield 65, 3) := by decide +kernel
theorem dX4_flagOffline_67 : decode cX4_flagOffline 67 = .ok (.iload_n 1, 1) := by decide +kernel
theorem dX4_flagOffline_68 : decode cX4_flagOffline 68 = .ok (.iaload, 1) := by decide +kernel
theorem dX4_flagOffline_69 : decode cX4_flagOffline 69 = .ok (.iadd, 1) := by decide +kernel
theorem dX4_flagOffline_70 : decode cX4_flagOffline 70 = .ok (.istore 6, 2) := by decide +kernel
theorem dX4_flagOffline_72 : decode cX4_flagOffline 72 = .ok (.aload_n 0, 1) := by decide +kernel
theorem dX4_flagOffline_73 : decode cX4_flagOffline 73 = .ok (.getfield 68, 3) := by decide +kernel
theorem dX4_flagOffline_76 : decode cX4_flagOffline 76 = .ok (.iload 6, 2) := by decide +kernel
theorem dX4_flagOffline_78 : decode cX4_flagOffline 78 = .ok (.iload_n 2, 1) := by decide +kernel
theorem dX4_flagOffline_79 : decode cX4_flagOffline 79 = .ok (.iastore, 1) := by decide +kernel
theorem dX4_flagOffline_80 : decode cX4_flagOffline 80 = .ok (.aload_n 0, 1) := by decide +kernel
theorem dX4_flagOffline_81 : decode cX4_flagOffline 81 = .ok (.getfield 71, 3) := by decide +kernel
theorem dX4_flagOffline_84 : decode cX4_flagOffline 84 = .ok (.iload 6, 2) := by decide +kernel
theorem dX4_flagOffline_86 : decode cX4_flagOffline 86 = .ok (.iload_n 3, 1) := by decide +kernel
theorem dX4_flagOffline_87 : decode cX4_flagOffline 87 = .ok (.iastore, 1) := by decide +kernel
theorem dX4_flagOffline_88 : decode cX4_flagOffline 88 = .ok (.aload_n 0, 1) := by decide +kernel
theorem dX4_flagOffline_89 : decode cX4_flagOffline 89 = .ok (.getfield 74, 3) := by decide +kernel
theorem dX4_flagOffline_92 : decode cX4_flagOffline 92 = .ok (.iload 6, 2) := by decide +kernel
theorem dX4_flagOffline_94 : decode cX4_flagOffline 94 = .ok (.iload 4, 2) := by decide +kernel
theorem dX4_flagOffline_96 : decode cX4_flagOffline 96 = .ok (.bastore, 1) := by decide +kernel
theorem dX4_flagOffline_97 : decode cX4_flagOffline 97 = .ok (.aload_n 0, 1) := by decide +kernel
theorem dX4_flagOffline_98 : decode cX4_flagOffline 98 = .ok (.getfield 65, 3) := by decide +kernel
theorem dX4_flagOffline_101 : decode cX4_flagOffline 101 = .ok (.iload_n 1, 1) := by decide +kernel
theorem dX4_flagOffline_102 : decode cX4_flagOffline 102 = .ok (.dup2, 1) := by decide +kernel
theorem dX4_flagOffline_103 : decode cX4_flagOffline 103 = .ok (.iaload, 1) := by decide +kernel
theorem dX4_flagOffline_104 : decode cX4_flagOffline 104 = .ok (.iconst 1, 1) := by decide +kernel
theorem dX4_flagOffline_105 : decode cX4_flagOffline 105 = .ok (.iadd, 1) := by decide +kernel
theorem dX4_flagOffline_106 : decode cX4_flagOffline 106 = .ok (.iastore, 1) := by decide +kernel
theorem dX4_flagOffline_107 : decode cX4_flagOffline 107 = .ok (.aload_n 0, 1) := by decide +kernel
theorem dX4_flagOffline_108 : decode cX4_flagOffline 108 = .ok (.iload_n 1, 1) := by decide +kernel
theorem dX4_flagOffline_109 : decode cX4_flagOffline 109 = .ok (.iload_n 2, 1) := by decide +kernel
theorem dX4_flagOffline_110 : decode cX4_flagOffline 110 = .ok (.invokevirtual 154, 3) := by decide +kernel
theorem dX4_flagOffline_113 : decode cX4_flagOffline 113 = .ok (.istore 7, 2) := by decide +kernel
theorem dX4_flagOffline_115 : decode cX4_flagOffline 115 = .ok (.aload_n 0, 1) := by decide +kernel
theorem dX4_flagOffline_116 : decode cX4_flagOffline 116 = .ok (.getfield 62, 3) := by decide +kernel
theorem dX4_flagOffline_119 : decode cX4_flagOffline 119 = .ok (.iload 7, 2) := by decide +kernel
theorem dX4_flagOffline_121 : decode cX4_flagOffline 121 = .ok (.iload 4, 2) := by decide +kernel
theorem dX4_flagOffline_123 : decode cX4_flagOffline 123 = .ok (.ifCond .eq 17, 3) := by decide +kernel
theorem dX4_flagOffline_126 : decode cX4_flagOffline 126 = .ok (.aload_n 0, 1) := by decide +kernel
theorem dX4_flagOffline_127 : decode cX4_flagOffline 127 = .ok (.getfield 62, 3) := by decide +kernel
theorem dX4_flagOffline_130 : decode cX4_flagOffline 130 = .ok (.iload 7, 2) := by decide +kernel
theorem dX4_flagOffline_132 : decode cX4_flagOffline 132 = .ok (.iaload, 1) := by decide +kernel
theorem dX4_flagOffline_133 : decode cX4_flagOffline 133 = .ok (.iconst 1, 1) := by decide +kernel
theorem dX4_flagOffline_134 : decode cX4_flagOffline 134 = .ok (.iload_n 3, 1) := by decide +kernel
theorem dX4_flagOffline_135 : decode cX4_flagOffline 135 = .ok (.ishl, 1) := by decide +kernel
theorem dX4_flagOffline_136 : decode cX4_flagOffline 136 = .ok (.ior, 1) := by decide +kernel
theorem dX4_flagOffline_137 : decode cX4_flagOffline 137 = .ok (.goto 16, 3) := by decide +kernel
theorem dX4_flagOffline_140 : decode cX4_flagOffline 140 = .ok (.aload_n 0, 1) := by decide +kernel
theorem dX4_flagOffline_141 : decode cX4_flagOffline 141 = .ok (.getfield 62, 3) := by decide +kernel
theorem dX4_flagOffline_144 : decode cX4_flagOffline 144 = .ok (.iload 7, 2) := by decide +kernel
theorem dX4_flagOffline_146 : decode cX4_flagOffline 146 = .ok (.iaload, 1) := by decide +kernel
theorem dX4_flagOffline_147 : decode cX4_flagOffline 147 = .ok (.iconst 1, 1) := by decide +kernel
theorem dX4_flagOffline_148 : decode cX4_flagOffline 148 = .ok (.iload_n 3, 1) := by decide +kernel
theorem dX4_flagOffline_149 : decode cX4_flagOffline 149 = .ok (.ishl, 1) := by decide +kernel
theorem dX4_flagOffline_150 : decode cX4_flagOffline 150 = .ok (.iconst (-1), 1) := by decide +kernel
theorem dX4_flagOffline_151 : decode cX4_flagOffline 151 = .ok (.ixor, 1) := by decide +kernel
theorem dX4_flagOffline_152 : decode cX4_flagOffline 152 = .ok (.iand, 1) := by decide +kernel
theorem dX4_flagOffline_153 : decode cX4_flagOffline 153 = .ok (.iastore, 1) := by decide +kernel
theorem dX4_flagOffline_154 : decode cX4_flagOffline 154 = .ok (.aload_n 0, 1) := by decide +kernel
theorem dX4_flagOffline_155 : decode cX4_flagOffline 155 = .ok (.getfield 65, 3) := by decide +kernel
theorem dX4_flagOffline_158 : decode cX4_flagOffline 158 = .ok (.iload_n 1, 1) := by decide +kernel
theorem dX4_flagOffline_159 : decode cX4_flagOffline 159 = .ok (.iaload, 1) := by decide +kernel
theorem dX4_flagOffline_160 : decode cX4_flagOffline 160 = .ok (.ireturn, 1) := by decide +kernel
theorem dX4_isOtherwise_0 : decode cX4_isOtherwise 0 = .ok (.iconst 0, 1) := by decide +kernel
theorem dX4_isOtherwise_1 : decode cX4_isOtherwise 1 = .ok (.istore 6, 2) := by decide +kernel
theorem dX4_isOtherwise_3 : decode cX4_isOtherwise 3 = .ok (.iload 4, 2) := by decide +kernel
theorem dX4_isOtherwise_5 : decode cX4_isOtherwise 5 = .ok (.istore 7, 2) := by decide +kernel
theorem dX4_isOtherwise_7 : decode cX4_isOtherwise 7 = .ok (.iload 7, 2) := by decide +kernel
theorem dX4_isOtherwise_9 : decode cX4_isOtherwise 9 = .ok (.iload 5, 2) := by decide +kernel
theorem dX4_isOtherwise_11 : decode cX4_isOtherwise 11 = .ok (.if_icmp .ge 65, 3) := by decide +kernel
theorem dX4_isOtherwise_14 : decode cX4_isOtherwise 14 = .ok (.aload_n 0, 1) := by decide +kernel
theorem dX4_isOtherwise_15 : decode cX4_isOtherwise 15 = .ok (.getfield 31, 3) := by decide +kernel
theorem dX4_isOtherwise_18 : decode cX4_isOtherwise 18 = .ok (.iload 7, 2) := by decide +kernel
theorem dX4_isOtherwise_20 : decode cX4_isOtherwise 20 = .ok (.iaload, 1) := by decide +kernel
theorem dX4_isOtherwise_21 : decode cX4_isOtherwise 21 = .ok (.iload_n 1, 1) := by decide +kernel
theorem dX4_isOtherwise_22 : decode cX4_isOtherwise 22 = .ok (.if_icmp .ne 44, 3) := by decide +kernel
theorem dX4_isOtherwise_25 : decode cX4_isOtherwise 25 = .ok (.aload_n 0, 1) := by decide +kernel
theorem dX4_isOtherwise_26 : decode cX4_isOtherwise 26 = .ok (.getfield 28, 3) := by decide +kernel
theorem dX4_isOtherwise_29 : decode cX4_isOtherwise 29 = .ok (.iload 7, 2) := by decide +kernel
theorem dX4_isOtherwise_31 : decode cX4_isOtherwise 31 = .ok (.iaload, 1) := by decide +kernel
theorem dX4_isOtherwise_32 : decode cX4_isOtherwise 32 = .ok (.iconst 2, 1) := by decide +kernel
theorem dX4_isOtherwise_33 : decode cX4_isOtherwise 33 = .ok (.if_icmp .ne 33, 3) := by decide +kernel
theorem dX4_isOtherwise_36 : decode cX4_isOtherwise 36 = .ok (.aload_n 0, 1) := by decide +kernel
theorem dX4_isOtherwise_37 : decode cX4_isOtherwise 37 = .ok (.getfield 40, 3) := by decide +kernel
theorem dX4_isOtherwise_40 : decode cX4_isOtherwise 40 = .ok (.iload 7, 2) := by decide +kernel
theorem dX4_isOtherwise_42 : decode cX4_isOtherwise 42 = .ok (.iaload, 1) := by decide +kernel
theorem dX4_isOtherwise_43 : decode cX4_isOtherwise 43 = .ok (.iload_n 2, 1) := by decide +kernel
theorem dX4_isOtherwise_44 : decode cX4_isOtherwise 44 = .ok (.if_icmp .ne 22, 3) := by decide +kernel
theorem dX4_isOtherwise_47 : decode cX4_isOtherwise 47 = .ok (.aload_n 0, 1) := by decide +kernel
theorem dX4_isOtherwise_48 : decode cX4_isOtherwise 48 = .ok (.getfield 43, 3) := by decide +kernel
theorem dX4_isOtherwise_51 : decode cX4_isOtherwise 51 = .ok (.iload 7, 2) := by decide +kernel
theorem dX4_isOtherwise_53 : decode cX4_isOtherwise 53 = .ok (.baload, 1) := by decide +kernel
theorem dX4_isOtherwise_54 : decode cX4_isOtherwise 54 = .ok (.iload_n 3, 1) := by decide +kernel
theorem dX4_isOtherwise_55 : decode cX4_isOtherwise 55 = .ok (.if_icmp .eq 7, 3) := by decide +kernel
theorem dX4_isOtherwise_58 : decode cX4_isOtherwise 58 = .ok (.iconst 1, 1) := by decide +kernel
theorem dX4_isOtherwise_59 : decode cX4_isOtherwise 59 = .ok (.goto 9, 3) := by decide +kernel
theorem dX4_isOtherwise_62 : decode cX4_isOtherwise 62 = .ok (.iconst 0, 1) := by decide +kernel
theorem dX4_isOtherwise_63 : decode cX4_isOtherwise 63 = .ok (.goto 5, 3) := by decide +kernel
theorem dX4_isOtherwise_66 : decode cX4_isOtherwise 66 = .ok (.iload 6, 2) := by decide +kernel
theorem dX4_isOtherwise_68 : decode cX4_isOtherwise 68 = .ok (.istore 6, 2) := by decide +kernel
theorem dX4_isOtherwise_70 : decode cX4_isOtherwise 70 = .ok (.iinc 7 1, 3) := by decide +kernel
theorem dX4_isOtherwise_73 : decode cX4_isOtherwise 73 = .ok (.goto (-66), 3) := by decide +kernel
theorem dX4_isOtherwise_76 : decode cX4_isOtherwise 76 = .ok (.iload 6, 2) := by decide +kernel
theorem dX4_isOtherwise_78 : decode cX4_isOtherwise 78 = .ok (.ireturn, 1) := by decide +kernel
theorem dX4_takes_0 : decode cX4_takes 0 = .ok (.aload_n 0, 1) := by decide +kernel
theorem dX4_takes_1 : decode cX4_takes 1 = .ok (.aload_n 0, 1) := by decide +kernel
theorem dX4_takes_2 : decode cX4_takes 2 = .ok (.getfield 47, 3) := by decide +kernel
theorem dX4_takes_5 : decode cX4_takes 5 = .ok (.iload_n 1, 1) := by decide +kernel
theorem dX4_takes_6 : decode cX4_takes 6 = .ok (.iaload, 1) := by decide +kernel
theorem dX4_takes_7 : decode cX4_takes 7 = .ok (.iconst (-1), 1) := by decide +kernel
theorem dX4_takes_8 : decode cX4_takes 8 = .ok (.invokevirtual 115, 3) := by decide +kernel
theorem dX4_takes_11 : decode cX4_takes 11 = .ok (.istore_n 2, 1) := by decide +kernel
theorem dX4_takes_12 : decode cX4_takes 12 = .ok (.aload_n 0, 1) := by decide +kernel
theorem dX4_takes_13 : decode cX4_takes 13 = .ok (.getfield 56, 3) := by decide +kernel
theorem dX4_takes_16 : decode cX4_takes 16 = .ok (.iload_n 1, 1) := by decide +kernel
theorem dX4_takes_17 : decode cX4_takes 17 = .ok (.iload_n 2, 1) := by decide +kernel
theorem dX4_takes_18 : decode cX4_takes 18 = .ok (.aload_n 0, 1) := by decide +kernel
theorem dX4_takes_19 : decode cX4_takes 19 = .ok (.getfield 50, 3) := by decide +kernel
theorem dX4_takes_22 : decode cX4_takes 22 = .ok (.iload_n 1, 1) := by decide +kernel
theorem dX4_takes_23 : decode cX4_takes 23 = .ok (.iaload, 1) := by decide +kernel
theorem dX4_takes_24 : decode cX4_takes 24 = .ok (.if_icmp .ge 7, 3) := by decide +kernel
theorem dX4_takes_27 : decode cX4_takes 27 = .ok (.iload_n 2, 1) := by decide +kernel
theorem dX4_takes_28 : decode cX4_takes 28 = .ok (.goto 9, 3) := by decide +kernel
theorem dX4_takes_31 : decode cX4_takes 31 = .ok (.aload_n 0, 1) := by decide +kernel
theorem dX4_takes_32 : decode cX4_takes 32 = .ok (.getfield 50, 3) := by decide +kernel
theorem dX4_takes_35 : decode cX4_takes 35 = .ok (.iload_n 1, 1) := by decide +kernel
theorem dX4_takes_36 : decode cX4_takes 36 = .ok (.iaload, 1) := by decide +kernel
theorem dX4_takes_37 : decode cX4_takes 37 = .ok (.iastore, 1) := by decide +kernel
theorem dX4_takes_38 : decode cX4_takes 38 = .ok (.iconst 0, 1) := by decide +kernel
theorem dX4_takes_39 : decode cX4_takes 39 = .ok (.istore_n 3, 1) := by decide +kernel
theorem dX4_takes_40 : decode cX4_takes 40 = .ok (.iload_n 3, 1) := by decide +kernel
theorem dX4_takes_41 : decode cX4_takes 41 = .ok (.aload_n 0, 1) := by decide +kernel
theorem dX4_takes_42 : decode cX4_takes 42 = .ok (.getfield 56, 3) := by decide +kernel
theorem dX4_takes_45 : decode cX4_takes 45 = .ok (.iload_n 1, 1) := by decide +kernel
theorem dX4_takes_46 : decode cX4_takes 46 = .ok (.iaload, 1) := by decide +kernel
theorem dX4_takes_47 : decode cX4_takes 47 = .ok (.if_icmp .ge 59, 3) := by decide +kernel
theorem dX4_takes_50 : decode cX4_takes 50 = .ok (.aload_n 0, 1) := by decide +kernel
theorem dX4_takes_51 : decode cX4_takes 51 = .ok (.getfield 59, 3) := by decide +kernel
theorem dX4_takes_54 : decode cX4_takes 54 = .ok (.bipush 10, 2) := by decide +kernel
theorem dX4_takes_56 : decode cX4_takes 56 = .ok (.iload_n 1, 1) := by decide +kernel
theorem dX4_takes_57 : decode cX4_takes 57 = .ok (.imul, 1) := by decide +kernel
theorem dX4_takes_58 : decode cX4_takes 58 = .ok (.iload_n 3, 1) := by decide +kernel
theorem dX4_takes_59 : decode cX4_takes 59 = .ok (.iadd, 1) := by decide +kernel
theorem dX4_takes_60 : decode cX4_takes 60 = .ok (.aload_n 0, 1) := by decide +kernel
theorem dX4_takes_61 : decode cX4_takes 61 = .ok (.aload_n 0, 1) := by decide +kernel
theorem dX4_takes_62 : decode cX4_takes 62 = .ok (.getfield 47, 3) := by decide +kernel
theorem dX4_takes_65 : decode cX4_takes 65 = .ok (.iload_n 1, 1) := by decide +kernel
theorem dX4_takes_66 : decode cX4_takes 66 = .ok (.iaload, 1) := by decide +kernel
theorem dX4_takes_67 : decode cX4_takes 67 = .ok (.iconst (-1), 1) := by decide +kernel
theorem dX4_takes_68 : decode cX4_takes 68 = .ok (.iload_n 3, 1) := by decide +kernel
theorem dX4_takes_69 : decode cX4_takes 69 = .ok (.invokevirtual 143, 3) := by decide +kernel
theorem dX4_takes_72 : decode cX4_takes 72 = .ok (.iastore, 1) := by decide +kernel
theorem dX4_takes_73 : decode cX4_takes 73 = .ok (.aload_n 0, 1) := by decide +kernel
theorem dX4_takes_74 : decode cX4_takes 74 = .ok (.getfield 62, 3) := by decide +kernel
theorem dX4_takes_77 : decode cX4_takes 77 = .ok (.bipush 10, 2) := by decide +kernel
theorem dX4_takes_79 : decode cX4_takes 79 = .ok (.iload_n 1, 1) := by decide +kernel
theorem dX4_takes_80 : decode cX4_takes 80 = .ok (.imul, 1) := by decide +kernel
theorem dX4_takes_81 : decode cX4_takes 81 = .ok (.iload_n 3, 1) := by decide +kernel
theorem dX4_takes_82 : decode cX4_takes 82 = .ok (.iadd, 1) := by decide +kernel
theorem dX4_takes_83 : decode cX4_takes 83 = .ok (.aload_n 0, 1) := by decide +kernel
theorem dX4_takes_84 : decode cX4_takes 84 = .ok (.getfield 16, 3) := by decide +kernel
theorem dX4_takes_87 : decode cX4_takes 87 = .ok (.aload_n 0, 1) := by decide +kernel
theorem dX4_takes_88 : decode cX4_takes 88 = .ok (.getfield 59, 3) := by decide +kernel
theorem dX4_takes_91 : decode cX4_takes 91 = .ok (.bipush 10, 2) := by decide +kernel
theorem dX4_takes_93 : decode cX4_takes 93 = .ok (.iload_n 1, 1) := by decide +kernel
theorem dX4_takes_94 : decode cX4_takes 94 = .ok (.imul, 1) := by decide +kernel
theorem dX4_takes_95 : decode cX4_takes 95 = .ok (.iload_n 3, 1) := by decide +kernel
theorem dX4_takes_96 : decode cX4_takes 96 = .ok (.iadd, 1) := by decide +kernel
theorem dX4_takes_97 : decode cX4_takes 97 = .ok (.iaload, 1) := by decide +kernel
theorem dX4_takes_98 : decode cX4_takes 98 = .ok (.iaload, 1) := by decide +kernel
theorem dX4_takes_99 : decode cX4_takes 99 = .ok (.iastore, 1) := by decide +kernel
theorem dX4_takes_100 : decode cX4_takes 100 = .ok (.iinc 3 1, 3) := by decide +kernel
theorem dX4_takes_103 : decode cX4_takes 103 = .ok (.goto (-63), 3) := by decide +kernel
theorem dX4_takes_106 : decode cX4_takes 106 = .ok (.aload_n 0, 1) := by decide +kernel
theorem dX4_takes_107 : decode cX4_takes 107 = .ok (.getfield 53, 3) := by decide +kernel
theorem dX4_takes_110 : decode cX4_takes 110 = .ok (.iload_n 1, 1) := by decide +kernel
theorem dX4_takes_111 : decode cX4_takes 111 = .ok (.aload_n 0, 1) := by decide +kernel
theorem dX4_takes_112 : decode cX4_takes 112 = .ok (.getfield 91, 3) := by decide +kernel
theorem dX4_takes_115 : decode cX4_takes 115 = .ok (.iastore, 1) := by decide +kernel
theorem dX4_takes_116 : decode cX4_takes 116 = .ok (.aload_n 0, 1) := by decide +kernel
theorem dX4_takes_117 : decode cX4_takes 117 = .ok (.getfield 65, 3) := by decide +kernel
theorem dX4_takes_120 : decode cX4_takes 120 = .ok (.iload_n 1, 1) := by decide +kernel
theorem dX4_takes_121 : decode cX4_takes 121 = .ok (.iconst 0, 1) := by decide +kernel
theorem dX4_takes_122 : decode cX4_takes 122 = .ok (.iastore, 1) := by decide +kernel
theorem dX4_takes_123 : decode cX4_takes 123 = .ok (.return_, 1) := by decide +kernel
theorem dX4_sync_0 : decode cX4_sync 0 = .ok (.aload_n 0, 1) := by decide +kernel
theorem dX4_sync_1 : decode cX4_sync 1 = .ok (.iload_n 1, 1) := by decide +kernel
theorem dX4_sync_2 : decode cX4_sync 2 = .ok (.invokestatic 151, 3) := by decide +kernel
theorem dX4_sync_5 : decode cX4_sync 5 = .ok (.ifCond .eq 7, 3) := by decide +kernel
theorem dX4_sync_8 : decode cX4_sync 8 = .ok (.iconst 0, 1) := by decide +kernel
theorem dX4_sync_9 : decode cX4_sync 9 = .ok (.goto 4, 3) := by decide +kernel
theorem dX4_sync_12 : decode cX4_sync 12 = .ok (.iconst 1, 1) := by decide +kernel
theorem dX4_sync_13 : decode cX4_sync 13 = .ok (.invokevirtual 94, 3) := by decide +kernel
theorem dX4_sync_16 : decode cX4_sync 16 = .ok (.ifCond .ne 5, 3) := by decide +kernel
theorem dX4_sync_19 : decode cX4_sync 19 = .ok (.iconst 0, 1) := by decide +kernel
theorem dX4_sync_20 : decode cX4_sync 20 = .ok (.ireturn, 1) := by decide +kernel
theorem dX4_sync_21 : decode cX4_sync 21 = .ok (.aload_n 0, 1) := by decide +kernel
theorem dX4_sync_22 : decode cX4_sync 22 = .ok (.getfield 53, 3) := by decide +kernel
theorem dX4_sync_25 : decode cX4_sync 25 = .ok (.iload_n 1, 1) := by decide +kernel
theorem dX4_sync_26 : decode cX4_sync 26 = .ok (.iaload, 1) := by decide +kernel
theorem dX4_sync_27 : decode cX4_sync 27 = .ok (.istore_n 2, 1) := by decide +kernel
theorem dX4_sync_28 : decode cX4_sync 28 = .ok (.aload_n 0, 1) := by decide +kernel
theorem dX4_sync_29 : decode cX4_sync 29 = .ok (.getfield 91, 3) := by decide +kernel
theorem dX4_sync_32 : decode cX4_sync 32 = .ok (.istore_n 3, 1) := by decide +kernel
theorem dX4_sync_33 : decode cX4_sync 33 = .ok (.aload_n 0, 1) := by decide +kernel
theorem dX4_sync_34 : decode cX4_sync 34 = .ok (.iload_n 2, 1) := by decide +kernel
theorem dX4_sync_35 : decode cX4_sync 35 = .ok (.invokevirtual 122, 3) := by decide +kernel
theorem dX4_sync_38 : decode cX4_sync 38 = .ok (.istore 4, 2) := by decide +kernel
theorem dX4_sync_40 : decode cX4_sync 40 = .ok (.iconst 0, 1) := by decide +kernel
theorem dX4_sync_41 : decode cX4_sync 41 = .ok (.istore 5, 2) := by decide +kernel
theorem dX4_sync_43 : decode cX4_sync 43 = .ok (.bipush 10, 2) := by decide +kernel
theorem dX4_sync_45 : decode cX4_sync 45 = .ok (.iload_n 1, 1) := by decide +kernel
theorem dX4_sync_46 : decode cX4_sync 46 = .ok (.imul, 1) := by decide +kernel
theorem dX4_sync_47 : decode cX4_sync 47 = .ok (.istore 6, 2) := by decide +kernel
theorem dX4_sync_49 : decode cX4_sync 49 = .ok (.iload 6, 2) := by decide +kernel
theorem dX4_sync_51 : decode cX4_sync 51 = .ok (.bipush 10, 2) := by decide +kernel
theorem dX4_sync_53 : decode cX4_sync 53 = .ok (.iload_n 1, 1) := by decide +kernel
theorem dX4_sync_54 : decode cX4_sync 54 = .ok (.imul, 1) := by decide +kernel
theorem dX4_sync_55 : decode cX4_sync 55 = .ok (.aload_n 0, 1) := by decide +kernel
theorem dX4_sync_56 : decode cX4_sync 56 = .ok (.getfield 65, 3) := by decide +kernel
theorem dX4_sync_59 : decode cX4_sync 59 = .ok (.iload_n 1, 1) := by decide +kernel
theorem dX4_sync_60 : decode cX4_sync 60 = .ok (.iaload, 1) := by decide +kernel
theorem dX4_sync_61 : decode cX4_sync 61 = .ok (.iadd, 1) := by decide +kernel
theorem dX4_sync_62 : decode cX4_sync 62 = .ok (.if_icmp .ge 112, 3) := by decide +kernel
theorem dX4_sync_65 : decode cX4_sync 65 = .ok (.aload_n 0, 1) := by decide +kernel
theorem dX4_sync_66 : decode cX4_sync 66 = .ok (.getfield 25, 3) := by decide +kernel
theorem dX4_sync_69 : decode cX4_sync 69 = .ok (.aload_n 0, 1) := by decide +kernel
theorem dX4_sync_70 : decode cX4_sync 70 = .ok (.getfield 68, 3) := by decide +kernel
theorem dX4_sync_73 : decode cX4_sync 73 = .ok (.iload 6, 2) := by decide +kernel
theorem dX4_sync_75 : decode cX4_sync 75 = .ok (.iaload, 1) := by decide +kernel
theorem dX4_sync_76 : decode cX4_sync 76 = .ok (.iaload, 1) := by decide +kernel
theorem dX4_sync_77 : decode cX4_sync 77 = .ok (.ifCond .gt 38, 3) := by decide +kernel
theorem dX4_sync_80 : decode cX4_sync 80 = .ok (.iload 4, 2) := by decide +kernel
theorem dX4_sync_82 : decode cX4_sync 82 = .ok (.ifCond .eq 37, 3) := by decide +kernel
theorem dX4_sync_85 : decode cX4_sync 85 = .ok (.aload_n 0, 1) := by decide +kernel
theorem dX4_sync_86 : decode cX4_sync 86 = .ok (.aload_n 0, 1) := by decide +kernel
theorem dX4_sync_87 : decode cX4_sync 87 = .ok (.getfield 68, 3) := by decide +kernel
theorem dX4_sync_90 : decode cX4_sync 90 = .ok (.iload 6, 2) := by decide +kernel
theorem dX4_sync_92 : decode cX4_sync 92 = .ok (.iaload, 1) := by decide +kernel
theorem dX4_sync_93 : decode cX4_sync 93 = .ok (.aload_n 0, 1) := by decide +kernel
theorem dX4_sync_94 : decode cX4_sync 94 = .ok (.getfield 71, 3) := by decide +kernel
theorem dX4_sync_97 : decode cX4_sync 97 = .ok (.iload 6, 2) := by decide +kernel
theorem dX4_sync_99 : decode cX4_sync 99 = .ok (.iaload, 1) := by decide +kernel
theorem dX4_sync_100 : decode cX4_sync 100 = .ok (.aload_n 0, 1) := by decide +kernel
theorem dX4_sync_101 : decode cX4_sync 101 = .ok (.getfield 74, 3) := by decide +kernel
theorem dX4_sync_104 : decode cX4_sync 104 = .ok (.iload 6, 2) := by decide +kernel
theorem dX4_sync_106 : decode cX4_sync 106 = .ok (.baload, 1) := by decide +kernel
theorem dX4_sync_107 : decode cX4_sync 107 = .ok (.iload_n 2, 1) := by decide +kernel
theorem dX4_sync_108 : decode cX4_sync 108 = .ok (.iload_n 3, 1) := by decide +kernel
theorem dX4_sync_109 : decode cX4_sync 109 = .ok (.invokevirtual 157, 3) := by decide +kernel
theorem dX4_sync_112 : decode cX4_sync 112 = .ok (.ifCond .eq 7, 3) := by decide +kernel
theorem dX4_sync_115 : decode cX4_sync 115 = .ok (.iconst 1, 1) := by decide +kernel
theorem dX4_sync_116 : decode cX4_sync 116 = .ok (.goto 4, 3) := by decide +kernel
theorem dX4_sync_119 : decode cX4_sync 119 = .ok (.iconst 0, 1) := by decide +kernel
theorem dX4_sync_120 : decode cX4_sync 120 = .ok (.istore 7, 2) := by decide +kernel
theorem dX4_sync_122 : decode cX4_sync 122 = .ok (.iload 5, 2) := by decide +kernel
theorem dX4_sync_124 : decode cX4_sync 124 = .ok (.iload 7, 2) := by decide +kernel
theorem dX4_sync_126 : decode cX4_sync 126 = .ok (.ifCond .eq 7, 3) := by decide +kernel
theorem dX4_sync_129 : decode cX4_sync 129 = .ok (.iconst 1, 1) := by decide +kernel
theorem dX4_sync_130 : decode cX4_sync 130 = .ok (.goto 4, 3) := by decide +kernel
theorem dX4_sync_133 : decode cX4_sync 133 = .ok (.iconst 0, 1) := by decide +kernel
theorem dX4_sync_134 : decode cX4_sync 134 = .ok (.iadd, 1) := by decide +kernel
theorem dX4_sync_135 : decode cX4_sync 135 = .ok (.istore 5, 2) := by decide +kernel
theorem dX4_sync_137 : decode cX4_sync 137 = .ok (.iload 7, 2) := by decide +kernel
theorem dX4_sync_139 : decode cX4_sync 139 = .ok (.ifCond .ne 29, 3) := by decide +kernel
theorem dX4_sync_142 : decode cX4_sync 142 = .ok (.aload_n 0, 1) := by decide +kernel
theorem dX4_sync_143 : decode cX4_sync 143 = .ok (.aload_n 0, 1) := by decide +kernel
theorem dX4_sync_144 : decode cX4_sync 144 = .ok (.getfield 68, 3) := by decide +kernel
theorem dX4_sync_147 : decode cX4_sync 147 = .ok (.iload 6, 2) := by decide +kernel
theorem dX4_sync_149 : decode cX4_sync 149 = .ok (.iaload, 1) := by decide +kernel
theorem dX4_sync_150 : decode cX4_sync 150 = .ok (.aload_n 0, 1) := by decide +kernel
theorem dX4_sync_151 : decode cX4_sync 151 = .ok (.getfield 71, 3) := by decide +kernel
theorem dX4_sync_154 : decode cX4_sync 154 = .ok (.iload 6, 2) := by decide +kernel
theorem dX4_sync_156 : decode cX4_sync 156 = .ok (.iaload, 1) := by decide +kernel
theorem dX4_sync_157 : decode cX4_sync 157 = .ok (.aload_n 0, 1) := by decide +kernel
theorem dX4_sync_158 : decode cX4_sync 158 = .ok (.getfield 74, 3) := by decide +kernel
theorem dX4_sync_161 : decode cX4_sync 161 = .ok (.iload 6, 2) := by decide +kernel
theorem dX4_sync_163 : decode cX4_sync 163 = .ok (.baload, 1) := by decide +kernel
theorem dX4_sync_164 : decode cX4_sync 164 = .ok (.invokevirtual 109, 3) := by decide +kernel
theorem dX4_sync_167 : decode cX4_sync 167 = .ok (.pop, 1) := by decide +kernel
theorem dX4_sync_168 : decode cX4_sync 168 = .ok (.iinc 6 1, 3) := by decide +kernel
theorem dX4_sync_171 : decode cX4_sync 171 = .ok (.goto (-122), 3) := by decide +kernel
theorem dX4_sync_174 : decode cX4_sync 174 = .ok (.aload_n 0, 1) := by decide +kernel
theorem dX4_sync_175 : decode cX4_sync 175 = .ok (.getfield 77, 3) := by decide +kernel
theorem dX4_sync_178 : decode cX4_sync 178 = .ok (.iload_n 1, 1) := by decide +kernel
theorem dX4_sync_179 : decode cX4_sync 179 = .ok (.dup2, 1) := by decide +kernel
theorem dX4_sync_180 : decode cX4_sync 180 = .ok (.iaload, 1) := by decide +kernel
theorem dX4_sync_181 : decode cX4_sync 181 = .ok (.iload 4, 2) := by decide +kernel
theorem dX4_sync_183 : decode cX4_sync 183 = .ok (.ifCond .eq 7, 3) := by decide +kernel
theorem dX4_sync_186 : decode cX4_sync 186 = .ok (.iconst 0, 1) := by decide +kernel
theorem dX4_sync_187 : decode cX4_sync 187 = .ok (.goto 4, 3) := by decide +kernel
theorem dX4_sync_190 : decode cX4_sync 190 = .ok (.iconst 1, 1) := by decide +kernel
theorem dX4_sync_191 : decode cX4_sync 191 = .ok (.iadd, 1) := by decide +kernel
theorem dX4_sync_192 : decode cX4_sync 192 = .ok (.iastore, 1) := by decide +kernel
theorem dX4_sync_193 : decode cX4_sync 193 = .ok (.aload_n 0, 1) := by decide +kernel
theorem dX4_sync_194 : decode cX4_sync 194 = .ok (.iload_n 1, 1) := by decide +kernel
theorem dX4_sync_195 : decode cX4_sync 195 = .ok (.invokevirtual 161, 3) := by decide +kernel
theorem dX4_sync_198 : decode cX4_sync 198 = .ok (.iload 5, 2) := by decide +kernel
theorem dX4_sync_200 : decode cX4_sync 200 = .ok (.ireturn, 1) := by decide +kernel
theorem dX4_stateOf_0 : decode cX4_stateOf 0 = .ok (.aload_n 0, 1) := by decide +kernel
theorem dX4_stateOf_1 : decode cX4_stateOf 1 = .ok (.iload_n 1, 1) := by decide +kernel
theorem dX4_stateOf_2 : decode cX4_stateOf 2 = .ok (.invokestatic 151, 3) := by decide +kernel
theorem dX4_stateOf_5 : decode cX4_stateOf 5 = .ok (.ifCond .eq 7, 3) := by decide +kernel
theorem dX4_stateOf_8 : decode cX4_stateOf 8 = .ok (.iconst 0, 1) := by decide +kernel
theorem dX4_stateOf_9 : decode cX4_stateOf 9 = .ok (.goto 4, 3) := by decide +kernel
theorem dX4_stateOf_12 : decode cX4_stateOf 12 = .ok (.iconst 1, 1) := by decide +kernel
theorem dX4_stateOf_13 : decode cX4_stateOf 13 = .ok (.invokevirtual 94, 3) := by decide +kernel
theorem dX4_stateOf_16 : decode cX4_stateOf 16 = .ok (.ifCond .eq 12, 3) := by decide +kernel
theorem dX4_stateOf_19 : decode cX4_stateOf 19 = .ok (.aload_n 0, 1) := by decide +kernel
theorem dX4_stateOf_20 : decode cX4_stateOf 20 = .ok (.getfield 53, 3) := by decide +kernel
theorem dX4_stateOf_23 : decode cX4_stateOf 23 = .ok (.iload_n 1, 1) := by decide +kernel
theorem dX4_stateOf_24 : decode cX4_stateOf 24 = .ok (.iaload, 1) := by decide +kernel
theorem dX4_stateOf_25 : decode cX4_stateOf 25 = .ok (.goto 4, 3) := by decide +kernel
theorem dX4_stateOf_28 : decode cX4_stateOf 28 = .ok (.iconst 0, 1) := by decide +kernel
theorem dX4_stateOf_29 : decode cX4_stateOf 29 = .ok (.ireturn, 1) := by decide +kernel
theorem dX4_window_0 : decode cX4_window 0 = .ok (.aload_n 0, 1) := by decide +kernel
theorem dX4_window_1 : decode cX4_window 1 = .ok (.iload_n 1, 1) := by decide +kernel
theorem dX4_window_2 : decode cX4_window 2 = .ok (.invokestatic 151, 3) := by decide +kernel
theorem dX4_window_5 : decode cX4_window 5 = .ok (.ifCond .eq 7, 3) := by decide +kernel
theorem dX4_window_8 : decode cX4_window 8 = .ok (.iconst 0, 1) := by decide +kernel
theorem dX4_window_9 : decode cX4_window 9 = .ok (.goto 4, 3) := by decide +kernel
theorem dX4_window_12 : decode cX4_window 12 = .ok (.iconst 1, 1) := by decide +kernel
theorem dX4_window_13 : decode cX4_window 13 = .ok (.invokevirtual 94, 3) := by decide +kernel
theorem dX4_window_16 : decode cX4_window 16 = .ok (.ifCond .eq 12, 3) := by decide +kernel
theorem dX4_window_19 : decode cX4_window 19 = .ok (.aload_n 0, 1) := by decide +kernel
theorem dX4_window_20 : decode cX4_window 20 = .ok (.getfield 56, 3) := by decide +kernel
theorem dX4_window_23 : decode cX4_window 23 = .ok (.iload_n 1, 1) := by decide +kernel
theorem dX4_window_24 : decode cX4_window 24 = .ok (.iaload, 1) := by decide +kernel
theorem dX4_window_25 : decode cX4_window 25 = .ok (.goto 4, 3) := by decide +kernel
theorem dX4_window_28 : decode cX4_window 28 = .ok (.iconst 0, 1) := by decide +kernel
theorem dX4_window_29 : decode cX4_window 29 = .ok (.ireturn, 1) := by decide +kernel
theorem dX4_windowAt_0 : decode cX4_windowAt 0 = .ok (.iload_n 1, 1) := by decide +kernel
theorem dX4_windowAt_1 : decode cX4_windowAt 1 = .ok (.invokestatic 151, 3) := by decide +kernel
theorem dX4_windowAt_4 : decode cX4_windowAt 4 = .ok (.ifCond .ne 7, 3) := by decide +kernel
theorem dX4_windowAt_7 : decode cX4_windowAt 7 = .ok (.iconst 1, 1) := by decide +kernel
theorem dX4_windowAt_8 : decode cX4_windowAt 8 = .ok (.goto 24, 3) := by decide +kernel
theorem dX4_windowAt_11 : decode cX4_windowAt 11 = .ok (.iload_n 2, 1) := by decide +kernel
theorem dX4_windowAt_12 : decode cX4_windowAt 12 = .ok (.iconst 0, 1) := by decide +kernel
theorem dX4_windowAt_13 : decode cX4_windowAt 13 = .ok (.aload_n 0, 1) := by decide +kernel
theorem dX4_windowAt_14 : decode cX4_windowAt 14 = .ok (.getfield 56, 3) := by decide +kernel
theorem dX4_windowAt_17 : decode cX4_windowAt 17 = .ok (.iload_n 1, 1) := by decide +kernel
theorem dX4_windowAt_18 : decode cX4_windowAt 18 = .ok (.iaload, 1) := by decide +kernel
theorem dX4_windowAt_19 : decode cX4_windowAt 19 = .ok (.iconst 1, 1) := by decide +kernel
theorem dX4_windowAt_20 : decode cX4_windowAt 20 = .ok (.isub, 1) := by decide +kernel
theorem dX4_windowAt_21 : decode cX4_windowAt 21 = .ok (.invokestatic 87, 3) := by decide +kernel
theorem dX4_windowAt_24 : decode cX4_windowAt 24 = .ok (.ifCond .ne 7, 3) := by decide +kernel
theorem dX4_windowAt_27 : decode cX4_windowAt 27 = .ok (.iconst 2, 1) := by decide +kernel
theorem dX4_windowAt_28 : decode cX4_windowAt 28 = .ok (.goto 4, 3) := by decide +kernel
theorem dX4_windowAt_31 : decode cX4_windowAt 31 = .ok (.iconst 0, 1) := by decide +kernel
theorem dX4_windowAt_32 : decode cX4_windowAt 32 = .ok (.istore_n 3, 1) := by decide +kernel
theorem dX4_windowAt_33 : decode cX4_windowAt 33 = .ok (.aload_n 0, 1) := by decide +kernel
theorem dX4_windowAt_34 : decode cX4_windowAt 34 = .ok (.iload_n 3, 1) := by decide +kernel
theorem dX4_windowAt_35 : decode cX4_windowAt 35 = .ok (.invokevirtual 94, 3) := by decide +kernel
theorem dX4_windowAt_38 : decode cX4_windowAt 38 = .ok (.ifCond .eq 17, 3) := by decide +kernel
theorem dX4_windowAt_41 : decode cX4_windowAt 41 = .ok (.aload_n 0, 1) := by decide +kernel
theorem dX4_windowAt_42 : decode cX4_windowAt 42 = .ok (.getfield 59, 3) := by decide +kernel
theorem dX4_windowAt_45 : decode cX4_windowAt 45 = .ok (.bipush 10, 2) := by decide +kernel
theorem dX4_windowAt_47 : decode cX4_windowAt 47 = .ok (.iload_n 1, 1) := by decide +kernel
theorem dX4_windowAt_48 : decode cX4_windowAt 48 = .ok (.imul, 1) := by decide +kernel
theorem dX4_windowAt_49 : decode cX4_windowAt 49 = .ok (.iload_n 2, 1) := by decide +kernel
theorem dX4_windowAt_50 : decode cX4_windowAt 50 = .ok (.iadd, 1) := by decide +kernel
theorem dX4_windowAt_51 : decode cX4_windowAt 51 = .ok (.iaload, 1) := by decide +kernel
theorem dX4_windowAt_52 : decode cX4_windowAt 52 = .ok (.goto 4, 3) := by decide +kernel
theorem dX4_windowAt_55 : decode cX4_windowAt 55 = .ok (.iconst 0, 1) := by decide +kernel
theorem dX4_windowAt_56 : decode cX4_windowAt 56 = .ok (.ireturn, 1) := by decide +kernel
theorem dX4_known_0 : decode cX4_known 0 = .ok (.iload_n 1, 1) := by decide +kernel
theorem dX4_known_1 : decode cX4_known 1 = .ok (.invokestatic 151, 3) := by decide +kernel
theorem dX4_known_4 : decode cX4_known 4 = .ok (.ifCond .ne 7, 3) := by decide +kernel
theorem dX4_known_7 : decode cX4_known 7 = .ok (.iconst 1, 1) := by decide +kernel
theorem dX4_known_8 : decode cX4_known 8 = .ok (.goto 24, 3) := by decide +kernel
theorem dX4_known_11 : decode cX4_known 11 = .ok (.iload_n 2, 1) := by decide +kernel
theorem dX4_known_12 : decode cX4_known 12 = .ok (.iconst 0, 1) := by decide +kernel
theorem dX4_known_13 : decode cX4_known 13 = .ok (.aload_n 0, 1) := by decide +kernel
theorem dX4_known_14 : decode cX4_known 14 = .ok (.getfield 56, 3) := by decide +kernel
theorem dX4_known_17 : decode cX4_known 17 = .ok (.iload_n 1, 1) := by decide +kernel
theorem dX4_known_18 : decode cX4_known 18 = .ok (.iaload, 1) := by decide +kernel
theorem dX4_known_19 : decode cX4_known 19 = .ok (.iconst 1, 1) := by decide +kernel
theorem dX4_known_20 : decode cX4_known 20 = .ok (.isub, 1) := by decide +kernel
theorem dX4_known_21 : decode cX4_known 21 = .ok (.invokestatic 87, 3) := by decide +kernel
theorem dX4_known_24 : decode cX4_known 24 = .ok (.ifCond .ne 7, 3) := by decide +kernel
theorem dX4_known_27 : decode cX4_known 27 = .ok (.iconst 2, 1) := by decide +kernel
theorem dX4_known_28 : decode cX4_known 28 = .ok (.goto 4, 3) := by decide +kernel
theorem dX4_known_31 : decode cX4_known 31 = .ok (.iconst 0, 1) := by decide +kernel
theorem dX4_known_32 : decode cX4_known 32 = .ok (.istore_n 3, 1) := by decide +kernel
theorem dX4_known_33 : decode cX4_known 33 = .ok (.aload_n 0, 1) := by decide +kernel
theorem dX4_known_34 : decode cX4_known 34 = .ok (.iload_n 3, 1) := by decide +kernel
theorem dX4_known_35 : decode cX4_known 35 = .ok (.invokevirtual 94, 3) := by decide +kernel
theorem dX4_known_38 : decode cX4_known 38 = .ok (.ifCond .eq 17, 3) := by decide +kernel
theorem dX4_known_41 : decode cX4_known 41 = .ok (.aload_n 0, 1) := by decide +kernel
theorem dX4_known_42 : decode cX4_known 42 = .ok (.getfield 62, 3) := by decide +kernel
theorem dX4_known_45 : decode cX4_known 45 = .ok (.bipush 10, 2) := by decide +kernel
theorem dX4_known_47 : decode cX4_known 47 = .ok (.iload_n 1, 1) := by decide +kernel
theorem dX4_known_48 : decode cX4_known 48 = .ok (.imul, 1) := by decide +kernel
theorem dX4_known_49 : decode cX4_known 49 = .ok (.iload_n 2, 1) := by decide +kernel
theorem dX4_known_50 : decode cX4_known 50 = .ok (.iadd, 1) := by decide +kernel
theorem dX4_known_51 : decode cX4_known 51 = .ok (.iaload, 1) := by decide +kernel
theorem dX4_known_52 : decode cX4_known 52 = .ok (.goto 4, 3) := by decide +kernel
theorem dX4_known_55 : decode cX4_known 55 = .ok (.iconst 0, 1) := by decide +kernel
theorem dX4_known_56 : decode cX4_known 56 = .ok (.ireturn, 1) := by decide +kernel
theorem dX4_freshLoads_0 : decode cX4_freshLoads 0 = .ok (.aload_n 0, 1) := by decide +kernel
theorem dX4_freshLoads_1 : decode cX4_freshLoads 1 = .ok (.iload_n 1, 1) := by decide +kernel
theorem dX4_freshLoads_2 : decode cX4_freshLoads 2 = .ok (.invokestatic 151, 3) := by decide +kernel
theorem dX4_freshLoads_5 : decode cX4_freshLoads 5 = .ok (.ifCond .eq 7, 3) := by decide +kernel
theorem dX4_freshLoads_8 : decode cX4_freshLoads 8 = .ok (.iconst 0, 1) := by decide +kernel
theorem dX4_freshLoads_9 : decode cX4_freshLoads 9 = .ok (.goto 4, 3) := by decide +kernel
theorem dX4_freshLoads_12 : decode cX4_freshLoads 12 = .ok (.iconst 1, 1) := by decide +kernel
theorem dX4_freshLoads_13 : decode cX4_freshLoads 13 = .ok (.invokevirtual 94, 3) := by decide +kernel
theorem dX4_freshLoads_16 : decode cX4_freshLoads 16 = .ok (.ifCond .eq 12, 3) := by decide +kernel
theorem dX4_freshLoads_19 : decode cX4_freshLoads 19 = .ok (.aload_n 0, 1) := by decide +kernel
theorem dX4_freshLoads_20 : decode cX4_freshLoads 20 = .ok (.getfield 77, 3) := by decide +kernel
theorem dX4_freshLoads_23 : decode cX4_freshLoads 23 = .ok (.iload_n 1, 1) := by decide +kernel
theorem dX4_freshLoads_24 : decode cX4_freshLoads 24 = .ok (.iaload, 1) := by decide +kernel
theorem dX4_freshLoads_25 : decode cX4_freshLoads 25 = .ok (.goto 4, 3) := by decide +kernel
theorem dX4_freshLoads_28 : decode cX4_freshLoads 28 = .ok (.iconst 0, 1) := by decide +kernel
theorem dX4_freshLoads_29 : decode cX4_freshLoads 29 = .ok (.ireturn, 1) := by decide +kernel
theorem dJ13_bitCount_95d88_0 : decode cJ13_bitCount_95d88 0 = .ok (.lload_n 0, 1) := by decide +kernel
theorem dJ13_bitCount_95d88_1 : decode cJ13_bitCount_95d88 1 = .ok (.lload_n 0, 1) := by decide +kernel
theorem dJ13_bitCount_95d88_2 : decode cJ13_bitCount_95d88 2 = .ok (.iconst 1, 1) := by decide +kernel
theorem dJ13_bitCount_95d88_3 : decode cJ13_bitCount_95d88 3 = .ok (.lushr, 1) := by decide +kernel
theorem dJ13_bitCount_95d88_4 : decode cJ13_bitCount_95d88 4 = .ok (.ldc2_w 314, 3) := by decide +kernel
theorem dJ13_bitCount_95d88_7 : decode cJ13_bitCount_95d88 7 = .ok (.land, 1) := by decide +kernel
theorem dJ13_bitCount_95d88_8 : decode cJ13_bitCount_95d88 8 = .ok (.lsub, 1) := by decide +kernel
theorem dJ13_bitCount_95d88_9 : decode cJ13_bitCount_95d88 9 = .ok (.lstore_n 0, 1) := by decide +kernel
theorem dJ13_bitCount_95d88_10 : decode cJ13_bitCount_95d88 10 = .ok (.lload_n 0, 1) := by decide +kernel
theorem dJ13_bitCount_95d88_11 : decode cJ13_bitCount_95d88 11 = .ok (.ldc2_w 316, 3) := by decide +kernel
theorem dJ13_bitCount_95d88_14 : decode cJ13_bitCount_95d88 14 = .ok (.land, 1) := by decide +kernel
theorem dJ13_bitCount_95d88_15 : decode cJ13_bitCount_95d88 15 = .ok (.lload_n 0, 1) := by decide +kernel
theorem dJ13_bitCount_95d88_16 : decode cJ13_bitCount_95d88 16 = .ok (.iconst 2, 1) := by decide +kernel
theorem dJ13_bitCount_95d88_17 : decode cJ13_bitCount_95d88 17 = .ok (.lushr, 1) := by decide +kernel
theorem dJ13_bitCount_95d88_18 : decode cJ13_bitCount_95d88 18 = .ok (.ldc2_w 316, 3) := by decide +kernel
theorem dJ13_bitCount_95d88_21 : decode cJ13_bitCount_95d88 21 = .ok (.land, 1) := by decide +kernel
theorem dJ13_bitCount_95d88_22 : decode cJ13_bitCount_95d88 22 = .ok (.ladd, 1) := by decide +kernel
theorem dJ13_bitCount_95d88_23 : decode cJ13_bitCount_95d88 23 = .ok (.lstore_n 0, 1) := by decide +kernel
theorem dJ13_bitCount_95d88_24 : decode cJ13_bitCount_95d88 24 = .ok (.lload_n 0, 1) := by decide +kernel
theorem dJ13_bitCount_95d88_25 : decode cJ13_bitCount_95d88 25 = .ok (.lload_n 0, 1) := by decide +kernel
theorem dJ13_bitCount_95d88_26 : decode cJ13_bitCount_95d88 26 = .ok (.iconst 4, 1) := by decide +kernel
theorem dJ13_bitCount_95d88_27 : decode cJ13_bitCount_95d88 27 = .ok (.lushr, 1) := by decide +kernel
theorem dJ13_bitCount_95d88_28 : decode cJ13_bitCount_95d88 28 = .ok (.ladd, 1) := by decide +kernel
theorem dJ13_bitCount_95d88_29 : decode cJ13_bitCount_95d88 29 = .ok (.ldc2_w 318, 3) := by decide +kernel
theorem dJ13_bitCount_95d88_32 : decode cJ13_bitCount_95d88 32 = .ok (.land, 1) := by decide +kernel
theorem dJ13_bitCount_95d88_33 : decode cJ13_bitCount_95d88 33 = .ok (.lstore_n 0, 1) := by decide +kernel
theorem dJ13_bitCount_95d88_34 : decode cJ13_bitCount_95d88 34 = .ok (.lload_n 0, 1) := by decide +kernel
theorem dJ13_bitCount_95d88_35 : decode cJ13_bitCount_95d88 35 = .ok (.lload_n 0, 1) := by decide +kernel
theorem dJ13_bitCount_95d88_36 : decode cJ13_bitCount_95d88 36 = .ok (.bipush 8, 2) := by decide +kernel
theorem dJ13_bitCount_95d88_38 : decode cJ13_bitCount_95d88 38 = .ok (.lushr, 1) := by decide +kernel
theorem dJ13_bitCount_95d88_39 : decode cJ13_bitCount_95d88 39 = .ok (.ladd, 1) := by decide +kernel
theorem dJ13_bitCount_95d88_40 : decode cJ13_bitCount_95d88 40 = .ok (.lstore_n 0, 1) := by decide +kernel
theorem dJ13_bitCount_95d88_41 : decode cJ13_bitCount_95d88 41 = .ok (.lload_n 0, 1) := by decide +kernel
theorem dJ13_bitCount_95d88_42 : decode cJ13_bitCount_95d88 42 = .ok (.lload_n 0, 1) := by decide +kernel
theorem dJ13_bitCount_95d88_43 : decode cJ13_bitCount_95d88 43 = .ok (.bipush 16, 2) := by decide +kernel
theorem dJ13_bitCount_95d88_45 : decode cJ13_bitCount_95d88 45 = .ok (.lushr, 1) := by decide +kernel
theorem dJ13_bitCount_95d88_46 : decode cJ13_bitCount_95d88 46 = .ok (.ladd, 1) := by decide +kernel
theorem dJ13_bitCount_95d88_47 : decode cJ13_bitCount_95d88 47 = .ok (.lstore_n 0, 1) := by decide +kernel
theorem dJ13_bitCount_95d88_48 : decode cJ13_bitCount_95d88 48 = .ok (.lload_n 0, 1) := by decide +kernel
theorem dJ13_bitCount_95d88_49 : decode cJ13_bitCount_95d88 49 = .ok (.lload_n 0, 1) := by decide +kernel
theorem dJ13_bitCount_95d88_50 : decode cJ13_bitCount_95d88 50 = .ok (.bipush 32, 2) := by decide +kernel
theorem dJ13_bitCount_95d88_52 : decode cJ13_bitCount_95d88 52 = .ok (.lushr, 1) := by decide +kernel
theorem dJ13_bitCount_95d88_53 : decode cJ13_bitCount_95d88 53 = .ok (.ladd, 1) := by decide +kernel
theorem dJ13_bitCount_95d88_54 : decode cJ13_bitCount_95d88 54 = .ok (.lstore_n 0, 1) := by decide +kernel
theorem dJ13_bitCount_95d88_55 : decode cJ13_bitCount_95d88 55 = .ok (.lload_n 0, 1) := by decide +kernel
theorem dJ13_bitCount_95d88_56 : decode cJ13_bitCount_95d88 56 = .ok (.l2i, 1) := by decide +kernel
theorem dJ13_bitCount_95d88_57 : decode cJ13_bitCount_95d88 57 = .ok (.bipush 127, 2) := by decide +kernel
theorem dJ13_bitCount_95d88_59 : decode cJ13_bitCount_95d88 59 = .ok (.iand, 1) := by decide +kernel
theorem dJ13_bitCount_95d88_60 : decode cJ13_bitCount_95d88 60 = .ok (.ireturn, 1) := by decide +kernel
theorem dJ9_floorMod_7cf53_0 : decode cJ9_floorMod_7cf53 0 = .ok (.iload_n 0, 1) := by decide +kernel
theorem dJ9_floorMod_7cf53_1 : decode cJ9_floorMod_7cf53 1 = .ok (.iload_n 1, 1) := by decide +kernel
theorem dJ9_floorMod_7cf53_2 : decode cJ9_floorMod_7cf53 2 = .ok (.irem, 1) := by decide +kernel
theorem dJ9_floorMod_7cf53_3 : decode cJ9_floorMod_7cf53 3 = .ok (.istore_n 2, 1) := by decide +kernel
theorem dJ9_floorMod_7cf53_4 : decode cJ9_floorMod_7cf53 4 = .ok (.iload_n 0, 1) := by decide +kernel
theorem dJ9_floorMod_7cf53_5 : decode cJ9_floorMod_7cf53 5 = .ok (.iload_n 1, 1) := by decide +kernel
theorem dJ9_floorMod_7cf53_6 : decode cJ9_floorMod_7cf53 6 = .ok (.ixor, 1) := by decide +kernel
theorem dJ9_floorMod_7cf53_7 : decode cJ9_floorMod_7cf53 7 = .ok (.ifCond .ge 11, 3) := by decide +kernel
theorem dJ9_floorMod_7cf53_10 : decode cJ9_floorMod_7cf53 10 = .ok (.iload_n 2, 1) := by decide +kernel
theorem dJ9_floorMod_7cf53_11 : decode cJ9_floorMod_7cf53 11 = .ok (.ifCond .eq 7, 3) := by decide +kernel
theorem dJ9_floorMod_7cf53_14 : decode cJ9_floorMod_7cf53 14 = .ok (.iload_n 2, 1) := by decide +kernel
theorem dJ9_floorMod_7cf53_15 : decode cJ9_floorMod_7cf53 15 = .ok (.iload_n 1, 1) := by decide +kernel
theorem dJ9_floorMod_7cf53_16 : decode cJ9_floorMod_7cf53 16 = .ok (.iadd, 1) := by decide +kernel
theorem dJ9_floorMod_7cf53_17 : decode cJ9_floorMod_7cf53 17 = .ok (.ireturn, 1) := by decide +kernel
theorem dJ9_floorMod_7cf53_18 : decode cJ9_floorMod_7cf53 18 = .ok (.iload_n 2, 1) := by decide +kernel
theorem dJ9_floorMod_7cf53_19 : decode cJ9_floorMod_7cf53 19 = .ok (.ireturn, 1) := by decide +kernel
theorem dJ9_min_7cf53_0 : decode cJ9_min_7cf53 0 = .ok (.iload_n 0, 1) := by decide +kernel
theorem dJ9_min_7cf53_1 : decode cJ9_min_7cf53 1 = .ok (.iload_n 1, 1) := by decide +kernel
theorem dJ9_min_7cf53_2 : decode cJ9_min_7cf53 2 = .ok (.if_icmp .gt 7, 3) := by decide +kernel
theorem dJ9_min_7cf53_5 : decode cJ9_min_7cf53 5 = .ok (.iload_n 0, 1) := by decide +kernel
theorem dJ9_min_7cf53_6 : decode cJ9_min_7cf53 6 = .ok (.goto 4, 3) := by decide +kernel
theorem dJ9_min_7cf53_9 : decode cJ9_min_7cf53 9 = .ok (.iload_n 1, 1) := by decide +kernel
theorem dJ9_min_7cf53_10 : decode cJ9_min_7cf53 10 = .ok (.ireturn, 1) := by decide +kernel
theorem dL_add_0 : decode cL_add 0 = .ok (.aload 4, 2) := by decide +kernel
theorem dL_add_2 : decode cL_add 2 = .ok (.iconst 0, 1) := by decide +kernel
theorem dL_add_3 : decode cL_add 3 = .ok (.aload_n 0, 1) := by decide +kernel
theorem dL_add_4 : decode cL_add 4 = .ok (.iload_n 1, 1) := by decide +kernel
theorem dL_add_5 : decode cL_add 5 = .ok (.iload_n 2, 1) := by decide +kernel
theorem dL_add_6 : decode cL_add 6 = .ok (.iload_n 3, 1) := by decide +kernel
theorem dL_add_7 : decode cL_add 7 = .ok (.invokevirtual 7, 3) := by decide +kernel
theorem dL_add_10 : decode cL_add 10 = .ok (.i2l, 1) := by decide +kernel
theorem dL_add_11 : decode cL_add 11 = .ok (.lastore, 1) := by decide +kernel
theorem dL_add_12 : decode cL_add 12 = .ok (.goto 11, 3) := by decide +kernel
theorem dL_add_15 : decode cL_add 15 = .ok (.astore 5, 2) := by decide +kernel
theorem dL_add_17 : decode cL_add 17 = .ok (.iconst 1, 1) := by decide +kernel
theorem dL_add_18 : decode cL_add 18 = .ok (.ireturn, 1) := by decide +kernel
theorem dL_add_19 : decode cL_add 19 = .ok (.astore 5, 2) := by decide +kernel
theorem dL_add_21 : decode cL_add 21 = .ok (.iconst 2, 1) := by decide +kernel
theorem dL_add_22 : decode cL_add 22 = .ok (.ireturn, 1) := by decide +kernel
theorem dL_add_23 : decode cL_add 23 = .ok (.iconst 0, 1) := by decide +kernel
theorem dL_add_24 : decode cL_add 24 = .ok (.ireturn, 1) := by decide +kernel
theorem dL_move_0 : decode cL_move 0 = .ok (.aload_n 3, 1) := by decide +kernel
theorem dL_move_1 : decode cL_move 1 = .ok (.iconst 0, 1) := by decide +kernel
theorem dL_move_2 : decode cL_move 2 = .ok (.aload_n 0, 1) := by decide +kernel
theorem dL_move_3 : decode cL_move 3 = .ok (.iload_n 1, 1) := by decide +kernel
theorem dL_move_4 : decode cL_move 4 = .ok (.iload_n 2, 1) := by decide +kernel
theorem dL_move_5 : decode cL_move 5 = .ok (.invokevirtual 17, 3) := by decide +kernel
theorem dL_move_8 : decode cL_move 8 = .ok (.i2l, 1) := by decide +kernel
theorem dL_move_9 : decode cL_move 9 = .ok (.lastore, 1) := by decide +kernel
theorem dL_move_10 : decode cL_move 10 = .ok (.goto 11, 3) := by decide +kernel
theorem dL_move_13 : decode cL_move 13 = .ok (.astore 4, 2) := by decide +kernel
theorem dL_move_15 : decode cL_move 15 = .ok (.iconst 1, 1) := by decide +kernel
theorem dL_move_16 : decode cL_move 16 = .ok (.ireturn, 1) := by decide +kernel
theorem dL_move_17 : decode cL_move 17 = .ok (.astore 4, 2) := by decide +kernel
theorem dL_move_19 : decode cL_move 19 = .ok (.iconst 2, 1) := by decide +kernel
theorem dL_move_20 : decode cL_move 20 = .ok (.ireturn, 1) := by decide +kernel
theorem dL_move_21 : decode cL_move 21 = .ok (.iconst 0, 1) := by decide +kernel
theorem dL_move_22 : decode cL_move 22 = .ok (.ireturn, 1) := by decide +kernel
theorem dL_flag_0 : decode cL_flag 0 = .ok (.aload 4, 2) := by decide +kernel
theorem dL_flag_2 : decode cL_flag 2 = .ok (.iconst 0, 1) := by decide +kernel
theorem dL_flag_3 : decode cL_flag 3 = .ok (.aload_n 0, 1) := by decide +kernel
theorem dL_flag_4 : decode cL_flag 4 = .ok (.iload_n 1, 1) := by decide +kernel
theorem dL_flag_5 : decode cL_flag 5 = .ok (.iload_n 2, 1) := by decide +kernel
theorem dL_flag_6 : decode cL_flag 6 = .ok (.iload_n 3, 1) := by decide +kernel
theorem dL_flag_7 : decode cL_flag 7 = .ok (.invokevirtual 23, 3) := by decide +kernel
theorem dL_flag_10 : decode cL_flag 10 = .ok (.ifCond .eq 7, 3) := by decide +kernel
theorem dL_flag_13 : decode cL_flag 13 = .ok (.lconst 1, 1) := by decide +kernel
theorem dL_flag_14 : decode cL_flag 14 = .ok (.goto 4, 3) := by decide +kernel
theorem dL_flag_17 : decode cL_flag 17 = .ok (.lconst 0, 1) := by decide +kernel
theorem dL_flag_18 : decode cL_flag 18 = .ok (.lastore, 1) := by decide +kernel
theorem dL_flag_19 : decode cL_flag 19 = .ok (.goto 11, 3) := by decide +kernel
theorem dL_flag_22 : decode cL_flag 22 = .ok (.astore 5, 2) := by decide +kernel
theorem dL_flag_24 : decode cL_flag 24 = .ok (.iconst 1, 1) := by decide +kernel
theorem dL_flag_25 : decode cL_flag 25 = .ok (.ireturn, 1) := by decide +kernel
theorem dL_flag_26 : decode cL_flag 26 = .ok (.astore 5, 2) := by decide +kernel
theorem dL_flag_28 : decode cL_flag 28 = .ok (.iconst 2, 1) := by decide +kernel
theorem dL_flag_29 : decode cL_flag 29 = .ok (.ireturn, 1) := by decide +kernel
theorem dL_flag_30 : decode cL_flag 30 = .ok (.iconst 0, 1) := by decide +kernel
theorem dL_flag_31 : decode cL_flag 31 = .ok (.ireturn, 1) := by decide +kernel
theorem dL_flagIf_0 : decode cL_flagIf 0 = .ok (.aload 5, 2) := by decide +kernel
theorem dL_flagIf_2 : decode cL_flagIf 2 = .ok (.iconst 0, 1) := by decide +kernel
theorem dL_flagIf_3 : decode cL_flagIf 3 = .ok (.aload_n 0, 1) := by decide +kernel
theorem dL_flagIf_4 : decode cL_flagIf 4 = .ok (.iload_n 1, 1) := by decide +kernel
theorem dL_flagIf_5 : decode cL_flagIf 5 = .ok (.iload_n 2, 1) := by decide +kernel
theorem dL_flagIf_6 : decode cL_flagIf 6 = .ok (.iload_n 3, 1) := by decide +kernel
theorem dL_flagIf_7 : decode cL_flagIf 7 = .ok (.iload 4, 2) := by decide +kernel
theorem dL_flagIf_9 : decode cL_flagIf 9 = .ok (.invokevirtual 27, 3) := by decide +kernel
theorem dL_flagIf_12 : decode cL_flagIf 12 = .ok (.ifCond .eq 7, 3) := by decide +kernel
theorem dL_flagIf_15 : decode cL_flagIf 15 = .ok (.lconst 1, 1) := by decide +kernel
theorem dL_flagIf_16 : decode cL_flagIf 16 = .ok (.goto 4, 3) := by decide +kernel
theorem dL_flagIf_19 : decode cL_flagIf 19 = .ok (.lconst 0, 1) := by decide +kernel
theorem dL_flagIf_20 : decode cL_flagIf 20 = .ok (.lastore, 1) := by decide +kernel
theorem dL_flagIf_21 : decode cL_flagIf 21 = .ok (.goto 15, 3) := by decide +kernel
theorem dL_flagIf_24 : decode cL_flagIf 24 = .ok (.astore 6, 2) := by decide +kernel
theorem dL_flagIf_26 : decode cL_flagIf 26 = .ok (.iconst 1, 1) := by decide +kernel
theorem dL_flagIf_27 : decode cL_flagIf 27 = .ok (.ireturn, 1) := by decide +kernel
theorem dL_flagIf_28 : decode cL_flagIf 28 = .ok (.astore 6, 2) := by decide +kernel
theorem dL_flagIf_30 : decode cL_flagIf 30 = .ok (.iconst 2, 1) := by decide +kernel
theorem dL_flagIf_31 : decode cL_flagIf 31 = .ok (.ireturn, 1) := by decide +kernel
theorem dL_flagIf_32 : decode cL_flagIf 32 = .ok (.astore 6, 2) := by decide +kernel
theorem dL_flagIf_34 : decode cL_flagIf 34 = .ok (.iconst 3, 1) := by decide +kernel
theorem dL_flagIf_35 : decode cL_flagIf 35 = .ok (.ireturn, 1) := by decide +kernel
theorem dL_flagIf_36 : decode cL_flagIf 36 = .ok (.iconst 0, 1) := by decide +kernel
theorem dL_flagIf_37 : decode cL_flagIf 37 = .ok (.ireturn, 1) := by decide +kernel
theorem dL_destroy_0 : decode cL_destroy 0 = .ok (.aload_n 2, 1) := by decide +kernel
theorem dL_destroy_1 : decode cL_destroy 1 = .ok (.iconst 0, 1) := by decide +kernel
theorem dL_destroy_2 : decode cL_destroy 2 = .ok (.aload_n 0, 1) := by decide +kernel
theorem dL_destroy_3 : decode cL_destroy 3 = .ok (.iload_n 1, 1) := by decide +kernel
theorem dL_destroy_4 : decode cL_destroy 4 = .ok (.invokevirtual 31, 3) := by decide +kernel
theorem dL_destroy_7 : decode cL_destroy 7 = .ok (.i2l, 1) := by decide +kernel
theorem dL_destroy_8 : decode cL_destroy 8 = .ok (.lastore, 1) := by decide +kernel
theorem dL_destroy_9 : decode cL_destroy 9 = .ok (.goto 6, 3) := by decide +kernel
theorem dL_destroy_12 : decode cL_destroy 12 = .ok (.astore_n 3, 1) := by decide +kernel
theorem dL_destroy_13 : decode cL_destroy 13 = .ok (.iconst 1, 1) := by decide +kernel
theorem dL_destroy_14 : decode cL_destroy 14 = .ok (.ireturn, 1) := by decide +kernel
theorem dL_destroy_15 : decode cL_destroy 15 = .ok (.iconst 0, 1) := by decide +kernel
theorem dL_destroy_16 : decode cL_destroy 16 = .ok (.ireturn, 1) := by decide +kernel
theorem dL_keywords_0 : decode cL_keywords 0 = .ok (.aload_n 2, 1) := by decide +kernel
theorem dL_keywords_1 : decode cL_keywords 1 = .ok (.iconst 0, 1) := by decide +kernel
theorem dL_keywords_2 : decode cL_keywords 2 = .ok (.aload_n 0, 1) := by decide +kernel
theorem dL_keywords_3 : decode cL_keywords 3 = .ok (.iload_n 1, 1) := by decide +kernel
theorem dL_keywords_4 : decode cL_keywords 4 = .ok (.invokevirtual 35, 3) := by decide +kernel
theorem dL_keywords_7 : decode cL_keywords 7 = .ok (.i2l, 1) := by decide +kernel
theorem dL_keywords_8 : decode cL_keywords 8 = .ok (.lastore, 1) := by decide +kernel
theorem dL_keywords_9 : decode cL_keywords 9 = .ok (.goto 6, 3) := by decide +kernel
theorem dL_keywords_12 : decode cL_keywords 12 = .ok (.astore_n 3, 1) := by decide +kernel
theorem dL_keywords_13 : decode cL_keywords 13 = .ok (.iconst 1, 1) := by decide +kernel
theorem dL_keywords_14 : decode cL_keywords 14 = .ok (.ireturn, 1) := by decide +kernel
theorem dL_keywords_15 : decode cL_keywords 15 = .ok (.iconst 0, 1) := by decide +kernel
theorem dL_keywords_16 : decode cL_keywords 16 = .ok (.ireturn, 1) := by decide +kernel
theorem dL_inThread_0 : decode cL_inThread 0 = .ok (.aload_n 2, 1) := by decide +kernel
theorem dL_inThread_1 : decode cL_inThread 1 = .ok (.iconst 0, 1) := by decide +kernel
theorem dL_inThread_2 : decode cL_inThread 2 = .ok (.aload_n 0, 1) := by decide +kernel
theorem dL_inThread_3 : decode cL_inThread 3 = .ok (.iload_n 1, 1) := by decide +kernel
theorem dL_inThread_4 : decode cL_inThread 4 = .ok (.invokevirtual 38, 3) := by decide +kernel
theorem dL_inThread_7 : decode cL_inThread 7 = .ok (.i2l, 1) := by decide +kernel
theorem dL_inThread_8 : decode cL_inThread 8 = .ok (.lastore, 1) := by decide +kernel
theorem dL_inThread_9 : decode cL_inThread 9 = .ok (.goto 6, 3) := by decide +kernel
theorem dL_inThread_12 : decode cL_inThread 12 = .ok (.astore_n 3, 1) := by decide +kernel
theorem dL_inThread_13 : decode cL_inThread 13 = .ok (.iconst 1, 1) := by decide +kernel
theorem dL_inThread_14 : decode cL_inThread 14 = .ok (.ireturn, 1) := by decide +kernel
theorem dL_inThread_15 : decode cL_inThread 15 = .ok (.iconst 0, 1) := by decide +kernel
theorem dL_inThread_16 : decode cL_inThread 16 = .ok (.ireturn, 1) := by decide +kernel
theorem dL_share_0 : decode cL_share 0 = .ok (.aload_n 3, 1) := by decide +kernel
theorem dL_share_1 : decode cL_share 1 = .ok (.iconst 0, 1) := by decide +kernel
theorem dL_share_2 : decode cL_share 2 = .ok (.aload_n 0, 1) := by decide +kernel
theorem dL_share_3 : decode cL_share 3 = .ok (.iload_n 1, 1) := by decide +kernel
theorem dL_share_4 : decode cL_share 4 = .ok (.iload_n 2, 1) := by decide +kernel
theorem dL_share_5 : decode cL_share 5 = .ok (.invokevirtual 41, 3) := by decide +kernel
theorem dL_share_8 : decode cL_share 8 = .ok (.f2d, 1) := by decide +kernel
theorem dL_share_9 : decode cL_share 9 = .ok (.dastore, 1) := by decide +kernel
theorem dL_share_10 : decode cL_share 10 = .ok (.goto 7, 3) := by decide +kernel
theorem dL_share_13 : decode cL_share 13 = .ok (.astore 4, 2) := by decide +kernel
theorem dL_share_15 : decode cL_share 15 = .ok (.iconst 1, 1) := by decide +kernel
theorem dL_share_16 : decode cL_share 16 = .ok (.ireturn, 1) := by decide +kernel
theorem dL_share_17 : decode cL_share 17 = .ok (.iconst 0, 1) := by decide +kernel
theorem dL_share_18 : decode cL_share 18 = .ok (.ireturn, 1) := by decide +kernel
theorem dL_canTell_0 : decode cL_canTell 0 = .ok (.aload_n 2, 1) := by decide +kernel
theorem dL_canTell_1 : decode cL_canTell 1 = .ok (.iconst 0, 1) := by decide +kernel
theorem dL_canTell_2 : decode cL_canTell 2 = .ok (.aload_n 0, 1) := by decide +kernel
theorem dL_canTell_3 : decode cL_canTell 3 = .ok (.iload_n 1, 1) := by decide +kernel
theorem dL_canTell_4 : decode cL_canTell 4 = .ok (.invokevirtual 45, 3) := by decide +kernel
theorem dL_canTell_7 : decode cL_canTell 7 = .ok (.ifCond .eq 7, 3) := by decide +kernel
theorem dL_canTell_10 : decode cL_canTell 10 = .ok (.lconst 1, 1) := by decide +kernel
theorem dL_canTell_11 : decode cL_canTell 11 = .ok (.goto 4, 3) := by decide +kernel
theorem dL_canTell_14 : decode cL_canTell 14 = .ok (.lconst 0, 1) := by decide +kernel
theorem dL_canTell_15 : decode cL_canTell 15 = .ok (.lastore, 1) := by decide +kernel
theorem dL_canTell_16 : decode cL_canTell 16 = .ok (.goto 6, 3) := by decide +kernel
theorem dL_canTell_19 : decode cL_canTell 19 = .ok (.astore_n 3, 1) := by decide +kernel
theorem dL_canTell_20 : decode cL_canTell 20 = .ok (.iconst 1, 1) := by decide +kernel
theorem dL_canTell_21 : decode cL_canTell 21 = .ok (.ireturn, 1) := by decide +kernel
theorem dL_canTell_22 : decode cL_canTell 22 = .ok (.iconst 0, 1) := by decide +kernel
theorem dL_canTell_23 : decode cL_canTell 23 = .ok (.ireturn, 1) := by decide +kernel
theorem dL_changed_0 : decode cL_changed 0 = .ok (.aload_n 3, 1) := by decide +kernel
theorem dL_changed_1 : decode cL_changed 1 = .ok (.iconst 0, 1) := by decide +kernel
theorem dL_changed_2 : decode cL_changed 2 = .ok (.aload_n 0, 1) := by decide +kernel
theorem dL_changed_3 : decode cL_changed 3 = .ok (.iload_n 1, 1) := by decide +kernel
theorem dL_changed_4 : decode cL_changed 4 = .ok (.iload_n 2, 1) := by decide +kernel
theorem dL_changed_5 : decode cL_changed 5 = .ok (.invokevirtual 49, 3) := by decide +kernel
theorem dL_changed_8 : decode cL_changed 8 = .ok (.i2l, 1) := by decide +kernel
theorem dL_changed_9 : decode cL_changed 9 = .ok (.lastore, 1) := by decide +kernel
theorem dL_changed_10 : decode cL_changed 10 = .ok (.goto 11, 3) := by decide +kernel
theorem dL_changed_13 : decode cL_changed 13 = .ok (.astore 4, 2) := by decide +kernel
theorem dL_changed_15 : decode cL_changed 15 = .ok (.iconst 1, 1) := by decide +kernel
theorem dL_changed_16 : decode cL_changed 16 = .ok (.ireturn, 1) := by decide +kernel
theorem dL_changed_17 : decode cL_changed 17 = .ok (.astore 4, 2) := by decide +kernel
theorem dL_changed_19 : decode cL_changed 19 = .ok (.iconst 2, 1) := by decide +kernel
theorem dL_changed_20 : decode cL_changed 20 = .ok (.ireturn, 1) := by decide +kernel
theorem dL_changed_21 : decode cL_changed 21 = .ok (.iconst 0, 1) := by decide +kernel
theorem dL_changed_22 : decode cL_changed 22 = .ok (.ireturn, 1) := by decide +kernel
theorem dL_changedAt_0 : decode cL_changedAt 0 = .ok (.aload 4, 2) := by decide +kernel
theorem dL_changedAt_2 : decode cL_changedAt 2 = .ok (.iconst 0, 1) := by decide +kernel
theorem dL_changedAt_3 : decode cL_changedAt 3 = .ok (.aload_n 0, 1) := by decide +kernel
theorem dL_changedAt_4 : decode cL_changedAt 4 = .ok (.iload_n 1, 1) := by decide +kernel
theorem dL_changedAt_5 : decode cL_changedAt 5 = .ok (.iload_n 2, 1) := by decide +kernel
theorem dL_changedAt_6 : decode cL_changedAt 6 = .ok (.iload_n 3, 1) := by decide +kernel
theorem dL_changedAt_7 : decode cL_changedAt 7 = .ok (.invokevirtual 52, 3) := by decide +kernel
theorem dL_changedAt_10 : decode cL_changedAt 10 = .ok (.i2l, 1) := by decide +kernel
theorem dL_changedAt_11 : decode cL_changedAt 11 = .ok (.lastore, 1) := by decide +kernel
theorem dL_changedAt_12 : decode cL_changedAt 12 = .ok (.goto 15, 3) := by decide +kernel
theorem dL_changedAt_15 : decode cL_changedAt 15 = .ok (.astore 5, 2) := by decide +kernel
theorem dL_changedAt_17 : decode cL_changedAt 17 = .ok (.iconst 1, 1) := by decide +kernel
theorem dL_changedAt_18 : decode cL_changedAt 18 = .ok (.ireturn, 1) := by decide +kernel
theorem dL_changedAt_19 : decode cL_changedAt 19 = .ok (.astore 5, 2) := by decide +kernel
theorem dL_changedAt_21 : decode cL_changedAt 21 = .ok (.iconst 2, 1) := by decide +kernel
theorem dL_changedAt_22 : decode cL_changedAt 22 = .ok (.ireturn, 1) := by decide +kernel
theorem dL_changedAt_23 : decode cL_changedAt 23 = .ok (.astore 5, 2) := by decide +kernel
theorem dL_changedAt_25 : decode cL_changedAt 25 = .ok (.iconst 3, 1) := by decide +kernel
theorem dL_changedAt_26 : decode cL_changedAt 26 = .ok (.ireturn, 1) := by decide +kernel
theorem dL_changedAt_27 : decode cL_changedAt 27 = .ok (.iconst 0, 1) := by decide +kernel
theorem dL_changedAt_28 : decode cL_changedAt 28 = .ok (.ireturn, 1) := by decide +kernel
theorem dL_page_0 : decode cL_page 0 = .ok (.aload_n 3, 1) := by decide +kernel
theorem dL_page_1 : decode cL_page 1 = .ok (.iconst 0, 1) := by decide +kernel
theorem dL_page_2 : decode cL_page 2 = .ok (.aload_n 0, 1) := by decide +kernel
theorem dL_page_3 : decode cL_page 3 = .ok (.iload_n 1, 1) := by decide +kernel
theorem dL_page_4 : decode cL_page 4 = .ok (.iload_n 2, 1) := by decide +kernel
theorem dL_page_5 : decode cL_page 5 = .ok (.invokevirtual 55, 3) := by decide +kernel
theorem dL_page_8 : decode cL_page 8 = .ok (.i2l, 1) := by decide +kernel
theorem dL_page_9 : decode cL_page 9 = .ok (.lastore, 1) := by decide +kernel
theorem dL_page_10 : decode cL_page 10 = .ok (.goto 11, 3) := by decide +kernel
theorem dL_page_13 : decode cL_page 13 = .ok (.astore 4, 2) := by decide +kernel
theorem dL_page_15 : decode cL_page 15 = .ok (.iconst 1, 1) := by decide +kernel
theorem dL_page_16 : decode cL_page 16 = .ok (.ireturn, 1) := by decide +kernel
theorem dL_page_17 : decode cL_page 17 = .ok (.astore 4, 2) := by decide +kernel
theorem dL_page_19 : decode cL_page 19 = .ok (.iconst 2, 1) := by decide +kernel
theorem dL_page_20 : decode cL_page 20 = .ok (.ireturn, 1) := by decide +kernel
theorem dL_page_21 : decode cL_page 21 = .ok (.iconst 0, 1) := by decide +kernel
theorem dL_page_22 : decode cL_page 22 = .ok (.ireturn, 1) := by decide +kernel
theorem dL_found_0 : decode cL_found 0 = .ok (.aload_n 3, 1) := by decide +kernel
theorem dL_found_1 : decode cL_found 1 = .ok (.iconst 0, 1) := by decide +kernel
theorem dL_found_2 : decode cL_found 2 = .ok (.aload_n 0, 1) := by decide +kernel
theorem dL_found_3 : decode cL_found 3 = .ok (.iload_n 1, 1) := by decide +kernel
theorem dL_found_4 : decode cL_found 4 = .ok (.iload_n 2, 1) := by decide +kernel
theorem dL_found_5 : decode cL_found 5 = .ok (.invokevirtual 58, 3) := by decide +kernel
theorem dL_found_8 : decode cL_found 8 = .ok (.i2l, 1) := by decide +kernel
theorem dL_found_9 : decode cL_found 9 = .ok (.lastore, 1) := by decide +kernel
theorem dL_found_10 : decode cL_found 10 = .ok (.goto 7, 3) := by decide +kernel
theorem dL_found_13 : decode cL_found 13 = .ok (.astore 4, 2) := by decide +kernel
theorem dL_found_15 : decode cL_found 15 = .ok (.iconst 1, 1) := by decide +kernel
theorem dL_found_16 : decode cL_found 16 = .ok (.ireturn, 1) := by decide +kernel
theorem dL_found_17 : decode cL_found 17 = .ok (.iconst 0, 1) := by decide +kernel
theorem dL_found_18 : decode cL_found 18 = .ok (.ireturn, 1) := by decide +kernel
theorem dL_foundAt_0 : decode cL_foundAt 0 = .ok (.aload 4, 2) := by decide +kernel
theorem dL_foundAt_2 : decode cL_foundAt 2 = .ok (.iconst 0, 1) := by decide +kernel
theorem dL_foundAt_3 : decode cL_foundAt 3 = .ok (.aload_n 0, 1) := by decide +kernel
theorem dL_foundAt_4 : decode cL_foundAt 4 = .ok (.iload_n 1, 1) := by decide +kernel
theorem dL_foundAt_5 : decode cL_foundAt 5 = .ok (.iload_n 2, 1) := by decide +kernel
theorem dL_foundAt_6 : decode cL_foundAt 6 = .ok (.iload_n 3, 1) := by decide +kernel
theorem dL_foundAt_7 : decode cL_foundAt 7 = .ok (.invokevirtual 61, 3) := by decide +kernel
theorem dL_foundAt_10 : decode cL_foundAt 10 = .ok (.i2l, 1) := by decide +kernel
theorem dL_foundAt_11 : decode cL_foundAt 11 = .ok (.lastore, 1) := by decide +kernel
theorem dL_foundAt_12 : decode cL_foundAt 12 = .ok (.goto 11, 3) := by decide +kernel
theorem dL_foundAt_15 : decode cL_foundAt 15 = .ok (.astore 5, 2) := by decide +kernel
theorem dL_foundAt_17 : decode cL_foundAt 17 = .ok (.iconst 1, 1) := by decide +kernel
theorem dL_foundAt_18 : decode cL_foundAt 18 = .ok (.ireturn, 1) := by decide +kernel
theorem dL_foundAt_19 : decode cL_foundAt 19 = .ok (.astore 5, 2) := by decide +kernel
theorem dL_foundAt_21 : decode cL_foundAt 21 = .ok (.iconst 2, 1) := by decide +kernel
theorem dL_foundAt_22 : decode cL_foundAt 22 = .ok (.ireturn, 1) := by decide +kernel
theorem dL_foundAt_23 : decode cL_foundAt 23 = .ok (.iconst 0, 1) := by decide +kernel
theorem dL_foundAt_24 : decode cL_foundAt 24 = .ok (.ireturn, 1) := by decide +kernel
theorem dL_removed_0 : decode cL_removed 0 = .ok (.aload 4, 2) := by decide +kernel
theorem dL_removed_2 : decode cL_removed 2 = .ok (.iconst 0, 1) := by decide +kernel
theorem dL_removed_3 : decode cL_removed 3 = .ok (.aload_n 0, 1) := by decide +kernel
theorem dL_removed_4 : decode cL_removed 4 = .ok (.iload_n 1, 1) := by decide +kernel
theorem dL_removed_5 : decode cL_removed 5 = .ok (.iload_n 2, 1) := by decide +kernel
theorem dL_removed_6 : decode cL_removed 6 = .ok (.iload_n 3, 1) := by decide +kernel
theorem dL_removed_7 : decode cL_removed 7 = .ok (.invokevirtual 64, 3) := by decide +kernel
theorem dL_removed_10 : decode cL_removed 10 = .ok (.i2l, 1) := by decide +kernel
theorem dL_removed_11 : decode cL_removed 11 = .ok (.lastore, 1) := by decide +kernel
theorem dL_removed_12 : decode cL_removed 12 = .ok (.goto 11, 3) := by decide +kernel
theorem dL_removed_15 : decode cL_removed 15 = .ok (.astore 5, 2) := by decide +kernel
theorem dL_removed_17 : decode cL_removed 17 = .ok (.iconst 1, 1) := by decide +kernel
theorem dL_removed_18 : decode cL_removed 18 = .ok (.ireturn, 1) := by decide +kernel
theorem dL_removed_19 : decode cL_removed 19 = .ok (.astore 5, 2) := by decide +kernel
theorem dL_removed_21 : decode cL_removed 21 = .ok (.iconst 2, 1) := by decide +kernel
theorem dL_removed_22 : decode cL_removed 22 = .ok (.ireturn, 1) := by decide +kernel
theorem dL_removed_23 : decode cL_removed 23 = .ok (.iconst 0, 1) := by decide +kernel
theorem dL_removed_24 : decode cL_removed 24 = .ok (.ireturn, 1) := by decide +kernel
theorem dL_added_0 : decode cL_added 0 = .ok (.aload 4, 2) := by decide +kernel
theorem dL_added_2 : decode cL_added 2 = .ok (.iconst 0, 1) := by decide +kernel
theorem dL_added_3 : decode cL_added 3 = .ok (.aload_n 0, 1) := by decide +kernel
theorem dL_added_4 : decode cL_added 4 = .ok (.iload_n 1, 1) := by decide +kernel
theorem dL_added_5 : decode cL_added 5 = .ok (.iload_n 2, 1) := by decide +kernel
theorem dL_added_6 : decode cL_added 6 = .ok (.iload_n 3, 1) := by decide +kernel
theorem dL_added_7 : decode cL_added 7 = .ok (.invokevirtual 67, 3) := by decide +kernel
theorem dL_added_10 : decode cL_added 10 = .ok (.i2l, 1) := by decide +kernel
theorem dL_added_11 : decode cL_added 11 = .ok (.lastore, 1) := by decide +kernel
theorem dL_added_12 : decode cL_added 12 = .ok (.goto 11, 3) := by decide +kernel
theorem dL_added_15 : decode cL_added 15 = .ok (.astore 5, 2) := by decide +kernel
theorem dL_added_17 : decode cL_added 17 = .ok (.iconst 1, 1) := by decide +kernel
theorem dL_added_18 : decode cL_added 18 = .ok (.ireturn, 1) := by decide +kernel
theorem dL_added_19 : decode cL_added 19 = .ok (.astore 5, 2) := by decide +kernel
theorem dL_added_21 : decode cL_added 21 = .ok (.iconst 2, 1) := by decide +kernel
theorem dL_added_22 : decode cL_added 22 = .ok (.ireturn, 1) := by decide +kernel
theorem dL_added_23 : decode cL_added 23 = .ok (.iconst 0, 1) := by decide +kernel
theorem dL_added_24 : decode cL_added 24 = .ok (.ireturn, 1) := by decide +kernel
theorem dL_watch_0 : decode cL_watch 0 = .ok (.aload_n 0, 1) := by decide +kernel
theorem dL_watch_1 : decode cL_watch 1 = .ok (.iload_n 1, 1) := by decide +kernel
theorem dL_watch_2 : decode cL_watch 2 = .ok (.iload_n 2, 1) := by decide +kernel
theorem dL_watch_3 : decode cL_watch 3 = .ok (.iload_n 3, 1) := by decide +kernel
theorem dL_watch_4 : decode cL_watch 4 = .ok (.invokevirtual 70, 3) := by decide +kernel
theorem dL_watch_7 : decode cL_watch 7 = .ok (.goto 7, 3) := by decide +kernel
theorem dL_watch_10 : decode cL_watch 10 = .ok (.astore 4, 2) := by decide +kernel
theorem dL_watch_12 : decode cL_watch 12 = .ok (.iconst 1, 1) := by decide +kernel
theorem dL_watch_13 : decode cL_watch 13 = .ok (.ireturn, 1) := by decide +kernel
theorem dL_watch_14 : decode cL_watch 14 = .ok (.iconst 0, 1) := by decide +kernel
theorem dL_watch_15 : decode cL_watch 15 = .ok (.ireturn, 1) := by decide +kernel
theorem dL_flagOffline_0 : decode cL_flagOffline 0 = .ok (.aload 5, 2) := by decide +kernel
theorem dL_flagOffline_2 : decode cL_flagOffline 2 = .ok (.iconst 0, 1) := by decide +kernel
theorem dL_flagOffline_3 : decode cL_flagOffline 3 = .ok (.aload_n 0, 1) := by decide +kernel
theorem dL_flagOffline_4 : decode cL_flagOffline 4 = .ok (.iload_n 1, 1) := by decide +kernel
theorem dL_flagOffline_5 : decode cL_flagOffline 5 = .ok (.iload_n 2, 1) := by decide +kernel
theorem dL_flagOffline_6 : decode cL_flagOffline 6 = .ok (.iload_n 3, 1) := by decide +kernel
theorem dL_flagOffline_7 : decode cL_flagOffline 7 = .ok (.iload 4, 2) := by decide +kernel
theorem dL_flagOffline_9 : decode cL_flagOffline 9 = .ok (.invokevirtual 74, 3) := by decide +kernel
theorem dL_flagOffline_12 : decode cL_flagOffline 12 = .ok (.i2l, 1) := by decide +kernel
theorem dL_flagOffline_13 : decode cL_flagOffline 13 = .ok (.lastore, 1) := by decide +kernel
theorem dL_flagOffline_14 : decode cL_flagOffline 14 = .ok (.goto 11, 3) := by decide +kernel
theorem dL_flagOffline_17 : decode cL_flagOffline 17 = .ok (.astore 6, 2) := by decide +kernel
theorem dL_flagOffline_19 : decode cL_flagOffline 19 = .ok (.iconst 1, 1) := by decide +kernel
theorem dL_flagOffline_20 : decode cL_flagOffline 20 = .ok (.ireturn, 1) := by decide +kernel
theorem dL_flagOffline_21 : decode cL_flagOffline 21 = .ok (.astore 6, 2) := by decide +kernel
theorem dL_flagOffline_23 : decode cL_flagOffline 23 = .ok (.iconst 2, 1) := by decide +kernel
theorem dL_flagOffline_24 : decode cL_flagOffline 24 = .ok (.ireturn, 1) := by decide +kernel
theorem dL_flagOffline_25 : decode cL_flagOffline 25 = .ok (.iconst 0, 1) := by decide +kernel
theorem dL_flagOffline_26 : decode cL_flagOffline 26 = .ok (.ireturn, 1) := by decide +kernel
theorem dL_sync_0 : decode cL_sync 0 = .ok (.aload_n 2, 1) := by decide +kernel
theorem dL_sync_1 : decode cL_sync 1 = .ok (.iconst 0, 1) := by decide +kernel
theorem dL_sync_2 : decode cL_sync 2 = .ok (.aload_n 0, 1) := by decide +kernel
theorem dL_sync_3 : decode cL_sync 3 = .ok (.iload_n 1, 1) := by decide +kernel
theorem dL_sync_4 : decode cL_sync 4 = .ok (.invokevirtual 78, 3) := by decide +kernel
theorem dL_sync_7 : decode cL_sync 7 = .ok (.i2l, 1) := by decide +kernel
theorem dL_sync_8 : decode cL_sync 8 = .ok (.lastore, 1) := by decide +kernel
theorem dL_sync_9 : decode cL_sync 9 = .ok (.goto 6, 3) := by decide +kernel
theorem dL_sync_12 : decode cL_sync 12 = .ok (.astore_n 3, 1) := by decide +kernel
theorem dL_sync_13 : decode cL_sync 13 = .ok (.iconst 1, 1) := by decide +kernel
theorem dL_sync_14 : decode cL_sync 14 = .ok (.ireturn, 1) := by decide +kernel
theorem dL_sync_15 : decode cL_sync 15 = .ok (.iconst 0, 1) := by decide +kernel
theorem dL_sync_16 : decode cL_sync 16 = .ok (.ireturn, 1) := by decide +kernel
theorem dL_stateOf_0 : decode cL_stateOf 0 = .ok (.aload_n 2, 1) := by decide +kernel
theorem dL_stateOf_1 : decode cL_stateOf 1 = .ok (.iconst 0, 1) := by decide +kernel
theorem dL_stateOf_2 : decode cL_stateOf 2 = .ok (.aload_n 0, 1) := by decide +kernel
theorem dL_stateOf_3 : decode cL_stateOf 3 = .ok (.iload_n 1, 1) := by decide +kernel
theorem dL_stateOf_4 : decode cL_stateOf 4 = .ok (.invokevirtual 81, 3) := by decide +kernel
theorem dL_stateOf_7 : decode cL_stateOf 7 = .ok (.i2l, 1) := by decide +kernel
theorem dL_stateOf_8 : decode cL_stateOf 8 = .ok (.lastore, 1) := by decide +kernel
theorem dL_stateOf_9 : decode cL_stateOf 9 = .ok (.goto 6, 3) := by decide +kernel
theorem dL_stateOf_12 : decode cL_stateOf 12 = .ok (.astore_n 3, 1) := by decide +kernel
theorem dL_stateOf_13 : decode cL_stateOf 13 = .ok (.iconst 1, 1) := by decide +kernel
theorem dL_stateOf_14 : decode cL_stateOf 14 = .ok (.ireturn, 1) := by decide +kernel
theorem dL_stateOf_15 : decode cL_stateOf 15 = .ok (.iconst 0, 1) := by decide +kernel
theorem dL_stateOf_16 : decode cL_stateOf 16 = .ok (.ireturn, 1) := by decide +kernel
theorem dL_window_0 : decode cL_window 0 = .ok (.aload_n 2, 1) := by decide +kernel
theorem dL_window_1 : decode cL_window 1 = .ok (.iconst 0, 1) := by decide +kernel
theorem dL_window_2 : decode cL_window 2 = .ok (.aload_n 0, 1) := by decide +kernel
theorem dL_window_3 : decode cL_window 3 = .ok (.iload_n 1, 1) := by decide +kernel
theorem dL_window_4 : decode cL_window 4 = .ok (.invokevirtual 84, 3) := by decide +kernel
theorem dL_window_7 : decode cL_window 7 = .ok (.i2l, 1) := by decide +kernel
theorem dL_window_8 : decode cL_window 8 = .ok (.lastore, 1) := by decide +kernel
theorem dL_window_9 : decode cL_window 9 = .ok (.goto 6, 3) := by decide +kernel
theorem dL_window_12 : decode cL_window 12 = .ok (.astore_n 3, 1) := by decide +kernel
theorem dL_window_13 : decode cL_window 13 = .ok (.iconst 1, 1) := by decide +kernel
theorem dL_window_14 : decode cL_window 14 = .ok (.ireturn, 1) := by decide +kernel
theorem dL_window_15 : decode cL_window 15 = .ok (.iconst 0, 1) := by decide +kernel
theorem dL_window_16 : decode cL_window 16 = .ok (.ireturn, 1) := by decide +kernel
theorem dL_windowAt_0 : decode cL_windowAt 0 = .ok (.aload_n 3, 1) := by decide +kernel
theorem dL_windowAt_1 : decode cL_windowAt 1 = .ok (.iconst 0, 1) := by decide +kernel
theorem dL_windowAt_2 : decode cL_windowAt 2 = .ok (.aload_n 0, 1) := by decide +kernel
theorem dL_windowAt_3 : decode cL_windowAt 3 = .ok (.iload_n 1, 1) := by decide +kernel
theorem dL_windowAt_4 : decode cL_windowAt 4 = .ok (.iload_n 2, 1) := by decide +kernel
theorem dL_windowAt_5 : decode cL_windowAt 5 = .ok (.invokevirtual 87, 3) := by decide +kernel
theorem dL_windowAt_8 : decode cL_windowAt 8 = .ok (.i2l, 1) := by decide +kernel
theorem dL_windowAt_9 : decode cL_windowAt 9 = .ok (.lastore, 1) := by decide +kernel
theorem dL_windowAt_10 : decode cL_windowAt 10 = .ok (.goto 11, 3) := by decide +kernel
theorem dL_windowAt_13 : decode cL_windowAt 13 = .ok (.astore 4, 2) := by decide +kernel
theorem dL_windowAt_15 : decode cL_windowAt 15 = .ok (.iconst 1, 1) := by decide +kernel
theorem dL_windowAt_16 : decode cL_windowAt 16 = .ok (.ireturn, 1) := by decide +kernel
theorem dL_windowAt_17 : decode cL_windowAt 17 = .ok (.astore 4, 2) := by decide +kernel
theorem dL_windowAt_19 : decode cL_windowAt 19 = .ok (.iconst 2, 1) := by decide +kernel
theorem dL_windowAt_20 : decode cL_windowAt 20 = .ok (.ireturn, 1) := by decide +kernel
theorem dL_windowAt_21 : decode cL_windowAt 21 = .ok (.iconst 0, 1) := by decide +kernel
theorem dL_windowAt_22 : decode cL_windowAt 22 = .ok (.ireturn, 1) := by decide +kernel
theorem dL_known_0 : decode cL_known 0 = .ok (.aload_n 3, 1) := by decide +kernel
theorem dL_known_1 : decode cL_known 1 = .ok (.iconst 0, 1) := by decide +kernel
theorem dL_known_2 : decode cL_known 2 = .ok (.aload_n 0, 1) := by decide +kernel
theorem dL_known_3 : decode cL_known 3 = .ok (.iload_n 1, 1) := by decide +kernel
theorem dL_known_4 : decode cL_known 4 = .ok (.iload_n 2, 1) := by decide +kernel
theorem dL_known_5 : decode cL_known 5 = .ok (.invokevirtual 90, 3) := by decide +kernel
theorem dL_known_8 : decode cL_known 8 = .ok (.i2l, 1) := by decide +kernel
theorem dL_known_9 : decode cL_known 9 = .ok (.lastore, 1) := by decide +kernel
theorem dL_known_10 : decode cL_known 10 = .ok (.goto 11, 3) := by decide +kernel
theorem dL_known_13 : decode cL_known 13 = .ok (.astore 4, 2) := by decide +kernel
theorem dL_known_15 : decode cL_known 15 = .ok (.iconst 1, 1) := by decide +kernel
theorem dL_known_16 : decode cL_known 16 = .ok (.ireturn, 1) := by decide +kernel
theorem dL_known_17 : decode cL_known 17 = .ok (.astore 4, 2) := by decide +kernel
theorem dL_known_19 : decode cL_known 19 = .ok (.iconst 2, 1) := by decide +kernel
theorem dL_known_20 : decode cL_known 20 = .ok (.ireturn, 1) := by decide +kernel
theorem dL_known_21 : decode cL_known 21 = .ok (.iconst 0, 1) := by decide +kernel
theorem dL_known_22 : decode cL_known 22 = .ok (.ireturn, 1) := by decide +kernel
theorem dL_freshLoads_0 : decode cL_freshLoads 0 = .ok (.aload_n 2, 1) := by decide +kernel
theorem dL_freshLoads_1 : decode cL_freshLoads 1 = .ok (.iconst 0, 1) := by decide +kernel
theorem dL_freshLoads_2 : decode cL_freshLoads 2 = .ok (.aload_n 0, 1) := by decide +kernel
theorem dL_freshLoads_3 : decode cL_freshLoads 3 = .ok (.iload_n 1, 1) := by decide +kernel
theorem dL_freshLoads_4 : decode cL_freshLoads 4 = .ok (.invokevirtual 93, 3) := by decide +kernel
theorem dL_freshLoads_7 : decode cL_freshLoads 7 = .ok (.i2l, 1) := by decide +kernel
theorem dL_freshLoads_8 : decode cL_freshLoads 8 = .ok (.lastore, 1) := by decide +kernel
theorem dL_freshLoads_9 : decode cL_freshLoads 9 = .ok (.goto 6, 3) := by decide +kernel
theorem dL_freshLoads_12 : decode cL_freshLoads 12 = .ok (.astore_n 3, 1) := by decide +kernel
theorem dL_freshLoads_13 : decode cL_freshLoads 13 = .ok (.iconst 1, 1) := by decide +kernel
theorem dL_freshLoads_14 : decode cL_freshLoads 14 = .ok (.ireturn, 1) := by decide +kernel
theorem dL_freshLoads_15 : decode cL_freshLoads 15 = .ok (.iconst 0, 1) := by decide +kernel
theorem dL_freshLoads_16 : decode cL_freshLoads 16 = .ok (.ireturn, 1) := by decide +kernel
theorem dL_law_0 : decode cL_law 0 = .ok (.new 8, 3) := by decide +kernel
theorem dL_law_3 : decode cL_law 3 = .ok (.dup, 1) := by decide +kernel
theorem dL_law_4 : decode cL_law 4 = .ok (.invokespecial 96, 3) := by decide +kernel
theorem dL_law_7 : decode cL_law 7 = .ok (.astore_n 1, 1) := by decide +kernel
theorem dL_law_8 : decode cL_law 8 = .ok (.new 97, 3) := by decide +kernel
theorem dL_law_11 : decode cL_law 11 = .ok (.dup, 1) := by decide +kernel
theorem dL_law_12 : decode cL_law 12 = .ok (.invokespecial 99, 3) := by decide +kernel
theorem dL_law_15 : decode cL_law 15 = .ok (.astore_n 2, 1) := by decide +kernel
theorem dL_law_16 : decode cL_law 16 = .ok (.iconst 1, 1) := by decide +kernel
theorem dL_law_17 : decode cL_law 17 = .ok (.newarray .long, 2) := by decide +kernel
theorem dL_law_19 : decode cL_law 19 = .ok (.astore_n 3, 1) := by decide +kernel
theorem dL_law_20 : decode cL_law 20 = .ok (.iconst 1, 1) := by decide +kernel
theorem dL_law_21 : decode cL_law 21 = .ok (.newarray .double, 2) := by decide +kernel
theorem dL_law_23 : decode cL_law 23 = .ok (.astore 4, 2) := by decide +kernel
theorem dL_law_25 : decode cL_law 25 = .ok (.iconst 0, 1) := by decide +kernel
theorem dL_law_26 : decode cL_law 26 = .ok (.istore 5, 2) := by decide +kernel
theorem dL_law_28 : decode cL_law 28 = .ok (.iload 5, 2) := by decide +kernel
theorem dL_law_30 : decode cL_law 30 = .ok (.aload_n 0, 1) := by decide +kernel
theorem dL_law_31 : decode cL_law 31 = .ok (.arraylength, 1) := by decide +kernel
theorem dL_law_32 : decode cL_law 32 = .ok (.iconst 5, 1) := by decide +kernel
theorem dL_law_33 : decode cL_law 33 = .ok (.isub, 1) := by decide +kernel
theorem dL_law_34 : decode cL_law 34 = .ok (.if_icmp .gt 1901, 3) := by decide +kernel
theorem dL_law_37 : decode cL_law 37 = .ok (.aload_n 0, 1) := by decide +kernel
theorem dL_law_38 : decode cL_law 38 = .ok (.iload 5, 2) := by decide +kernel
theorem dL_law_40 : decode cL_law 40 = .ok (.iaload, 1) := by decide +kernel
theorem dL_law_41 : decode cL_law 41 = .ok (.bipush 31, 2) := by decide +kernel
theorem dL_law_43 : decode cL_law 43 = .ok (.iand, 1) := by decide +kernel
theorem dL_law_44 : decode cL_law 44 = .ok (.tableswitch 1885 0 25 #[120, 200, 268, 371, 486, 542, 555, 568, 624, 680, 770, 833, 901, 981, 1049, 1117, 1197, 1277, 1357, 1417, 1525, 1581, 1637, 1693, 1761, 1829], 120) := by decide +kernel
theorem dL_law_164 : decode cL_law 164 = .ok (.aload_n 1, 1) := by decide +kernel
theorem dL_law_165 : decode cL_law 165 = .ok (.aload_n 0, 1) := by decide +kernel
theorem dL_law_166 : decode cL_law 166 = .ok (.iload 5, 2) := by decide +kernel
theorem dL_law_168 : decode cL_law 168 = .ok (.iconst 1, 1) := by decide +kernel
theorem dL_law_169 : decode cL_law 169 = .ok (.iadd, 1) := by decide +kernel
theorem dL_law_170 : decode cL_law 170 = .ok (.iaload, 1) := by decide +kernel
theorem dL_law_171 : decode cL_law 171 = .ok (.aload_n 0, 1) := by decide +kernel
theorem dL_law_172 : decode cL_law 172 = .ok (.iload 5, 2) := by decide +kernel
theorem dL_law_174 : decode cL_law 174 = .ok (.iconst 2, 1) := by decide +kernel
theorem dL_law_175 : decode cL_law 175 = .ok (.iadd, 1) := by decide +kernel
theorem dL_law_176 : decode cL_law 176 = .ok (.iaload, 1) := by decide +kernel
theorem dL_law_177 : decode cL_law 177 = .ok (.aload_n 0, 1) := by decide +kernel
theorem dL_law_178 : decode cL_law 178 = .ok (.iload 5, 2) := by decide +kernel
theorem dL_law_180 : decode cL_law 180 = .ok (.iconst 3, 1) := by decide +kernel
theorem dL_law_181 : decode cL_law 181 = .ok (.iadd, 1) := by decide +kernel
theorem dL_law_182 : decode cL_law 182 = .ok (.iaload, 1) := by decide +kernel
theorem dL_law_183 : decode cL_law 183 = .ok (.aload_n 3, 1) := by decide +kernel
theorem dL_law_184 : decode cL_law 184 = .ok (.invokestatic 100, 3) := by decide +kernel
theorem dL_law_187 : decode cL_law 187 = .ok (.istore 6, 2) := by decide +kernel
theorem dL_law_189 : decode cL_law 189 = .ok (.aload_n 2, 1) := by decide +kernel
theorem dL_law_190 : decode cL_law 190 = .ok (.aload_n 0, 1) := by decide +kernel
theorem dL_law_191 : decode cL_law 191 = .ok (.iload 5, 2) := by decide +kernel
theorem dL_law_193 : decode cL_law 193 = .ok (.iconst 1, 1) := by decide +kernel
theorem dL_law_194 : decode cL_law 194 = .ok (.iadd, 1) := by decide +kernel
theorem dL_law_195 : decode cL_law 195 = .ok (.iaload, 1) := by decide +kernel
theorem dL_law_196 : decode cL_law 196 = .ok (.aload_n 0, 1) := by decide +kernel
theorem dL_law_197 : decode cL_law 197 = .ok (.iload 5, 2) := by decide +kernel
theorem dL_law_199 : decode cL_law 199 = .ok (.iconst 2, 1) := by decide +kernel
theorem dL_law_200 : decode cL_law 200 = .ok (.iadd, 1) := by decide +kernel
theorem dL_law_201 : decode cL_law 201 = .ok (.iaload, 1) := by decide +kernel
theorem dL_law_202 : decode cL_law 202 = .ok (.aload_n 0, 1) := by decide +kernel
theorem dL_law_203 : decode cL_law 203 = .ok (.iload 5, 2) := by decide +kernel
theorem dL_law_205 : decode cL_law 205 = .ok (.iconst 3, 1) := by decide +kernel
theorem dL_law_206 : decode cL_law 206 = .ok (.iadd, 1) := by decide +kernel
theorem dL_law_207 : decode cL_law 207 = .ok (.iaload, 1) := by decide +kernel
theorem dL_law_208 : decode cL_law 208 = .ok (.invokevirtual 105, 3) := by decide +kernel
theorem dL_law_211 : decode cL_law 211 = .ok (.istore 7, 2) := by decide +kernel
theorem dL_law_213 : decode cL_law 213 = .ok (.aload_n 2, 1) := by decide +kernel
theorem dL_law_214 : decode cL_law 214 = .ok (.invokevirtual 106, 3) := by decide +kernel
theorem dL_law_217 : decode cL_law 217 = .ok (.iload 6, 2) := by decide +kernel
theorem dL_law_219 : decode cL_law 219 = .ok (.if_icmp .eq 5, 3) := by decide +kernel
theorem dL_law_222 : decode cL_law 222 = .ok (.iconst 0, 1) := by decide +kernel
theorem dL_law_223 : decode cL_law 223 = .ok (.ireturn, 1) := by decide +kernel
theorem dL_law_224 : decode cL_law 224 = .ok (.iload 6, 2) := by decide +kernel
theorem dL_law_226 : decode cL_law 226 = .ok (.ifCond .ne 15, 3) := by decide +kernel
theorem dL_law_229 : decode cL_law 229 = .ok (.aload_n 3, 1) := by decide +kernel
theorem dL_law_230 : decode cL_law 230 = .ok (.iconst 0, 1) := by decide +kernel
theorem dL_law_231 : decode cL_law 231 = .ok (.laload, 1) := by decide +kernel
theorem dL_law_232 : decode cL_law 232 = .ok (.iload 7, 2) := by decide +kernel
theorem dL_law_234 : decode cL_law 234 = .ok (.i2l, 1) := by decide +kernel
theorem dL_law_235 : decode cL_law 235 = .ok (.lcmp, 1) := by decide +kernel
theorem dL_law_236 : decode cL_law 236 = .ok (.ifCond .eq 5, 3) := by decide +kernel
theorem dL_law_239 : decode cL_law 239 = .ok (.iconst 0, 1) := by decide +kernel
theorem dL_law_240 : decode cL_law 240 = .ok (.ireturn, 1) := by decide +kernel
theorem dL_law_241 : decode cL_law 241 = .ok (.goto 1688, 3) := by decide +kernel
theorem dL_law_244 : decode cL_law 244 = .ok (.aload_n 1, 1) := by decide +kernel
theorem dL_law_245 : decode cL_law 245 = .ok (.aload_n 0, 1) := by decide +kernel
