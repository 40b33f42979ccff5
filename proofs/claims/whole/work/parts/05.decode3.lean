theorem dX13_countOn_13 : decode cX13_countOn 13 = .ok (.iastore, 1) := by decide +kernel
theorem dX13_countOn_14 : decode cX13_countOn 14 = .ok (.aload_n 0, 1) := by decide +kernel
theorem dX13_countOn_15 : decode cX13_countOn 15 = .ok (.getfield 47, 3) := by decide +kernel
theorem dX13_countOn_18 : decode cX13_countOn 18 = .ok (.iload_n 1, 1) := by decide +kernel
theorem dX13_countOn_19 : decode cX13_countOn 19 = .ok (.iconst (-1), 1) := by decide +kernel
theorem dX13_countOn_20 : decode cX13_countOn 20 = .ok (.iastore, 1) := by decide +kernel
theorem dX13_countOn_21 : decode cX13_countOn 21 = .ok (.aload_n 0, 1) := by decide +kernel
theorem dX13_countOn_22 : decode cX13_countOn 22 = .ok (.iload_n 1, 1) := by decide +kernel
theorem dX13_countOn_23 : decode cX13_countOn 23 = .ok (.iconst 0, 1) := by decide +kernel
theorem dX13_countOn_24 : decode cX13_countOn 24 = .ok (.invokevirtual 249, 3) := by decide +kernel
theorem dX13_countOn_27 : decode cX13_countOn 27 = .ok (.ifCond .eq 12, 3) := by decide +kernel
theorem dX13_countOn_30 : decode cX13_countOn 30 = .ok (.aload_n 0, 1) := by decide +kernel
theorem dX13_countOn_31 : decode cX13_countOn 31 = .ok (.iload_n 1, 1) := by decide +kernel
theorem dX13_countOn_32 : decode cX13_countOn 32 = .ok (.iconst 0, 1) := by decide +kernel
theorem dX13_countOn_33 : decode cX13_countOn 33 = .ok (.invokevirtual 238, 3) := by decide +kernel
theorem dX13_countOn_36 : decode cX13_countOn 36 = .ok (.ifCond .ne 4, 3) := by decide +kernel
theorem dX13_countOn_39 : decode cX13_countOn 39 = .ok (.return_, 1) := by decide +kernel
theorem dX13_countOn_40 : decode cX13_countOn 40 = .ok (.aload_n 0, 1) := by decide +kernel
theorem dX13_countOn_41 : decode cX13_countOn 41 = .ok (.iload_n 1, 1) := by decide +kernel
theorem dX13_countOn_42 : decode cX13_countOn 42 = .ok (.bipush 10, 2) := by decide +kernel
theorem dX13_countOn_44 : decode cX13_countOn 44 = .ok (.invokevirtual 238, 3) := by decide +kernel
theorem dX13_countOn_47 : decode cX13_countOn 47 = .ok (.sipush 256, 3) := by decide +kernel
theorem dX13_countOn_50 : decode cX13_countOn 50 = .ok (.iadd, 1) := by decide +kernel
theorem dX13_countOn_51 : decode cX13_countOn 51 = .ok (.istore_n 2, 1) := by decide +kernel
theorem dX13_countOn_52 : decode cX13_countOn 52 = .ok (.aload_n 0, 1) := by decide +kernel
theorem dX13_countOn_53 : decode cX13_countOn 53 = .ok (.getfield 31, 3) := by decide +kernel
theorem dX13_countOn_56 : decode cX13_countOn 56 = .ok (.iload_n 1, 1) := by decide +kernel
theorem dX13_countOn_57 : decode cX13_countOn 57 = .ok (.iload_n 2, 1) := by decide +kernel
theorem dX13_countOn_58 : decode cX13_countOn 58 = .ok (.aload_n 0, 1) := by decide +kernel
theorem dX13_countOn_59 : decode cX13_countOn 59 = .ok (.iload_n 1, 1) := by decide +kernel
theorem dX13_countOn_60 : decode cX13_countOn 60 = .ok (.iconst 2, 1) := by decide +kernel
theorem dX13_countOn_61 : decode cX13_countOn 61 = .ok (.invokevirtual 249, 3) := by decide +kernel
theorem dX13_countOn_64 : decode cX13_countOn 64 = .ok (.if_icmp .lt 7, 3) := by decide +kernel
theorem dX13_countOn_67 : decode cX13_countOn 67 = .ok (.iconst 1, 1) := by decide +kernel
theorem dX13_countOn_68 : decode cX13_countOn 68 = .ok (.goto 4, 3) := by decide +kernel
theorem dX13_countOn_71 : decode cX13_countOn 71 = .ok (.iconst 0, 1) := by decide +kernel
theorem dX13_countOn_72 : decode cX13_countOn 72 = .ok (.bastore, 1) := by decide +kernel
theorem dX13_countOn_73 : decode cX13_countOn 73 = .ok (.aload_n 0, 1) := by decide +kernel
theorem dX13_countOn_74 : decode cX13_countOn 74 = .ok (.iload_n 1, 1) := by decide +kernel
theorem dX13_countOn_75 : decode cX13_countOn 75 = .ok (.bipush 10, 2) := by decide +kernel
theorem dX13_countOn_77 : decode cX13_countOn 77 = .ok (.aload_n 0, 1) := by decide +kernel
theorem dX13_countOn_78 : decode cX13_countOn 78 = .ok (.getfield 31, 3) := by decide +kernel
theorem dX13_countOn_81 : decode cX13_countOn 81 = .ok (.iload_n 1, 1) := by decide +kernel
theorem dX13_countOn_82 : decode cX13_countOn 82 = .ok (.baload, 1) := by decide +kernel
theorem dX13_countOn_83 : decode cX13_countOn 83 = .ok (.ifCond .eq 14, 3) := by decide +kernel
theorem dX13_countOn_86 : decode cX13_countOn 86 = .ok (.iload_n 2, 1) := by decide +kernel
theorem dX13_countOn_87 : decode cX13_countOn 87 = .ok (.aload_n 0, 1) := by decide +kernel
theorem dX13_countOn_88 : decode cX13_countOn 88 = .ok (.iload_n 1, 1) := by decide +kernel
theorem dX13_countOn_89 : decode cX13_countOn 89 = .ok (.iconst 2, 1) := by decide +kernel
theorem dX13_countOn_90 : decode cX13_countOn 90 = .ok (.invokevirtual 249, 3) := by decide +kernel
theorem dX13_countOn_93 : decode cX13_countOn 93 = .ok (.isub, 1) := by decide +kernel
theorem dX13_countOn_94 : decode cX13_countOn 94 = .ok (.goto 4, 3) := by decide +kernel
theorem dX13_countOn_97 : decode cX13_countOn 97 = .ok (.iload_n 2, 1) := by decide +kernel
theorem dX13_countOn_98 : decode cX13_countOn 98 = .ok (.invokevirtual 282, 3) := by decide +kernel
theorem dX13_countOn_101 : decode cX13_countOn 101 = .ok (.return_, 1) := by decide +kernel
theorem dX13_wantsPort_0 : decode cX13_wantsPort 0 = .ok (.aload_n 0, 1) := by decide +kernel
theorem dX13_wantsPort_1 : decode cX13_wantsPort 1 = .ok (.getfield 31, 3) := by decide +kernel
theorem dX13_wantsPort_4 : decode cX13_wantsPort 4 = .ok (.iload_n 1, 1) := by decide +kernel
theorem dX13_wantsPort_5 : decode cX13_wantsPort 5 = .ok (.baload, 1) := by decide +kernel
theorem dX13_wantsPort_6 : decode cX13_wantsPort 6 = .ok (.ifCond .eq 28, 3) := by decide +kernel
theorem dX13_wantsPort_9 : decode cX13_wantsPort 9 = .ok (.aload_n 0, 1) := by decide +kernel
theorem dX13_wantsPort_10 : decode cX13_wantsPort 10 = .ok (.iload_n 1, 1) := by decide +kernel
theorem dX13_wantsPort_11 : decode cX13_wantsPort 11 = .ok (.bipush 8, 2) := by decide +kernel
theorem dX13_wantsPort_13 : decode cX13_wantsPort 13 = .ok (.invokevirtual 238, 3) := by decide +kernel
theorem dX13_wantsPort_16 : decode cX13_wantsPort 16 = .ok (.ifCond .ne 18, 3) := by decide +kernel
theorem dX13_wantsPort_19 : decode cX13_wantsPort 19 = .ok (.aload_n 0, 1) := by decide +kernel
theorem dX13_wantsPort_20 : decode cX13_wantsPort 20 = .ok (.iload_n 1, 1) := by decide +kernel
theorem dX13_wantsPort_21 : decode cX13_wantsPort 21 = .ok (.iconst 0, 1) := by decide +kernel
theorem dX13_wantsPort_22 : decode cX13_wantsPort 22 = .ok (.invokevirtual 293, 3) := by decide +kernel
theorem dX13_wantsPort_25 : decode cX13_wantsPort 25 = .ok (.bipush 11, 2) := by decide +kernel
theorem dX13_wantsPort_27 : decode cX13_wantsPort 27 = .ok (.if_icmp .lt 7, 3) := by decide +kernel
theorem dX13_wantsPort_30 : decode cX13_wantsPort 30 = .ok (.iconst 1, 1) := by decide +kernel
theorem dX13_wantsPort_31 : decode cX13_wantsPort 31 = .ok (.goto 4, 3) := by decide +kernel
theorem dX13_wantsPort_34 : decode cX13_wantsPort 34 = .ok (.iconst 0, 1) := by decide +kernel
theorem dX13_wantsPort_35 : decode cX13_wantsPort 35 = .ok (.ireturn, 1) := by decide +kernel
theorem dX13_givePort_0 : decode cX13_givePort 0 = .ok (.aload_n 0, 1) := by decide +kernel
theorem dX13_givePort_1 : decode cX13_givePort 1 = .ok (.iconst (-1), 1) := by decide +kernel
theorem dX13_givePort_2 : decode cX13_givePort 2 = .ok (.putfield 296, 3) := by decide +kernel
theorem dX13_givePort_5 : decode cX13_givePort 5 = .ok (.iconst 1, 1) := by decide +kernel
theorem dX13_givePort_6 : decode cX13_givePort 6 = .ok (.istore_n 1, 1) := by decide +kernel
theorem dX13_givePort_7 : decode cX13_givePort 7 = .ok (.iload_n 1, 1) := by decide +kernel
theorem dX13_givePort_8 : decode cX13_givePort 8 = .ok (.iconst 4, 1) := by decide +kernel
theorem dX13_givePort_9 : decode cX13_givePort 9 = .ok (.if_icmp .gt 45, 3) := by decide +kernel
theorem dX13_givePort_12 : decode cX13_givePort 12 = .ok (.aload_n 0, 1) := by decide +kernel
theorem dX13_givePort_13 : decode cX13_givePort 13 = .ok (.getfield 296, 3) := by decide +kernel
theorem dX13_givePort_16 : decode cX13_givePort 16 = .ok (.iconst (-1), 1) := by decide +kernel
theorem dX13_givePort_17 : decode cX13_givePort 17 = .ok (.if_icmp .ne 37, 3) := by decide +kernel
theorem dX13_givePort_20 : decode cX13_givePort 20 = .ok (.aload_n 0, 1) := by decide +kernel
theorem dX13_givePort_21 : decode cX13_givePort 21 = .ok (.getfield 9, 3) := by decide +kernel
theorem dX13_givePort_24 : decode cX13_givePort 24 = .ok (.iconst 2, 1) := by decide +kernel
theorem dX13_givePort_25 : decode cX13_givePort 25 = .ok (.iaload, 1) := by decide +kernel
theorem dX13_givePort_26 : decode cX13_givePort 26 = .ok (.iload_n 1, 1) := by decide +kernel
theorem dX13_givePort_27 : decode cX13_givePort 27 = .ok (.iadd, 1) := by decide +kernel
theorem dX13_givePort_28 : decode cX13_givePort 28 = .ok (.iconst 4, 1) := by decide +kernel
theorem dX13_givePort_29 : decode cX13_givePort 29 = .ok (.irem, 1) := by decide +kernel
theorem dX13_givePort_30 : decode cX13_givePort 30 = .ok (.istore_n 2, 1) := by decide +kernel
theorem dX13_givePort_31 : decode cX13_givePort 31 = .ok (.aload_n 0, 1) := by decide +kernel
theorem dX13_givePort_32 : decode cX13_givePort 32 = .ok (.aload_n 0, 1) := by decide +kernel
theorem dX13_givePort_33 : decode cX13_givePort 33 = .ok (.iload_n 2, 1) := by decide +kernel
theorem dX13_givePort_34 : decode cX13_givePort 34 = .ok (.invokevirtual 299, 3) := by decide +kernel
theorem dX13_givePort_37 : decode cX13_givePort 37 = .ok (.ifCond .eq 7, 3) := by decide +kernel
theorem dX13_givePort_40 : decode cX13_givePort 40 = .ok (.iload_n 2, 1) := by decide +kernel
theorem dX13_givePort_41 : decode cX13_givePort 41 = .ok (.goto 4, 3) := by decide +kernel
theorem dX13_givePort_44 : decode cX13_givePort 44 = .ok (.iconst (-1), 1) := by decide +kernel
theorem dX13_givePort_45 : decode cX13_givePort 45 = .ok (.putfield 296, 3) := by decide +kernel
theorem dX13_givePort_48 : decode cX13_givePort 48 = .ok (.iinc 1 1, 3) := by decide +kernel
theorem dX13_givePort_51 : decode cX13_givePort 51 = .ok (.goto (-44), 3) := by decide +kernel
theorem dX13_givePort_54 : decode cX13_givePort 54 = .ok (.aload_n 0, 1) := by decide +kernel
theorem dX13_givePort_55 : decode cX13_givePort 55 = .ok (.getfield 9, 3) := by decide +kernel
theorem dX13_givePort_58 : decode cX13_givePort 58 = .ok (.iconst 2, 1) := by decide +kernel
theorem dX13_givePort_59 : decode cX13_givePort 59 = .ok (.aload_n 0, 1) := by decide +kernel
theorem dX13_givePort_60 : decode cX13_givePort 60 = .ok (.getfield 296, 3) := by decide +kernel
theorem dX13_givePort_63 : decode cX13_givePort 63 = .ok (.iconst (-1), 1) := by decide +kernel
theorem dX13_givePort_64 : decode cX13_givePort 64 = .ok (.if_icmp .ne 12, 3) := by decide +kernel
theorem dX13_givePort_67 : decode cX13_givePort 67 = .ok (.aload_n 0, 1) := by decide +kernel
theorem dX13_givePort_68 : decode cX13_givePort 68 = .ok (.getfield 9, 3) := by decide +kernel
theorem dX13_givePort_71 : decode cX13_givePort 71 = .ok (.iconst 2, 1) := by decide +kernel
theorem dX13_givePort_72 : decode cX13_givePort 72 = .ok (.iaload, 1) := by decide +kernel
theorem dX13_givePort_73 : decode cX13_givePort 73 = .ok (.goto 7, 3) := by decide +kernel
theorem dX13_givePort_76 : decode cX13_givePort 76 = .ok (.aload_n 0, 1) := by decide +kernel
theorem dX13_givePort_77 : decode cX13_givePort 77 = .ok (.getfield 296, 3) := by decide +kernel
theorem dX13_givePort_80 : decode cX13_givePort 80 = .ok (.iastore, 1) := by decide +kernel
theorem dX13_givePort_81 : decode cX13_givePort 81 = .ok (.return_, 1) := by decide +kernel
theorem dX13_writeBits_0 : decode cX13_writeBits 0 = .ok (.iconst 0, 1) := by decide +kernel
theorem dX13_writeBits_1 : decode cX13_writeBits 1 = .ok (.istore 5, 2) := by decide +kernel
theorem dX13_writeBits_3 : decode cX13_writeBits 3 = .ok (.iload 5, 2) := by decide +kernel
theorem dX13_writeBits_5 : decode cX13_writeBits 5 = .ok (.iload_n 2, 1) := by decide +kernel
theorem dX13_writeBits_6 : decode cX13_writeBits 6 = .ok (.if_icmp .ge 36, 3) := by decide +kernel
theorem dX13_writeBits_9 : decode cX13_writeBits 9 = .ok (.aload_n 0, 1) := by decide +kernel
theorem dX13_writeBits_10 : decode cX13_writeBits 10 = .ok (.iload_n 1, 1) := by decide +kernel
theorem dX13_writeBits_11 : decode cX13_writeBits 11 = .ok (.iload 5, 2) := by decide +kernel
theorem dX13_writeBits_13 : decode cX13_writeBits 13 = .ok (.iadd, 1) := by decide +kernel
theorem dX13_writeBits_14 : decode cX13_writeBits 14 = .ok (.bipush 16, 2) := by decide +kernel
theorem dX13_writeBits_16 : decode cX13_writeBits 16 = .ok (.irem, 1) := by decide +kernel
theorem dX13_writeBits_17 : decode cX13_writeBits 17 = .ok (.iload 4, 2) := by decide +kernel
theorem dX13_writeBits_19 : decode cX13_writeBits 19 = .ok (.ifCond .eq 7, 3) := by decide +kernel
theorem dX13_writeBits_22 : decode cX13_writeBits 22 = .ok (.iconst 1, 1) := by decide +kernel
theorem dX13_writeBits_23 : decode cX13_writeBits 23 = .ok (.goto 4, 3) := by decide +kernel
theorem dX13_writeBits_26 : decode cX13_writeBits 26 = .ok (.iconst 0, 1) := by decide +kernel
theorem dX13_writeBits_27 : decode cX13_writeBits 27 = .ok (.iload_n 3, 1) := by decide +kernel
theorem dX13_writeBits_28 : decode cX13_writeBits 28 = .ok (.iload 5, 2) := by decide +kernel
theorem dX13_writeBits_30 : decode cX13_writeBits 30 = .ok (.ishr, 1) := by decide +kernel
theorem dX13_writeBits_31 : decode cX13_writeBits 31 = .ok (.iconst 1, 1) := by decide +kernel
theorem dX13_writeBits_32 : decode cX13_writeBits 32 = .ok (.iand, 1) := by decide +kernel
theorem dX13_writeBits_33 : decode cX13_writeBits 33 = .ok (.invokevirtual 284, 3) := by decide +kernel
theorem dX13_writeBits_36 : decode cX13_writeBits 36 = .ok (.iinc 5 1, 3) := by decide +kernel
theorem dX13_writeBits_39 : decode cX13_writeBits 39 = .ok (.goto (-36), 3) := by decide +kernel
theorem dX13_writeBits_42 : decode cX13_writeBits 42 = .ok (.return_, 1) := by decide +kernel
theorem dX13_writeAll_0 : decode cX13_writeAll 0 = .ok (.aload_n 0, 1) := by decide +kernel
theorem dX13_writeAll_1 : decode cX13_writeAll 1 = .ok (.getfield 35, 3) := by decide +kernel
theorem dX13_writeAll_4 : decode cX13_writeAll 4 = .ok (.iload_n 1, 1) := by decide +kernel
theorem dX13_writeAll_5 : decode cX13_writeAll 5 = .ok (.iaload, 1) := by decide +kernel
theorem dX13_writeAll_6 : decode cX13_writeAll 6 = .ok (.iconst (-1), 1) := by decide +kernel
theorem dX13_writeAll_7 : decode cX13_writeAll 7 = .ok (.if_icmp .eq 41, 3) := by decide +kernel
theorem dX13_writeAll_10 : decode cX13_writeAll 10 = .ok (.aload_n 0, 1) := by decide +kernel
theorem dX13_writeAll_11 : decode cX13_writeAll 11 = .ok (.aload_n 0, 1) := by decide +kernel
theorem dX13_writeAll_12 : decode cX13_writeAll 12 = .ok (.getfield 38, 3) := by decide +kernel
theorem dX13_writeAll_15 : decode cX13_writeAll 15 = .ok (.iload_n 1, 1) := by decide +kernel
theorem dX13_writeAll_16 : decode cX13_writeAll 16 = .ok (.iaload, 1) := by decide +kernel
theorem dX13_writeAll_17 : decode cX13_writeAll 17 = .ok (.aload_n 0, 1) := by decide +kernel
theorem dX13_writeAll_18 : decode cX13_writeAll 18 = .ok (.getfield 41, 3) := by decide +kernel
theorem dX13_writeAll_21 : decode cX13_writeAll 21 = .ok (.iload_n 1, 1) := by decide +kernel
theorem dX13_writeAll_22 : decode cX13_writeAll 22 = .ok (.iaload, 1) := by decide +kernel
theorem dX13_writeAll_23 : decode cX13_writeAll 23 = .ok (.aload_n 0, 1) := by decide +kernel
theorem dX13_writeAll_24 : decode cX13_writeAll 24 = .ok (.getfield 44, 3) := by decide +kernel
theorem dX13_writeAll_27 : decode cX13_writeAll 27 = .ok (.iload_n 1, 1) := by decide +kernel
theorem dX13_writeAll_28 : decode cX13_writeAll 28 = .ok (.iaload, 1) := by decide +kernel
theorem dX13_writeAll_29 : decode cX13_writeAll 29 = .ok (.aload_n 0, 1) := by decide +kernel
theorem dX13_writeAll_30 : decode cX13_writeAll 30 = .ok (.getfield 35, 3) := by decide +kernel
theorem dX13_writeAll_33 : decode cX13_writeAll 33 = .ok (.iload_n 1, 1) := by decide +kernel
theorem dX13_writeAll_34 : decode cX13_writeAll 34 = .ok (.iaload, 1) := by decide +kernel
theorem dX13_writeAll_35 : decode cX13_writeAll 35 = .ok (.bipush 7, 2) := by decide +kernel
theorem dX13_writeAll_37 : decode cX13_writeAll 37 = .ok (.if_icmp .ne 7, 3) := by decide +kernel
theorem dX13_writeAll_40 : decode cX13_writeAll 40 = .ok (.iconst 1, 1) := by decide +kernel
theorem dX13_writeAll_41 : decode cX13_writeAll 41 = .ok (.goto 4, 3) := by decide +kernel
theorem dX13_writeAll_44 : decode cX13_writeAll 44 = .ok (.iconst 0, 1) := by decide +kernel
theorem dX13_writeAll_45 : decode cX13_writeAll 45 = .ok (.invokevirtual 302, 3) := by decide +kernel
theorem dX13_writeAll_48 : decode cX13_writeAll 48 = .ok (.aload_n 0, 1) := by decide +kernel
theorem dX13_writeAll_49 : decode cX13_writeAll 49 = .ok (.getfield 47, 3) := by decide +kernel
theorem dX13_writeAll_52 : decode cX13_writeAll 52 = .ok (.iload_n 1, 1) := by decide +kernel
theorem dX13_writeAll_53 : decode cX13_writeAll 53 = .ok (.iaload, 1) := by decide +kernel
theorem dX13_writeAll_54 : decode cX13_writeAll 54 = .ok (.iconst (-1), 1) := by decide +kernel
theorem dX13_writeAll_55 : decode cX13_writeAll 55 = .ok (.if_icmp .eq 28, 3) := by decide +kernel
theorem dX13_writeAll_58 : decode cX13_writeAll 58 = .ok (.aload_n 0, 1) := by decide +kernel
theorem dX13_writeAll_59 : decode cX13_writeAll 59 = .ok (.aload_n 0, 1) := by decide +kernel
theorem dX13_writeAll_60 : decode cX13_writeAll 60 = .ok (.iload_n 1, 1) := by decide +kernel
theorem dX13_writeAll_61 : decode cX13_writeAll 61 = .ok (.bipush 9, 2) := by decide +kernel
theorem dX13_writeAll_63 : decode cX13_writeAll 63 = .ok (.invokevirtual 249, 3) := by decide +kernel
theorem dX13_writeAll_66 : decode cX13_writeAll 66 = .ok (.aload_n 0, 1) := by decide +kernel
theorem dX13_writeAll_67 : decode cX13_writeAll 67 = .ok (.iload_n 1, 1) := by decide +kernel
theorem dX13_writeAll_68 : decode cX13_writeAll 68 = .ok (.bipush 10, 2) := by decide +kernel
theorem dX13_writeAll_70 : decode cX13_writeAll 70 = .ok (.invokevirtual 249, 3) := by decide +kernel
theorem dX13_writeAll_73 : decode cX13_writeAll 73 = .ok (.aload_n 0, 1) := by decide +kernel
theorem dX13_writeAll_74 : decode cX13_writeAll 74 = .ok (.getfield 47, 3) := by decide +kernel
theorem dX13_writeAll_77 : decode cX13_writeAll 77 = .ok (.iload_n 1, 1) := by decide +kernel
theorem dX13_writeAll_78 : decode cX13_writeAll 78 = .ok (.iaload, 1) := by decide +kernel
theorem dX13_writeAll_79 : decode cX13_writeAll 79 = .ok (.iconst 0, 1) := by decide +kernel
theorem dX13_writeAll_80 : decode cX13_writeAll 80 = .ok (.invokevirtual 302, 3) := by decide +kernel
theorem dX13_writeAll_83 : decode cX13_writeAll 83 = .ok (.return_, 1) := by decide +kernel
theorem dX13_recordLevels_0 : decode cX13_recordLevels 0 = .ok (.iconst 0, 1) := by decide +kernel
theorem dX13_recordLevels_1 : decode cX13_recordLevels 1 = .ok (.istore_n 1, 1) := by decide +kernel
theorem dX13_recordLevels_2 : decode cX13_recordLevels 2 = .ok (.iconst 0, 1) := by decide +kernel
theorem dX13_recordLevels_3 : decode cX13_recordLevels 3 = .ok (.istore_n 2, 1) := by decide +kernel
theorem dX13_recordLevels_4 : decode cX13_recordLevels 4 = .ok (.iload_n 2, 1) := by decide +kernel
theorem dX13_recordLevels_5 : decode cX13_recordLevels 5 = .ok (.bipush 16, 2) := by decide +kernel
theorem dX13_recordLevels_7 : decode cX13_recordLevels 7 = .ok (.if_icmp .ge 70, 3) := by decide +kernel
theorem dX13_recordLevels_10 : decode cX13_recordLevels 10 = .ok (.aload_n 0, 1) := by decide +kernel
theorem dX13_recordLevels_11 : decode cX13_recordLevels 11 = .ok (.iload_n 2, 1) := by decide +kernel
theorem dX13_recordLevels_12 : decode cX13_recordLevels 12 = .ok (.invokevirtual 262, 3) := by decide +kernel
theorem dX13_recordLevels_15 : decode cX13_recordLevels 15 = .ok (.istore_n 3, 1) := by decide +kernel
theorem dX13_recordLevels_16 : decode cX13_recordLevels 16 = .ok (.iload_n 1, 1) := by decide +kernel
theorem dX13_recordLevels_17 : decode cX13_recordLevels 17 = .ok (.iload_n 3, 1) := by decide +kernel
theorem dX13_recordLevels_18 : decode cX13_recordLevels 18 = .ok (.iload_n 2, 1) := by decide +kernel
theorem dX13_recordLevels_19 : decode cX13_recordLevels 19 = .ok (.ishl, 1) := by decide +kernel
theorem dX13_recordLevels_20 : decode cX13_recordLevels 20 = .ok (.ior, 1) := by decide +kernel
theorem dX13_recordLevels_21 : decode cX13_recordLevels 21 = .ok (.istore_n 1, 1) := by decide +kernel
theorem dX13_recordLevels_22 : decode cX13_recordLevels 22 = .ok (.aload_n 0, 1) := by decide +kernel
theorem dX13_recordLevels_23 : decode cX13_recordLevels 23 = .ok (.iload_n 2, 1) := by decide +kernel
theorem dX13_recordLevels_24 : decode cX13_recordLevels 24 = .ok (.iconst 4, 1) := by decide +kernel
theorem dX13_recordLevels_25 : decode cX13_recordLevels 25 = .ok (.aload_n 0, 1) := by decide +kernel
theorem dX13_recordLevels_26 : decode cX13_recordLevels 26 = .ok (.iload_n 2, 1) := by decide +kernel
theorem dX13_recordLevels_27 : decode cX13_recordLevels 27 = .ok (.iconst 4, 1) := by decide +kernel
theorem dX13_recordLevels_28 : decode cX13_recordLevels 28 = .ok (.invokevirtual 252, 3) := by decide +kernel
theorem dX13_recordLevels_31 : decode cX13_recordLevels 31 = .ok (.iload_n 3, 1) := by decide +kernel
theorem dX13_recordLevels_32 : decode cX13_recordLevels 32 = .ok (.aload_n 0, 1) := by decide +kernel
theorem dX13_recordLevels_33 : decode cX13_recordLevels 33 = .ok (.iload_n 2, 1) := by decide +kernel
theorem dX13_recordLevels_34 : decode cX13_recordLevels 34 = .ok (.iconst 3, 1) := by decide +kernel
theorem dX13_recordLevels_35 : decode cX13_recordLevels 35 = .ok (.invokevirtual 252, 3) := by decide +kernel
theorem dX13_recordLevels_38 : decode cX13_recordLevels 38 = .ok (.if_icmp .eq 7, 3) := by decide +kernel
theorem dX13_recordLevels_41 : decode cX13_recordLevels 41 = .ok (.iconst 1, 1) := by decide +kernel
theorem dX13_recordLevels_42 : decode cX13_recordLevels 42 = .ok (.goto 4, 3) := by decide +kernel
theorem dX13_recordLevels_45 : decode cX13_recordLevels 45 = .ok (.iconst 0, 1) := by decide +kernel
theorem dX13_recordLevels_46 : decode cX13_recordLevels 46 = .ok (.iadd, 1) := by decide +kernel
theorem dX13_recordLevels_47 : decode cX13_recordLevels 47 = .ok (.invokevirtual 284, 3) := by decide +kernel
theorem dX13_recordLevels_50 : decode cX13_recordLevels 50 = .ok (.aload_n 0, 1) := by decide +kernel
theorem dX13_recordLevels_51 : decode cX13_recordLevels 51 = .ok (.iload_n 2, 1) := by decide +kernel
theorem dX13_recordLevels_52 : decode cX13_recordLevels 52 = .ok (.iconst 5, 1) := by decide +kernel
theorem dX13_recordLevels_53 : decode cX13_recordLevels 53 = .ok (.aload_n 0, 1) := by decide +kernel
theorem dX13_recordLevels_54 : decode cX13_recordLevels 54 = .ok (.iload_n 2, 1) := by decide +kernel
theorem dX13_recordLevels_55 : decode cX13_recordLevels 55 = .ok (.iconst 5, 1) := by decide +kernel
theorem dX13_recordLevels_56 : decode cX13_recordLevels 56 = .ok (.invokevirtual 252, 3) := by decide +kernel
theorem dX13_recordLevels_59 : decode cX13_recordLevels 59 = .ok (.iload_n 3, 1) := by decide +kernel
theorem dX13_recordLevels_60 : decode cX13_recordLevels 60 = .ok (.iadd, 1) := by decide +kernel
theorem dX13_recordLevels_61 : decode cX13_recordLevels 61 = .ok (.invokevirtual 284, 3) := by decide +kernel
theorem dX13_recordLevels_64 : decode cX13_recordLevels 64 = .ok (.aload_n 0, 1) := by decide +kernel
theorem dX13_recordLevels_65 : decode cX13_recordLevels 65 = .ok (.iload_n 2, 1) := by decide +kernel
theorem dX13_recordLevels_66 : decode cX13_recordLevels 66 = .ok (.iconst 3, 1) := by decide +kernel
theorem dX13_recordLevels_67 : decode cX13_recordLevels 67 = .ok (.iload_n 3, 1) := by decide +kernel
theorem dX13_recordLevels_68 : decode cX13_recordLevels 68 = .ok (.invokevirtual 284, 3) := by decide +kernel
theorem dX13_recordLevels_71 : decode cX13_recordLevels 71 = .ok (.iinc 2 1, 3) := by decide +kernel
theorem dX13_recordLevels_74 : decode cX13_recordLevels 74 = .ok (.goto (-70), 3) := by decide +kernel
theorem dX13_recordLevels_77 : decode cX13_recordLevels 77 = .ok (.aload_n 0, 1) := by decide +kernel
theorem dX13_recordLevels_78 : decode cX13_recordLevels 78 = .ok (.getfield 9, 3) := by decide +kernel
theorem dX13_recordLevels_81 : decode cX13_recordLevels 81 = .ok (.sipush 220, 3) := by decide +kernel
theorem dX13_recordLevels_84 : decode cX13_recordLevels 84 = .ok (.aload_n 0, 1) := by decide +kernel
theorem dX13_recordLevels_85 : decode cX13_recordLevels 85 = .ok (.getfield 9, 3) := by decide +kernel
theorem dX13_recordLevels_88 : decode cX13_recordLevels 88 = .ok (.iconst 1, 1) := by decide +kernel
theorem dX13_recordLevels_89 : decode cX13_recordLevels 89 = .ok (.iaload, 1) := by decide +kernel
theorem dX13_recordLevels_90 : decode cX13_recordLevels 90 = .ok (.bipush 64, 2) := by decide +kernel
theorem dX13_recordLevels_92 : decode cX13_recordLevels 92 = .ok (.irem, 1) := by decide +kernel
theorem dX13_recordLevels_93 : decode cX13_recordLevels 93 = .ok (.iadd, 1) := by decide +kernel
theorem dX13_recordLevels_94 : decode cX13_recordLevels 94 = .ok (.iload_n 1, 1) := by decide +kernel
theorem dX13_recordLevels_95 : decode cX13_recordLevels 95 = .ok (.iastore, 1) := by decide +kernel
theorem dX13_recordLevels_96 : decode cX13_recordLevels 96 = .ok (.return_, 1) := by decide +kernel
theorem dX13_passCycle_0 : decode cX13_passCycle 0 = .ok (.aload_n 0, 1) := by decide +kernel
theorem dX13_passCycle_1 : decode cX13_passCycle 1 = .ok (.invokevirtual 306, 3) := by decide +kernel
theorem dX13_passCycle_4 : decode cX13_passCycle 4 = .ok (.aload_n 0, 1) := by decide +kernel
theorem dX13_passCycle_5 : decode cX13_passCycle 5 = .ok (.invokevirtual 309, 3) := by decide +kernel
theorem dX13_passCycle_8 : decode cX13_passCycle 8 = .ok (.iconst 0, 1) := by decide +kernel
theorem dX13_passCycle_9 : decode cX13_passCycle 9 = .ok (.istore_n 1, 1) := by decide +kernel
theorem dX13_passCycle_10 : decode cX13_passCycle 10 = .ok (.iload_n 1, 1) := by decide +kernel
theorem dX13_passCycle_11 : decode cX13_passCycle 11 = .ok (.iconst 4, 1) := by decide +kernel
theorem dX13_passCycle_12 : decode cX13_passCycle 12 = .ok (.if_icmp .ge 14, 3) := by decide +kernel
theorem dX13_passCycle_15 : decode cX13_passCycle 15 = .ok (.aload_n 0, 1) := by decide +kernel
theorem dX13_passCycle_16 : decode cX13_passCycle 16 = .ok (.iload_n 1, 1) := by decide +kernel
theorem dX13_passCycle_17 : decode cX13_passCycle 17 = .ok (.invokevirtual 312, 3) := by decide +kernel
theorem dX13_passCycle_20 : decode cX13_passCycle 20 = .ok (.iinc 1 1, 3) := by decide +kernel
theorem dX13_passCycle_23 : decode cX13_passCycle 23 = .ok (.goto (-13), 3) := by decide +kernel
theorem dX13_passCycle_26 : decode cX13_passCycle 26 = .ok (.aload_n 0, 1) := by decide +kernel
theorem dX13_passCycle_27 : decode cX13_passCycle 27 = .ok (.invokevirtual 316, 3) := by decide +kernel
theorem dX13_passCycle_30 : decode cX13_passCycle 30 = .ok (.iconst 0, 1) := by decide +kernel
theorem dX13_passCycle_31 : decode cX13_passCycle 31 = .ok (.istore_n 1, 1) := by decide +kernel
theorem dX13_passCycle_32 : decode cX13_passCycle 32 = .ok (.iload_n 1, 1) := by decide +kernel
theorem dX13_passCycle_33 : decode cX13_passCycle 33 = .ok (.iconst 4, 1) := by decide +kernel
theorem dX13_passCycle_34 : decode cX13_passCycle 34 = .ok (.if_icmp .ge 23, 3) := by decide +kernel
theorem dX13_passCycle_37 : decode cX13_passCycle 37 = .ok (.aload_n 0, 1) := by decide +kernel
theorem dX13_passCycle_38 : decode cX13_passCycle 38 = .ok (.getfield 31, 3) := by decide +kernel
theorem dX13_passCycle_41 : decode cX13_passCycle 41 = .ok (.iload_n 1, 1) := by decide +kernel
theorem dX13_passCycle_42 : decode cX13_passCycle 42 = .ok (.baload, 1) := by decide +kernel
theorem dX13_passCycle_43 : decode cX13_passCycle 43 = .ok (.ifCond .eq 8, 3) := by decide +kernel
theorem dX13_passCycle_46 : decode cX13_passCycle 46 = .ok (.aload_n 0, 1) := by decide +kernel
theorem dX13_passCycle_47 : decode cX13_passCycle 47 = .ok (.iload_n 1, 1) := by decide +kernel
theorem dX13_passCycle_48 : decode cX13_passCycle 48 = .ok (.invokevirtual 319, 3) := by decide +kernel
theorem dX13_passCycle_51 : decode cX13_passCycle 51 = .ok (.iinc 1 1, 3) := by decide +kernel
theorem dX13_passCycle_54 : decode cX13_passCycle 54 = .ok (.goto (-22), 3) := by decide +kernel
theorem dX13_passCycle_57 : decode cX13_passCycle 57 = .ok (.iconst 0, 1) := by decide +kernel
theorem dX13_passCycle_58 : decode cX13_passCycle 58 = .ok (.istore_n 1, 1) := by decide +kernel
theorem dX13_passCycle_59 : decode cX13_passCycle 59 = .ok (.iload_n 1, 1) := by decide +kernel
theorem dX13_passCycle_60 : decode cX13_passCycle 60 = .ok (.iconst 4, 1) := by decide +kernel
theorem dX13_passCycle_61 : decode cX13_passCycle 61 = .ok (.if_icmp .ge 14, 3) := by decide +kernel
theorem dX13_passCycle_64 : decode cX13_passCycle 64 = .ok (.aload_n 0, 1) := by decide +kernel
theorem dX13_passCycle_65 : decode cX13_passCycle 65 = .ok (.iload_n 1, 1) := by decide +kernel
theorem dX13_passCycle_66 : decode cX13_passCycle 66 = .ok (.invokevirtual 322, 3) := by decide +kernel
theorem dX13_passCycle_69 : decode cX13_passCycle 69 = .ok (.iinc 1 1, 3) := by decide +kernel
theorem dX13_passCycle_72 : decode cX13_passCycle 72 = .ok (.goto (-13), 3) := by decide +kernel
theorem dX13_passCycle_75 : decode cX13_passCycle 75 = .ok (.iconst 0, 1) := by decide +kernel
theorem dX13_passCycle_76 : decode cX13_passCycle 76 = .ok (.istore_n 1, 1) := by decide +kernel
theorem dX13_passCycle_77 : decode cX13_passCycle 77 = .ok (.iload_n 1, 1) := by decide +kernel
theorem dX13_passCycle_78 : decode cX13_passCycle 78 = .ok (.bipush 8, 2) := by decide +kernel
theorem dX13_passCycle_80 : decode cX13_passCycle 80 = .ok (.if_icmp .ge 59, 3) := by decide +kernel
theorem dX13_passCycle_83 : decode cX13_passCycle 83 = .ok (.aload_n 0, 1) := by decide +kernel
theorem dX13_passCycle_84 : decode cX13_passCycle 84 = .ok (.getfield 9, 3) := by decide +kernel
theorem dX13_passCycle_87 : decode cX13_passCycle 87 = .ok (.bipush 100, 2) := by decide +kernel
theorem dX13_passCycle_89 : decode cX13_passCycle 89 = .ok (.iload_n 1, 1) := by decide +kernel
theorem dX13_passCycle_90 : decode cX13_passCycle 90 = .ok (.iadd, 1) := by decide +kernel
theorem dX13_passCycle_91 : decode cX13_passCycle 91 = .ok (.aload_n 0, 1) := by decide +kernel
theorem dX13_passCycle_92 : decode cX13_passCycle 92 = .ok (.getfield 287, 3) := by decide +kernel
theorem dX13_passCycle_95 : decode cX13_passCycle 95 = .ok (.iload_n 1, 1) := by decide +kernel
theorem dX13_passCycle_96 : decode cX13_passCycle 96 = .ok (.ishr, 1) := by decide +kernel
theorem dX13_passCycle_97 : decode cX13_passCycle 97 = .ok (.iconst 1, 1) := by decide +kernel
theorem dX13_passCycle_98 : decode cX13_passCycle 98 = .ok (.iand, 1) := by decide +kernel
theorem dX13_passCycle_99 : decode cX13_passCycle 99 = .ok (.iconst 1, 1) := by decide +kernel
theorem dX13_passCycle_100 : decode cX13_passCycle 100 = .ok (.if_icmp .ne 7, 3) := by decide +kernel
theorem dX13_passCycle_103 : decode cX13_passCycle 103 = .ok (.iconst 1, 1) := by decide +kernel
theorem dX13_passCycle_104 : decode cX13_passCycle 104 = .ok (.goto 28, 3) := by decide +kernel
theorem dX13_passCycle_107 : decode cX13_passCycle 107 = .ok (.aload_n 0, 1) := by decide +kernel
theorem dX13_passCycle_108 : decode cX13_passCycle 108 = .ok (.getfield 290, 3) := by decide +kernel
theorem dX13_passCycle_111 : decode cX13_passCycle 111 = .ok (.iload_n 1, 1) := by decide +kernel
theorem dX13_passCycle_112 : decode cX13_passCycle 112 = .ok (.ishr, 1) := by decide +kernel
theorem dX13_passCycle_113 : decode cX13_passCycle 113 = .ok (.iconst 1, 1) := by decide +kernel
theorem dX13_passCycle_114 : decode cX13_passCycle 114 = .ok (.iand, 1) := by decide +kernel
theorem dX13_passCycle_115 : decode cX13_passCycle 115 = .ok (.iconst 1, 1) := by decide +kernel
theorem dX13_passCycle_116 : decode cX13_passCycle 116 = .ok (.if_icmp .ne 7, 3) := by decide +kernel
theorem dX13_passCycle_119 : decode cX13_passCycle 119 = .ok (.iconst 0, 1) := by decide +kernel
theorem dX13_passCycle_120 : decode cX13_passCycle 120 = .ok (.goto 12, 3) := by decide +kernel
theorem dX13_passCycle_123 : decode cX13_passCycle 123 = .ok (.aload_n 0, 1) := by decide +kernel
theorem dX13_passCycle_124 : decode cX13_passCycle 124 = .ok (.getfield 9, 3) := by decide +kernel
theorem dX13_passCycle_127 : decode cX13_passCycle 127 = .ok (.bipush 100, 2) := by decide +kernel
theorem dX13_passCycle_129 : decode cX13_passCycle 129 = .ok (.iload_n 1, 1) := by decide +kernel
theorem dX13_passCycle_130 : decode cX13_passCycle 130 = .ok (.iadd, 1) := by decide +kernel
theorem dX13_passCycle_131 : decode cX13_passCycle 131 = .ok (.iaload, 1) := by decide +kernel
theorem dX13_passCycle_132 : decode cX13_passCycle 132 = .ok (.iastore, 1) := by decide +kernel
theorem dX13_passCycle_133 : decode cX13_passCycle 133 = .ok (.iinc 1 1, 3) := by decide +kernel
theorem dX13_passCycle_136 : decode cX13_passCycle 136 = .ok (.goto (-59), 3) := by decide +kernel
theorem dX13_passCycle_139 : decode cX13_passCycle 139 = .ok (.aload_n 0, 1) := by decide +kernel
theorem dX13_passCycle_140 : decode cX13_passCycle 140 = .ok (.invokevirtual 325, 3) := by decide +kernel
theorem dX13_passCycle_143 : decode cX13_passCycle 143 = .ok (.aload_n 0, 1) := by decide +kernel
theorem dX13_passCycle_144 : decode cX13_passCycle 144 = .ok (.getfield 9, 3) := by decide +kernel
theorem dX13_passCycle_147 : decode cX13_passCycle 147 = .ok (.iconst 1, 1) := by decide +kernel
theorem dX13_passCycle_148 : decode cX13_passCycle 148 = .ok (.dup2, 1) := by decide +kernel
theorem dX13_passCycle_149 : decode cX13_passCycle 149 = .ok (.iaload, 1) := by decide +kernel
theorem dX13_passCycle_150 : decode cX13_passCycle 150 = .ok (.iconst 1, 1) := by decide +kernel
theorem dX13_passCycle_151 : decode cX13_passCycle 151 = .ok (.iadd, 1) := by decide +kernel
theorem dX13_passCycle_152 : decode cX13_passCycle 152 = .ok (.iastore, 1) := by decide +kernel
theorem dX13_passCycle_153 : decode cX13_passCycle 153 = .ok (.return_, 1) := by decide +kernel
theorem dX13_tick_0 : decode cX13_tick 0 = .ok (.aload_n 0, 1) := by decide +kernel
theorem dX13_tick_1 : decode cX13_tick 1 = .ok (.iload_n 1, 1) := by decide +kernel
theorem dX13_tick_2 : decode cX13_tick 2 = .ok (.bipush 8, 2) := by decide +kernel
theorem dX13_tick_4 : decode cX13_tick 4 = .ok (.invokevirtual 238, 3) := by decide +kernel
theorem dX13_tick_7 : decode cX13_tick 7 = .ok (.ifCond .le 18, 3) := by decide +kernel
theorem dX13_tick_10 : decode cX13_tick 10 = .ok (.aload_n 0, 1) := by decide +kernel
theorem dX13_tick_11 : decode cX13_tick 11 = .ok (.iload_n 1, 1) := by decide +kernel
theorem dX13_tick_12 : decode cX13_tick 12 = .ok (.bipush 8, 2) := by decide +kernel
theorem dX13_tick_14 : decode cX13_tick 14 = .ok (.iconst (-1), 1) := by decide +kernel
theorem dX13_tick_15 : decode cX13_tick 15 = .ok (.invokevirtual 234, 3) := by decide +kernel
theorem dX13_tick_18 : decode cX13_tick 18 = .ok (.aload_n 0, 1) := by decide +kernel
theorem dX13_tick_19 : decode cX13_tick 19 = .ok (.iload_n 1, 1) := by decide +kernel
theorem dX13_tick_20 : decode cX13_tick 20 = .ok (.iconst 2, 1) := by decide +kernel
theorem dX13_tick_21 : decode cX13_tick 21 = .ok (.invokevirtual 328, 3) := by decide +kernel
theorem dX13_tick_24 : decode cX13_tick 24 = .ok (.return_, 1) := by decide +kernel
theorem dX13_tick_25 : decode cX13_tick 25 = .ok (.aload_n 0, 1) := by decide +kernel
theorem dX13_tick_26 : decode cX13_tick 26 = .ok (.iload_n 1, 1) := by decide +kernel
theorem dX13_tick_27 : decode cX13_tick 27 = .ok (.bipush 9, 2) := by decide +kernel
theorem dX13_tick_29 : decode cX13_tick 29 = .ok (.invokevirtual 238, 3) := by decide +kernel
theorem dX13_tick_32 : decode cX13_tick 32 = .ok (.ifCond .ne 15, 3) := by decide +kernel
theorem dX13_tick_35 : decode cX13_tick 35 = .ok (.aload_n 0, 1) := by decide +kernel
theorem dX13_tick_36 : decode cX13_tick 36 = .ok (.getfield 47, 3) := by decide +kernel
theorem dX13_tick_39 : decode cX13_tick 39 = .ok (.iload_n 1, 1) := by decide +kernel
theorem dX13_tick_40 : decode cX13_tick 40 = .ok (.aload_n 0, 1) := by decide +kernel
theorem dX13_tick_41 : decode cX13_tick 41 = .ok (.iload_n 1, 1) := by decide +kernel
theorem dX13_tick_42 : decode cX13_tick 42 = .ok (.iconst 4, 1) := by decide +kernel
theorem dX13_tick_43 : decode cX13_tick 43 = .ok (.invokevirtual 293, 3) := by decide +kernel
theorem dX13_tick_46 : decode cX13_tick 46 = .ok (.iastore, 1) := by decide +kernel
theorem dX13_tick_47 : decode cX13_tick 47 = .ok (.aload_n 0, 1) := by decide +kernel
theorem dX13_tick_48 : decode cX13_tick 48 = .ok (.iconst (-1), 1) := by decide +kernel
theorem dX13_tick_49 : decode cX13_tick 49 = .ok (.putfield 332, 3) := by decide +kernel
theorem dX13_tick_52 : decode cX13_tick 52 = .ok (.aload_n 0, 1) := by decide +kernel
theorem dX13_tick_53 : decode cX13_tick 53 = .ok (.iload_n 1, 1) := by decide +kernel
theorem dX13_tick_54 : decode cX13_tick 54 = .ok (.iconst 5, 1) := by decide +kernel
theorem dX13_tick_55 : decode cX13_tick 55 = .ok (.invokevirtual 293, 3) := by decide +kernel
theorem dX13_tick_58 : decode cX13_tick 58 = .ok (.istore_n 2, 1) := by decide +kernel
theorem dX13_tick_59 : decode cX13_tick 59 = .ok (.aload_n 0, 1) := by decide +kernel
theorem dX13_tick_60 : decode cX13_tick 60 = .ok (.iload_n 1, 1) := by decide +kernel
theorem dX13_tick_61 : decode cX13_tick 61 = .ok (.invokevirtual 335, 3) := by decide +kernel
theorem dX13_tick_64 : decode cX13_tick 64 = .ok (.istore_n 3, 1) := by decide +kernel
theorem dX13_tick_65 : decode cX13_tick 65 = .ok (.aload_n 0, 1) := by decide +kernel
theorem dX13_tick_66 : decode cX13_tick 66 = .ok (.iload_n 1, 1) := by decide +kernel
theorem dX13_tick_67 : decode cX13_tick 67 = .ok (.bipush 9, 2) := by decide +kernel
theorem dX13_tick_69 : decode cX13_tick 69 = .ok (.iload_n 3, 1) := by decide +kernel
theorem dX13_tick_70 : decode cX13_tick 70 = .ok (.invokevirtual 282, 3) := by decide +kernel
theorem dX13_tick_73 : decode cX13_tick 73 = .ok (.aload_n 0, 1) := by decide +kernel
theorem dX13_tick_74 : decode cX13_tick 74 = .ok (.iload_n 1, 1) := by decide +kernel
theorem dX13_tick_75 : decode cX13_tick 75 = .ok (.iload_n 3, 1) := by decide +kernel
theorem dX13_tick_76 : decode cX13_tick 76 = .ok (.ifCond .ne 7, 3) := by decide +kernel
theorem dX13_tick_79 : decode cX13_tick 79 = .ok (.iconst 0, 1) := by decide +kernel
theorem dX13_tick_80 : decode cX13_tick 80 = .ok (.goto 4, 3) := by decide +kernel
theorem dX13_tick_83 : decode cX13_tick 83 = .ok (.iconst 1, 1) := by decide +kernel
theorem dX13_tick_84 : decode cX13_tick 84 = .ok (.invokevirtual 328, 3) := by decide +kernel
theorem dX13_tick_87 : decode cX13_tick 87 = .ok (.iload_n 3, 1) := by decide +kernel
theorem dX13_tick_88 : decode cX13_tick 88 = .ok (.ifCond .ne 37, 3) := by decide +kernel
theorem dX13_tick_91 : decode cX13_tick 91 = .ok (.aload_n 0, 1) := by decide +kernel
theorem dX13_tick_92 : decode cX13_tick 92 = .ok (.iload_n 1, 1) := by decide +kernel
theorem dX13_tick_93 : decode cX13_tick 93 = .ok (.bipush 8, 2) := by decide +kernel
theorem dX13_tick_95 : decode cX13_tick 95 = .ok (.iload_n 2, 1) := by decide +kernel
theorem dX13_tick_96 : decode cX13_tick 96 = .ok (.invokevirtual 282, 3) := by decide +kernel
theorem dX13_tick_99 : decode cX13_tick 99 = .ok (.aload_n 0, 1) := by decide +kernel
theorem dX13_tick_100 : decode cX13_tick 100 = .ok (.iload_n 1, 1) := by decide +kernel
theorem dX13_tick_101 : decode cX13_tick 101 = .ok (.iconst 1, 1) := by decide +kernel
theorem dX13_tick_102 : decode cX13_tick 102 = .ok (.aload_n 0, 1) := by decide +kernel
theorem dX13_tick_103 : decode cX13_tick 103 = .ok (.getfield 332, 3) := by decide +kernel
theorem dX13_tick_106 : decode cX13_tick 106 = .ok (.iconst (-1), 1) := by decide +kernel
theorem dX13_tick_107 : decode cX13_tick 107 = .ok (.if_icmp .eq 10, 3) := by decide +kernel
theorem dX13_tick_110 : decode cX13_tick 110 = .ok (.aload_n 0, 1) := by decide +kernel
theorem dX13_tick_111 : decode cX13_tick 111 = .ok (.getfield 332, 3) := by decide +kernel
theorem dX13_tick_114 : decode cX13_tick 114 = .ok (.goto 8, 3) := by decide +kernel
theorem dX13_tick_117 : decode cX13_tick 117 = .ok (.aload_n 0, 1) := by decide +kernel
theorem dX13_tick_118 : decode cX13_tick 118 = .ok (.iload_n 1, 1) := by decide +kernel
theorem dX13_tick_119 : decode cX13_tick 119 = .ok (.invokevirtual 338, 3) := by decide +kernel
theorem dX13_tick_122 : decode cX13_tick 122 = .ok (.invokevirtual 282, 3) := by decide +kernel
theorem dX13_tick_125 : decode cX13_tick 125 = .ok (.return_, 1) := by decide +kernel
theorem dX13_nextAddress_0 : decode cX13_nextAddress 0 = .ok (.aload_n 0, 1) := by decide +kernel
theorem dX13_nextAddress_1 : decode cX13_nextAddress 1 = .ok (.iload_n 1, 1) := by decide +kernel
theorem dX13_nextAddress_2 : decode cX13_nextAddress 2 = .ok (.iconst 1, 1) := by decide +kernel
theorem dX13_nextAddress_3 : decode cX13_nextAddress 3 = .ok (.invokevirtual 238, 3) := by decide +kernel
theorem dX13_nextAddress_6 : decode cX13_nextAddress 6 = .ok (.istore_n 2, 1) := by decide +kernel
theorem dX13_nextAddress_7 : decode cX13_nextAddress 7 = .ok (.iload_n 2, 1) := by decide +kernel
theorem dX13_nextAddress_8 : decode cX13_nextAddress 8 = .ok (.aload_n 0, 1) := by decide +kernel
theorem dX13_nextAddress_9 : decode cX13_nextAddress 9 = .ok (.iload_n 1, 1) := by decide +kernel
theorem dX13_nextAddress_10 : decode cX13_nextAddress 10 = .ok (.iconst 4, 1) := by decide +kernel
theorem dX13_nextAddress_11 : decode cX13_nextAddress 11 = .ok (.invokevirtual 249, 3) := by decide +kernel
theorem dX13_nextAddress_14 : decode cX13_nextAddress 14 = .ok (.if_icmp .ne 12, 3) := by decide +kernel
theorem dX13_nextAddress_17 : decode cX13_nextAddress 17 = .ok (.aload_n 0, 1) := by decide +kernel
theorem dX13_nextAddress_18 : decode cX13_nextAddress 18 = .ok (.iload_n 1, 1) := by decide +kernel
theorem dX13_nextAddress_19 : decode cX13_nextAddress 19 = .ok (.iconst 3, 1) := by decide +kernel
theorem dX13_nextAddress_20 : decode cX13_nextAddress 20 = .ok (.invokevirtual 249, 3) := by decide +kernel
theorem dX13_nextAddress_23 : decode cX13_nextAddress 23 = .ok (.goto 13, 3) := by decide +kernel
theorem dX13_nextAddress_26 : decode cX13_nextAddress 26 = .ok (.iload_n 2, 1) := by decide +kernel
theorem dX13_nextAddress_27 : decode cX13_nextAddress 27 = .ok (.iconst 1, 1) := by decide +kernel
theorem dX13_nextAddress_28 : decode cX13_nextAddress 28 = .ok (.iadd, 1) := by decide +kernel
theorem dX13_nextAddress_29 : decode cX13_nextAddress 29 = .ok (.aload_n 0, 1) := by decide +kernel
theorem dX13_nextAddress_30 : decode cX13_nextAddress 30 = .ok (.getfield 9, 3) := by decide +kernel
theorem dX13_nextAddress_33 : decode cX13_nextAddress 33 = .ok (.iconst 0, 1) := by decide +kernel
theorem dX13_nextAddress_34 : decode cX13_nextAddress 34 = .ok (.iaload, 1) := by decide +kernel
theorem dX13_nextAddress_35 : decode cX13_nextAddress 35 = .ok (.irem, 1) := by decide +kernel
theorem dX13_nextAddress_36 : decode cX13_nextAddress 36 = .ok (.ireturn, 1) := by decide +kernel
theorem dX13_execute_0 : decode cX13_execute 0 = .ok (.aload_n 0, 1) := by decide +kernel
theorem dX13_execute_1 : decode cX13_execute 1 = .ok (.iload_n 1, 1) := by decide +kernel
theorem dX13_execute_2 : decode cX13_execute 2 = .ok (.iconst 1, 1) := by decide +kernel
theorem dX13_execute_3 : decode cX13_execute 3 = .ok (.invokevirtual 293, 3) := by decide +kernel
theorem dX13_execute_6 : decode cX13_execute 6 = .ok (.istore_n 2, 1) := by decide +kernel
theorem dX13_execute_7 : decode cX13_execute 7 = .ok (.aload_n 0, 1) := by decide +kernel
theorem dX13_execute_8 : decode cX13_execute 8 = .ok (.iload_n 1, 1) := by decide +kernel
theorem dX13_execute_9 : decode cX13_execute 9 = .ok (.iconst 0, 1) := by decide +kernel
theorem dX13_execute_10 : decode cX13_execute 10 = .ok (.invokevirtual 293, 3) := by decide +kernel
theorem dX13_execute_13 : decode cX13_execute 13 = .ok (.tableswitch 238 0 10 #[59, 66, 73, 91, 104, 135, 166, 190, 204, 218, 225], 59) := by decide +kernel
theorem dX13_execute_72 : decode cX13_execute 72 = .ok (.aload_n 0, 1) := by decide +kernel
theorem dX13_execute_73 : decode cX13_execute 73 = .ok (.iload_n 1, 1) := by decide +kernel
theorem dX13_execute_74 : decode cX13_execute 74 = .ok (.iload_n 2, 1) := by decide +kernel
theorem dX13_execute_75 : decode cX13_execute 75 = .ok (.invokevirtual 341, 3) := by decide +kernel
theorem dX13_execute_78 : decode cX13_execute 78 = .ok (.ireturn, 1) := by decide +kernel
theorem dX13_execute_79 : decode cX13_execute 79 = .ok (.aload_n 0, 1) := by decide +kernel
theorem dX13_execute_80 : decode cX13_execute 80 = .ok (.iload_n 1, 1) := by decide +kernel
theorem dX13_execute_81 : decode cX13_execute 81 = .ok (.iload_n 2, 1) := by decide +kernel
theorem dX13_execute_82 : decode cX13_execute 82 = .ok (.invokevirtual 344, 3) := by decide +kernel
theorem dX13_execute_85 : decode cX13_execute 85 = .ok (.ireturn, 1) := by decide +kernel
theorem dX13_execute_86 : decode cX13_execute 86 = .ok (.aload_n 0, 1) := by decide +kernel
theorem dX13_execute_87 : decode cX13_execute 87 = .ok (.iload_n 1, 1) := by decide +kernel
theorem dX13_execute_88 : decode cX13_execute 88 = .ok (.aload_n 0, 1) := by decide +kernel
theorem dX13_execute_89 : decode cX13_execute 89 = .ok (.iload_n 1, 1) := by decide +kernel
theorem dX13_execute_90 : decode cX13_execute 90 = .ok (.iload_n 2, 1) := by decide +kernel
theorem dX13_execute_91 : decode cX13_execute 91 = .ok (.invokevirtual 347, 3) := by decide +kernel
theorem dX13_execute_94 : decode cX13_execute 94 = .ok (.aload_n 0, 1) := by decide +kernel
theorem dX13_execute_95 : decode cX13_execute 95 = .ok (.iload_n 1, 1) := by decide +kernel
theorem dX13_execute_96 : decode cX13_execute 96 = .ok (.iconst 2, 1) := by decide +kernel
theorem dX13_execute_97 : decode cX13_execute 97 = .ok (.invokevirtual 293, 3) := by decide +kernel
theorem dX13_execute_100 : decode cX13_execute 100 = .ok (.invokevirtual 350, 3) := by decide +kernel
theorem dX13_execute_103 : decode cX13_execute 103 = .ok (.ireturn, 1) := by decide +kernel
theorem dX13_execute_104 : decode cX13_execute 104 = .ok (.aload_n 0, 1) := by decide +kernel
theorem dX13_execute_105 : decode cX13_execute 105 = .ok (.iload_n 1, 1) := by decide +kernel
theorem dX13_execute_106 : decode cX13_execute 106 = .ok (.iload_n 2, 1) := by decide +kernel
theorem dX13_execute_107 : decode cX13_execute 107 = .ok (.aload_n 0, 1) := by decide +kernel
theorem dX13_execute_108 : decode cX13_execute 108 = .ok (.iload_n 1, 1) := by decide +kernel
theorem dX13_execute_109 : decode cX13_execute 109 = .ok (.iconst 2, 1) := by decide +kernel
theorem dX13_execute_110 : decode cX13_execute 110 = .ok (.invokevirtual 293, 3) := by decide +kernel
theorem dX13_execute_113 : decode cX13_execute 113 = .ok (.invokevirtual 354, 3) := by decide +kernel
theorem dX13_execute_116 : decode cX13_execute 116 = .ok (.ireturn, 1) := by decide +kernel
theorem dX13_execute_117 : decode cX13_execute 117 = .ok (.aload_n 0, 1) := by decide +kernel
theorem dX13_execute_118 : decode cX13_execute 118 = .ok (.iload_n 1, 1) := by decide +kernel
theorem dX13_execute_119 : decode cX13_execute 119 = .ok (.iload_n 2, 1) := by decide +kernel
theorem dX13_execute_120 : decode cX13_execute 120 = .ok (.iconst 1, 1) := by decide +kernel
theorem dX13_execute_121 : decode cX13_execute 121 = .ok (.if_icmp .ne 7, 3) := by decide +kernel
theorem dX13_execute_124 : decode cX13_execute 124 = .ok (.iconst 1, 1) := by decide +kernel
theorem dX13_execute_125 : decode cX13_execute 125 = .ok (.goto 4, 3) := by decide +kernel
theorem dX13_execute_128 : decode cX13_execute 128 = .ok (.iconst 0, 1) := by decide +kernel
theorem dX13_execute_129 : decode cX13_execute 129 = .ok (.aload_n 0, 1) := by decide +kernel
theorem dX13_execute_130 : decode cX13_execute 130 = .ok (.iload_n 1, 1) := by decide +kernel
theorem dX13_execute_131 : decode cX13_execute 131 = .ok (.iconst 2, 1) := by decide +kernel
theorem dX13_execute_132 : decode cX13_execute 132 = .ok (.invokevirtual 293, 3) := by decide +kernel
theorem dX13_execute_135 : decode cX13_execute 135 = .ok (.iconst 1, 1) := by decide +kernel
theorem dX13_execute_136 : decode cX13_execute 136 = .ok (.if_icmp .ne 7, 3) := by decide +kernel
theorem dX13_execute_139 : decode cX13_execute 139 = .ok (.iconst 1, 1) := by decide +kernel
theorem dX13_execute_140 : decode cX13_execute 140 = .ok (.goto 4, 3) := by decide +kernel
theorem dX13_execute_143 : decode cX13_execute 143 = .ok (.iconst 0, 1) := by decide +kernel
theorem dX13_execute_144 : decode cX13_execute 144 = .ok (.invokevirtual 357, 3) := by decide +kernel
theorem dX13_execute_147 : decode cX13_execute 147 = .ok (.ireturn, 1) := by decide +kernel
theorem dX13_execute_148 : decode cX13_execute 148 = .ok (.aload_n 0, 1) := by decide +kernel
theorem dX13_execute_149 : decode cX13_execute 149 = .ok (.iload_n 1, 1) := by decide +kernel
theorem dX13_execute_150 : decode cX13_execute 150 = .ok (.iload_n 2, 1) := by decide +kernel
theorem dX13_execute_151 : decode cX13_execute 151 = .ok (.iconst 1, 1) := by decide +kernel
theorem dX13_execute_152 : decode cX13_execute 152 = .ok (.if_icmp .ne 7, 3) := by decide +kernel
theorem dX13_execute_155 : decode cX13_execute 155 = .ok (.iconst 1, 1) := by decide +kernel
theorem dX13_execute_156 : decode cX13_execute 156 = .ok (.goto 4, 3) := by decide +kernel
theorem dX13_execute_159 : decode cX13_execute 159 = .ok (.iconst 0, 1) := by decide +kernel
theorem dX13_execute_160 : decode cX13_execute 160 = .ok (.aload_n 0, 1) := by decide +kernel
theorem dX13_execute_161 : decode cX13_execute 161 = .ok (.iload_n 1, 1) := by decide +kernel
theorem dX13_execute_162 : decode cX13_execute 162 = .ok (.iconst 2, 1) := by decide +kernel
theorem dX13_execute_163 : decode cX13_execute 163 = .ok (.invokevirtual 293, 3) := by decide +kernel
theorem dX13_execute_166 : decode cX13_execute 166 = .ok (.iconst 1, 1) := by decide +kernel
theorem dX13_execute_167 : decode cX13_execute 167 = .ok (.if_icmp .ne 7, 3) := by decide +kernel
theorem dX13_execute_170 : decode cX13_execute 170 = .ok (.iconst 1, 1) := by decide +kernel
theorem dX13_execute_171 : decode cX13_execute 171 = .ok (.goto 4, 3) := by decide +kernel
theorem dX13_execute_174 : decode cX13_execute 174 = .ok (.iconst 0, 1) := by decide +kernel
theorem dX13_execute_175 : decode cX13_execute 175 = .ok (.invokevirtual 360, 3) := by decide +kernel
theorem dX13_execute_178 : decode cX13_execute 178 = .ok (.ireturn, 1) := by decide +kernel
theorem dX13_execute_179 : decode cX13_execute 179 = .ok (.aload_n 0, 1) := by decide +kernel
theorem dX13_execute_180 : decode cX13_execute 180 = .ok (.iload_n 1, 1) := by decide +kernel
theorem dX13_execute_181 : decode cX13_execute 181 = .ok (.iload_n 2, 1) := by decide +kernel
theorem dX13_execute_182 : decode cX13_execute 182 = .ok (.aload_n 0, 1) := by decide +kernel
theorem dX13_execute_183 : decode cX13_execute 183 = .ok (.iload_n 1, 1) := by decide +kernel
theorem dX13_execute_184 : decode cX13_execute 184 = .ok (.iconst 2, 1) := by decide +kernel
theorem dX13_execute_185 : decode cX13_execute 185 = .ok (.invokevirtual 293, 3) := by decide +kernel
theorem dX13_execute_188 : decode cX13_execute 188 = .ok (.aload_n 0, 1) := by decide +kernel
theorem dX13_execute_189 : decode cX13_execute 189 = .ok (.iload_n 1, 1) := by decide +kernel
theorem dX13_execute_190 : decode cX13_execute 190 = .ok (.aload_n 0, 1) := by decide +kernel
theorem dX13_execute_191 : decode cX13_execute 191 = .ok (.iload_n 1, 1) := by decide +kernel
theorem dX13_execute_192 : decode cX13_execute 192 = .ok (.iconst 3, 1) := by decide +kernel
theorem dX13_execute_193 : decode cX13_execute 193 = .ok (.invokevirtual 293, 3) := by decide +kernel
theorem dX13_execute_196 : decode cX13_execute 196 = .ok (.invokevirtual 347, 3) := by decide +kernel
theorem dX13_execute_199 : decode cX13_execute 199 = .ok (.invokevirtual 362, 3) := by decide +kernel
theorem dX13_execute_202 : decode cX13_execute 202 = .ok (.ireturn, 1) := by decide +kernel
theorem dX13_execute_203 : decode cX13_execute 203 = .ok (.aload_n 0, 1) := by decide +kernel
theorem dX13_execute_204 : decode cX13_execute 204 = .ok (.dup, 1) := by decide +kernel
theorem dX13_execute_205 : decode cX13_execute 205 = .ok (.getfield 287, 3) := by decide +kernel
theorem dX13_execute_208 : decode cX13_execute 208 = .ok (.iconst 1, 1) := by decide +kernel
theorem dX13_execute_209 : decode cX13_execute 209 = .ok (.iload_n 2, 1) := by decide +kernel
theorem dX13_execute_210 : decode cX13_execute 210 = .ok (.ishl, 1) := by decide +kernel
theorem dX13_execute_211 : decode cX13_execute 211 = .ok (.ior, 1) := by decide +kernel
theorem dX13_execute_212 : decode cX13_execute 212 = .ok (.putfield 287, 3) := by decide +kernel
theorem dX13_execute_215 : decode cX13_execute 215 = .ok (.iconst 0, 1) := by decide +kernel
theorem dX13_execute_216 : decode cX13_execute 216 = .ok (.ireturn, 1) := by decide +kernel
theorem dX13_execute_217 : decode cX13_execute 217 = .ok (.aload_n 0, 1) := by decide +kernel
theorem dX13_execute_218 : decode cX13_execute 218 = .ok (.dup, 1) := by decide +kernel
theorem dX13_execute_219 : decode cX13_execute 219 = .ok (.getfield 290, 3) := by decide +kernel
theorem dX13_execute_222 : decode cX13_execute 222 = .ok (.iconst 1, 1) := by decide +kernel
theorem dX13_execute_223 : decode cX13_execute 223 = .ok (.iload_n 2, 1) := by decide +kernel
theorem dX13_execute_224 : decode cX13_execute 224 = .ok (.ishl, 1) := by decide +kernel
theorem dX13_execute_225 : decode cX13_execute 225 = .ok (.ior, 1) := by decide +kernel
theorem dX13_execute_226 : decode cX13_execute 226 = .ok (.putfield 290, 3) := by decide +kernel
theorem dX13_execute_229 : decode cX13_execute 229 = .ok (.iconst 0, 1) := by decide +kernel
theorem dX13_execute_230 : decode cX13_execute 230 = .ok (.ireturn, 1) := by decide +kernel
theorem dX13_execute_231 : decode cX13_execute 231 = .ok (.aload_n 0, 1) := by decide +kernel
theorem dX13_execute_232 : decode cX13_execute 232 = .ok (.iload_n 1, 1) := by decide +kernel
theorem dX13_execute_233 : decode cX13_execute 233 = .ok (.iload_n 2, 1) := by decide +kernel
theorem dX13_execute_234 : decode cX13_execute 234 = .ok (.invokevirtual 366, 3) := by decide +kernel
theorem dX13_execute_237 : decode cX13_execute 237 = .ok (.ireturn, 1) := by decide +kernel
theorem dX13_execute_238 : decode cX13_execute 238 = .ok (.aload_n 0, 1) := by decide +kernel
theorem dX13_execute_239 : decode cX13_execute 239 = .ok (.iload_n 1, 1) := by decide +kernel
theorem dX13_execute_240 : decode cX13_execute 240 = .ok (.iload_n 2, 1) := by decide +kernel
theorem dX13_execute_241 : decode cX13_execute 241 = .ok (.aload_n 0, 1) := by decide +kernel
theorem dX13_execute_242 : decode cX13_execute 242 = .ok (.iload_n 1, 1) := by decide +kernel
theorem dX13_execute_243 : decode cX13_execute 243 = .ok (.iconst 2, 1) := by decide +kernel
theorem dX13_execute_244 : decode cX13_execute 244 = .ok (.invokevirtual 293, 3) := by decide +kernel
theorem dX13_execute_247 : decode cX13_execute 247 = .ok (.invokevirtual 368, 3) := by decide +kernel
theorem dX13_execute_250 : decode cX13_execute 250 = .ok (.ireturn, 1) := by decide +kernel
theorem dX13_execute_251 : decode cX13_execute 251 = .ok (.aload_n 0, 1) := by decide +kernel
theorem dX13_execute_252 : decode cX13_execute 252 = .ok (.getfield 296, 3) := by decide +kernel
theorem dX13_execute_255 : decode cX13_execute 255 = .ok (.iload_n 1, 1) := by decide +kernel
theorem dX13_execute_256 : decode cX13_execute 256 = .ok (.if_icmp .ne 12, 3) := by decide +kernel
theorem dX13_execute_259 : decode cX13_execute 259 = .ok (.aload_n 0, 1) := by decide +kernel
theorem dX13_execute_260 : decode cX13_execute 260 = .ok (.iload_n 1, 1) := by decide +kernel
theorem dX13_execute_261 : decode cX13_execute 261 = .ok (.iload_n 2, 1) := by decide +kernel
theorem dX13_execute_262 : decode cX13_execute 262 = .ok (.invokevirtual 371, 3) := by decide +kernel
theorem dX13_execute_265 : decode cX13_execute 265 = .ok (.goto 4, 3) := by decide +kernel
theorem dX13_execute_268 : decode cX13_execute 268 = .ok (.iconst 4, 1) := by decide +kernel
theorem dX13_execute_269 : decode cX13_execute 269 = .ok (.ireturn, 1) := by decide +kernel
theorem dX13_jumpToWord_0 : decode cX13_jumpToWord 0 = .ok (.aload_n 0, 1) := by decide +kernel
theorem dX13_jumpToWord_1 : decode cX13_jumpToWord 1 = .ok (.iload_n 1, 1) := by decide +kernel
theorem dX13_jumpToWord_2 : decode cX13_jumpToWord 2 = .ok (.invokestatic 276, 3) := by decide +kernel
theorem dX13_jumpToWord_5 : decode cX13_jumpToWord 5 = .ok (.aload_n 0, 1) := by decide +kernel
theorem dX13_jumpToWord_6 : decode cX13_jumpToWord 6 = .ok (.getfield 9, 3) := by decide +kernel
theorem dX13_jumpToWord_9 : decode cX13_jumpToWord 9 = .ok (.iconst 0, 1) := by decide +kernel
theorem dX13_jumpToWord_10 : decode cX13_jumpToWord 10 = .ok (.iaload, 1) := by decide +kernel
theorem dX13_jumpToWord_11 : decode cX13_jumpToWord 11 = .ok (.i2l, 1) := by decide +kernel
theorem dX13_jumpToWord_12 : decode cX13_jumpToWord 12 = .ok (.lrem, 1) := by decide +kernel
theorem dX13_jumpToWord_13 : decode cX13_jumpToWord 13 = .ok (.l2i, 1) := by decide +kernel
theorem dX13_jumpToWord_14 : decode cX13_jumpToWord 14 = .ok (.putfield 332, 3) := by decide +kernel
theorem dX13_jumpToWord_17 : decode cX13_jumpToWord 17 = .ok (.return_, 1) := by decide +kernel
theorem dX13_decrease_0 : decode cX13_decrease 0 = .ok (.aload_n 0, 1) := by decide +kernel
theorem dX13_decrease_1 : decode cX13_decrease 1 = .ok (.iload_n 1, 1) := by decide +kernel
theorem dX13_decrease_2 : decode cX13_decrease 2 = .ok (.iload_n 2, 1) := by decide +kernel
theorem dX13_decrease_3 : decode cX13_decrease 3 = .ok (.invokevirtual 238, 3) := by decide +kernel
theorem dX13_decrease_6 : decode cX13_decrease 6 = .ok (.ifCond .eq 7, 3) := by decide +kernel
theorem dX13_decrease_9 : decode cX13_decrease 9 = .ok (.iconst 1, 1) := by decide +kernel
theorem dX13_decrease_10 : decode cX13_decrease 10 = .ok (.goto 4, 3) := by decide +kernel
theorem dX13_decrease_13 : decode cX13_decrease 13 = .ok (.iconst 0, 1) := by decide +kernel
theorem dX13_decrease_14 : decode cX13_decrease 14 = .ok (.istore_n 3, 1) := by decide +kernel
theorem dX13_decrease_15 : decode cX13_decrease 15 = .ok (.aload_n 0, 1) := by decide +kernel
theorem dX13_decrease_16 : decode cX13_decrease 16 = .ok (.iload_n 1, 1) := by decide +kernel
theorem dX13_decrease_17 : decode cX13_decrease 17 = .ok (.iload_n 2, 1) := by decide +kernel
theorem dX13_decrease_18 : decode cX13_decrease 18 = .ok (.iconst (-1), 1) := by decide +kernel
theorem dX13_decrease_19 : decode cX13_decrease 19 = .ok (.invokevirtual 234, 3) := by decide +kernel
theorem dX13_decrease_22 : decode cX13_decrease 22 = .ok (.iload_n 3, 1) := by decide +kernel
theorem dX13_decrease_23 : decode cX13_decrease 23 = .ok (.ireturn, 1) := by decide +kernel
theorem dX13_holds_0 : decode cX13_holds 0 = .ok (.iload_n 2, 1) := by decide +kernel
theorem dX13_holds_1 : decode cX13_holds 1 = .ok (.tableswitch 132 0 6 #[43, 45, 60, 75, 82, 89, 110], 43) := by decide +kernel
theorem dX13_holds_44 : decode cX13_holds 44 = .ok (.iconst 1, 1) := by decide +kernel
theorem dX13_holds_45 : decode cX13_holds 45 = .ok (.ireturn, 1) := by decide +kernel
theorem dX13_holds_46 : decode cX13_holds 46 = .ok (.aload_n 0, 1) := by decide +kernel
theorem dX13_holds_47 : decode cX13_holds 47 = .ok (.iload_n 1, 1) := by decide +kernel
theorem dX13_holds_48 : decode cX13_holds 48 = .ok (.iconst 2, 1) := by decide +kernel
theorem dX13_holds_49 : decode cX13_holds 49 = .ok (.invokevirtual 238, 3) := by decide +kernel
theorem dX13_holds_52 : decode cX13_holds 52 = .ok (.ifCond .ne 7, 3) := by decide +kernel
theorem dX13_holds_55 : decode cX13_holds 55 = .ok (.iconst 1, 1) := by decide +kernel
theorem dX13_holds_56 : decode cX13_holds 56 = .ok (.goto 4, 3) := by decide +kernel
theorem dX13_holds_59 : decode cX13_holds 59 = .ok (.iconst 0, 1) := by decide +kernel
theorem dX13_holds_60 : decode cX13_holds 60 = .ok (.ireturn, 1) := by decide +kernel
theorem dX13_holds_61 : decode cX13_holds 61 = .ok (.aload_n 0, 1) := by decide +kernel
theorem dX13_holds_62 : decode cX13_holds 62 = .ok (.iload_n 1, 1) := by decide +kernel
theorem dX13_holds_63 : decode cX13_holds 63 = .ok (.iconst 3, 1) := by decide +kernel
theorem dX13_holds_64 : decode cX13_holds 64 = .ok (.invokevirtual 238, 3) := by decide +kernel
theorem dX13_holds_67 : decode cX13_holds 67 = .ok (.ifCond .ne 7, 3) := by decide +kernel
theorem dX13_holds_70 : decode cX13_holds 70 = .ok (.iconst 1, 1) := by decide +kernel
theorem dX13_holds_71 : decode cX13_holds 71 = .ok (.goto 4, 3) := by decide +kernel
theorem dX13_holds_74 : decode cX13_holds 74 = .ok (.iconst 0, 1) := by decide +kernel
theorem dX13_holds_75 : decode cX13_holds 75 = .ok (.ireturn, 1) := by decide +kernel
theorem dX13_holds_76 : decode cX13_holds 76 = .ok (.aload_n 0, 1) := by decide +kernel
theorem dX13_holds_77 : decode cX13_holds 77 = .ok (.iload_n 1, 1) := by decide +kernel
theorem dX13_holds_78 : decode cX13_holds 78 = .ok (.iconst 2, 1) := by decide +kernel
theorem dX13_holds_79 : decode cX13_holds 79 = .ok (.invokevirtual 374, 3) := by decide +kernel
theorem dX13_holds_82 : decode cX13_holds 82 = .ok (.ireturn, 1) := by decide +kernel
theorem dX13_holds_83 : decode cX13_holds 83 = .ok (.aload_n 0, 1) := by decide +kernel
theorem dX13_holds_84 : decode cX13_holds 84 = .ok (.iload_n 1, 1) := by decide +kernel
theorem dX13_holds_85 : decode cX13_holds 85 = .ok (.iconst 3, 1) := by decide +kernel
theorem dX13_holds_86 : decode cX13_holds 86 = .ok (.invokevirtual 374, 3) := by decide +kernel
theorem dX13_holds_89 : decode cX13_holds 89 = .ok (.ireturn, 1) := by decide +kernel
theorem dX13_holds_90 : decode cX13_holds 90 = .ok (.aload_n 0, 1) := by decide +kernel
theorem dX13_holds_91 : decode cX13_holds 91 = .ok (.iload_n 1, 1) := by decide +kernel
theorem dX13_holds_92 : decode cX13_holds 92 = .ok (.iconst 2, 1) := by decide +kernel
theorem dX13_holds_93 : decode cX13_holds 93 = .ok (.invokevirtual 238, 3) := by decide +kernel
theorem dX13_holds_96 : decode cX13_holds 96 = .ok (.aload_n 0, 1) := by decide +kernel
theorem dX13_holds_97 : decode cX13_holds 97 = .ok (.iload_n 1, 1) := by decide +kernel
theorem dX13_holds_98 : decode cX13_holds 98 = .ok (.iconst 3, 1) := by decide +kernel
theorem dX13_holds_99 : decode cX13_holds 99 = .ok (.invokevirtual 238, 3) := by decide +kernel
theorem dX13_holds_102 : decode cX13_holds 102 = .ok (.if_icmp .eq 7, 3) := by decide +kernel
theorem dX13_holds_105 : decode cX13_holds 105 = .ok (.iconst 1, 1) := by decide +kernel
theorem dX13_holds_106 : decode cX13_holds 106 = .ok (.goto 4, 3) := by decide +kernel
theorem dX13_holds_109 : decode cX13_holds 109 = .ok (.iconst 0, 1) := by decide +kernel
theorem dX13_holds_110 : decode cX13_holds 110 = .ok (.ireturn, 1) := by decide +kernel
theorem dX13_holds_111 : decode cX13_holds 111 = .ok (.aload_n 0, 1) := by decide +kernel
theorem dX13_holds_112 : decode cX13_holds 112 = .ok (.getfield 25, 3) := by decide +kernel
theorem dX13_holds_115 : decode cX13_holds 115 = .ok (.aload_n 0, 1) := by decide +kernel
theorem dX13_holds_116 : decode cX13_holds 116 = .ok (.iload_n 1, 1) := by decide +kernel
theorem dX13_holds_117 : decode cX13_holds 117 = .ok (.bipush 12, 2) := by decide +kernel
theorem dX13_holds_119 : decode cX13_holds 119 = .ok (.invokevirtual 249, 3) := by decide +kernel
theorem dX13_holds_122 : decode cX13_holds 122 = .ok (.iaload, 1) := by decide +kernel
theorem dX13_holds_123 : decode cX13_holds 123 = .ok (.iconst 1, 1) := by decide +kernel
theorem dX13_holds_124 : decode cX13_holds 124 = .ok (.if_icmp .ne 7, 3) := by decide +kernel
theorem dX13_holds_127 : decode cX13_holds 127 = .ok (.iconst 1, 1) := by decide +kernel
theorem dX13_holds_128 : decode cX13_holds 128 = .ok (.goto 4, 3) := by decide +kernel
theorem dX13_holds_131 : decode cX13_holds 131 = .ok (.iconst 0, 1) := by decide +kernel
theorem dX13_holds_132 : decode cX13_holds 132 = .ok (.ireturn, 1) := by decide +kernel
theorem dX13_holds_133 : decode cX13_holds 133 = .ok (.aload_n 0, 1) := by decide +kernel
theorem dX13_holds_134 : decode cX13_holds 134 = .ok (.iload_n 1, 1) := by decide +kernel
theorem dX13_holds_135 : decode cX13_holds 135 = .ok (.bipush 7, 2) := by decide +kernel
theorem dX13_holds_137 : decode cX13_holds 137 = .ok (.invokevirtual 238, 3) := by decide +kernel
theorem dX13_holds_140 : decode cX13_holds 140 = .ok (.aload_n 0, 1) := by decide +kernel
theorem dX13_holds_141 : decode cX13_holds 141 = .ok (.iload_n 1, 1) := by decide +kernel
theorem dX13_holds_142 : decode cX13_holds 142 = .ok (.bipush 17, 2) := by decide +kernel
theorem dX13_holds_144 : decode cX13_holds 144 = .ok (.invokevirtual 249, 3) := by decide +kernel
theorem dX13_holds_147 : decode cX13_holds 147 = .ok (.if_icmp .ge 7, 3) := by decide +kernel
theorem dX13_holds_150 : decode cX13_holds 150 = .ok (.iconst 1, 1) := by decide +kernel
theorem dX13_holds_151 : decode cX13_holds 151 = .ok (.goto 4, 3) := by decide +kernel
theorem dX13_holds_154 : decode cX13_holds 154 = .ok (.iconst 0, 1) := by decide +kernel
theorem dX13_holds_155 : decode cX13_holds 155 = .ok (.ireturn, 1) := by decide +kernel
theorem dX13_jump_0 : decode cX13_jump 0 = .ok (.aload_n 0, 1) := by decide +kernel
theorem dX13_jump_1 : decode cX13_jump 1 = .ok (.aload_n 0, 1) := by decide +kernel
theorem dX13_jump_2 : decode cX13_jump 2 = .ok (.iload_n 1, 1) := by decide +kernel
theorem dX13_jump_3 : decode cX13_jump 3 = .ok (.iload_n 2, 1) := by decide +kernel
theorem dX13_jump_4 : decode cX13_jump 4 = .ok (.invokevirtual 378, 3) := by decide +kernel
theorem dX13_jump_7 : decode cX13_jump 7 = .ok (.ifCond .eq 12, 3) := by decide +kernel
theorem dX13_jump_10 : decode cX13_jump 10 = .ok (.aload_n 0, 1) := by decide +kernel
theorem dX13_jump_11 : decode cX13_jump 11 = .ok (.iload_n 1, 1) := by decide +kernel
theorem dX13_jump_12 : decode cX13_jump 12 = .ok (.iconst 2, 1) := by decide +kernel
theorem dX13_jump_13 : decode cX13_jump 13 = .ok (.invokevirtual 293, 3) := by decide +kernel
theorem dX13_jump_16 : decode cX13_jump 16 = .ok (.goto 4, 3) := by decide +kernel
theorem dX13_jump_19 : decode cX13_jump 19 = .ok (.iconst (-1), 1) := by decide +kernel
theorem dX13_jump_20 : decode cX13_jump 20 = .ok (.putfield 332, 3) := by decide +kernel
theorem dX13_jump_23 : decode cX13_jump 23 = .ok (.iconst 0, 1) := by decide +kernel
theorem dX13_jump_24 : decode cX13_jump 24 = .ok (.ireturn, 1) := by decide +kernel
theorem dX13_waitFor_0 : decode cX13_waitFor 0 = .ok (.aload_n 0, 1) := by decide +kernel
theorem dX13_waitFor_1 : decode cX13_waitFor 1 = .ok (.iload_n 1, 1) := by decide +kernel
theorem dX13_waitFor_2 : decode cX13_waitFor 2 = .ok (.iconst 3, 1) := by decide +kernel
theorem dX13_waitFor_3 : decode cX13_waitFor 3 = .ok (.invokevirtual 293, 3) := by decide +kernel
theorem dX13_waitFor_6 : decode cX13_waitFor 6 = .ok (.istore_n 3, 1) := by decide +kernel
theorem dX13_waitFor_7 : decode cX13_waitFor 7 = .ok (.aload_n 0, 1) := by decide +kernel
theorem dX13_waitFor_8 : decode cX13_waitFor 8 = .ok (.iload_n 1, 1) := by decide +kernel
theorem dX13_waitFor_9 : decode cX13_waitFor 9 = .ok (.iconst 2, 1) := by decide +kernel
theorem dX13_waitFor_10 : decode cX13_waitFor 10 = .ok (.invokevirtual 293, 3) := by decide +kernel
theorem dX13_waitFor_13 : decode cX13_waitFor 13 = .ok (.iconst 1, 1) := by decide +kernel
theorem dX13_waitFor_14 : decode cX13_waitFor 14 = .ok (.if_icmp .ne 7, 3) := by decide +kernel
theorem dX13_waitFor_17 : decode cX13_waitFor 17 = .ok (.iconst 1, 1) := by decide +kernel
theorem dX13_waitFor_18 : decode cX13_waitFor 18 = .ok (.goto 4, 3) := by decide +kernel
theorem dX13_waitFor_21 : decode cX13_waitFor 21 = .ok (.iconst 0, 1) := by decide +kernel
theorem dX13_waitFor_22 : decode cX13_waitFor 22 = .ok (.istore 4, 2) := by decide +kernel
theorem dX13_waitFor_24 : decode cX13_waitFor 24 = .ok (.iload 4, 2) := by decide +kernel
theorem dX13_waitFor_26 : decode cX13_waitFor 26 = .ok (.ifCond .eq 12, 3) := by decide +kernel
theorem dX13_waitFor_29 : decode cX13_waitFor 29 = .ok (.aload_n 0, 1) := by decide +kernel
theorem dX13_waitFor_30 : decode cX13_waitFor 30 = .ok (.getfield 28, 3) := by decide +kernel
theorem dX13_waitFor_33 : decode cX13_waitFor 33 = .ok (.iload_n 3, 1) := by decide +kernel
theorem dX13_waitFor_34 : decode cX13_waitFor 34 = .ok (.iaload, 1) := by decide +kernel
theorem dX13_waitFor_35 : decode cX13_waitFor 35 = .ok (.goto 20, 3) := by decide +kernel
theorem dX13_waitFor_38 : decode cX13_waitFor 38 = .ok (.aload_n 0, 1) := by decide +kernel
theorem dX13_waitFor_39 : decode cX13_waitFor 39 = .ok (.getfield 25, 3) := by decide +kernel
theorem dX13_waitFor_42 : decode cX13_waitFor 42 = .ok (.aload_n 0, 1) := by decide +kernel
theorem dX13_waitFor_43 : decode cX13_waitFor 43 = .ok (.iload_n 1, 1) := by decide +kernel
theorem dX13_waitFor_44 : decode cX13_waitFor 44 = .ok (.bipush 11, 2) := by decide +kernel
theorem dX13_waitFor_46 : decode cX13_waitFor 46 = .ok (.invokevirtual 249, 3) := by decide +kernel
theorem dX13_waitFor_49 : decode cX13_waitFor 49 = .ok (.iload_n 3, 1) := by decide +kernel
theorem dX13_waitFor_50 : decode cX13_waitFor 50 = .ok (.iadd, 1) := by decide +kernel
theorem dX13_waitFor_51 : decode cX13_waitFor 51 = .ok (.bipush 16, 2) := by decide +kernel
theorem dX13_waitFor_53 : decode cX13_waitFor 53 = .ok (.irem, 1) := by decide +kernel
theorem dX13_waitFor_54 : decode cX13_waitFor 54 = .ok (.iaload, 1) := by decide +kernel
theorem dX13_waitFor_55 : decode cX13_waitFor 55 = .ok (.istore 5, 2) := by decide +kernel
theorem dX13_waitFor_57 : decode cX13_waitFor 57 = .ok (.iload 5, 2) := by decide +kernel
theorem dX13_waitFor_59 : decode cX13_waitFor 59 = .ok (.iload_n 2, 1) := by decide +kernel
theorem dX13_waitFor_60 : decode cX13_waitFor 60 = .ok (.if_icmp .eq 5, 3) := by decide +kernel
theorem dX13_waitFor_63 : decode cX13_waitFor 63 = .ok (.iconst 1, 1) := by decide +kernel
theorem dX13_waitFor_64 : decode cX13_waitFor 64 = .ok (.ireturn, 1) := by decide +kernel
theorem dX13_waitFor_65 : decode cX13_waitFor 65 = .ok (.aload_n 0, 1) := by decide +kernel
theorem dX13_waitFor_66 : decode cX13_waitFor 66 = .ok (.dup, 1) := by decide +kernel
theorem dX13_waitFor_67 : decode cX13_waitFor 67 = .ok (.getfield 290, 3) := by decide +kernel
theorem dX13_waitFor_70 : decode cX13_waitFor 70 = .ok (.iload 4, 2) := by decide +kernel
theorem dX13_waitFor_72 : decode cX13_waitFor 72 = .ok (.ifCond .eq 14, 3) := by decide +kernel
theorem dX13_waitFor_75 : decode cX13_waitFor 75 = .ok (.iload_n 2, 1) := by decide +kernel
theorem dX13_waitFor_76 : decode cX13_waitFor 76 = .ok (.iconst 1, 1) := by decide +kernel
theorem dX13_waitFor_77 : decode cX13_waitFor 77 = .ok (.if_icmp .ne 9, 3) := by decide +kernel
theorem dX13_waitFor_80 : decode cX13_waitFor 80 = .ok (.iconst 1, 1) := by decide +kernel
theorem dX13_waitFor_81 : decode cX13_waitFor 81 = .ok (.iload_n 3, 1) := by decide +kernel
theorem dX13_waitFor_82 : decode cX13_waitFor 82 = .ok (.ishl, 1) := by decide +kernel
theorem dX13_waitFor_83 : decode cX13_waitFor 83 = .ok (.goto 4, 3) := by decide +kernel
theorem dX13_waitFor_86 : decode cX13_waitFor 86 = .ok (.iconst 0, 1) := by decide +kernel
theorem dX13_waitFor_87 : decode cX13_waitFor 87 = .ok (.ior, 1) := by decide +kernel
theorem dX13_waitFor_88 : decode cX13_waitFor 88 = .ok (.putfield 290, 3) := by decide +kernel
theorem dX13_waitFor_91 : decode cX13_waitFor 91 = .ok (.iconst 0, 1) := by decide +kernel
theorem dX13_waitFor_92 : decode cX13_waitFor 92 = .ok (.ireturn, 1) := by decide +kernel
theorem dX13_signal_0 : decode cX13_signal 0 = .ok (.aload_n 0, 1) := by decide +kernel
theorem dX13_signal_1 : decode cX13_signal 1 = .ok (.iload_n 1, 1) := by decide +kernel
theorem dX13_signal_2 : decode cX13_signal 2 = .ok (.bipush 9, 2) := by decide +kernel
theorem dX13_signal_4 : decode cX13_signal 4 = .ok (.invokevirtual 238, 3) := by decide +kernel
theorem dX13_signal_7 : decode cX13_signal 7 = .ok (.ifCond .ne 17, 3) := by decide +kernel
theorem dX13_signal_10 : decode cX13_signal 10 = .ok (.aload_n 0, 1) := by decide +kernel
theorem dX13_signal_11 : decode cX13_signal 11 = .ok (.dup, 1) := by decide +kernel
theorem dX13_signal_12 : decode cX13_signal 12 = .ok (.getfield 287, 3) := by decide +kernel
theorem dX13_signal_15 : decode cX13_signal 15 = .ok (.iconst 1, 1) := by decide +kernel
theorem dX13_signal_16 : decode cX13_signal 16 = .ok (.iload_n 2, 1) := by decide +kernel
theorem dX13_signal_17 : decode cX13_signal 17 = .ok (.ishl, 1) := by decide +kernel
theorem dX13_signal_18 : decode cX13_signal 18 = .ok (.ior, 1) := by decide +kernel
theorem dX13_signal_19 : decode cX13_signal 19 = .ok (.putfield 287, 3) := by decide +kernel
theorem dX13_signal_22 : decode cX13_signal 22 = .ok (.iconst 5, 1) := by decide +kernel
theorem dX13_signal_23 : decode cX13_signal 23 = .ok (.ireturn, 1) := by decide +kernel
theorem dX13_signal_24 : decode cX13_signal 24 = .ok (.aload_n 0, 1) := by decide +kernel
theorem dX13_signal_25 : decode cX13_signal 25 = .ok (.getfield 28, 3) := by decide +kernel
theorem dX13_signal_28 : decode cX13_signal 28 = .ok (.iload_n 2, 1) := by decide +kernel
theorem dX13_signal_29 : decode cX13_signal 29 = .ok (.iaload, 1) := by decide +kernel
theorem dX13_signal_30 : decode cX13_signal 30 = .ok (.ifCond .ne 7, 3) := by decide +kernel
theorem dX13_signal_33 : decode cX13_signal 33 = .ok (.iconst 0, 1) := by decide +kernel
theorem dX13_signal_34 : decode cX13_signal 34 = .ok (.goto 4, 3) := by decide +kernel
theorem dX13_signal_37 : decode cX13_signal 37 = .ok (.iconst 5, 1) := by decide +kernel
theorem dX13_signal_38 : decode cX13_signal 38 = .ok (.ireturn, 1) := by decide +kernel
theorem dX13_pinValue_0 : decode cX13_pinValue 0 = .ok (.iconst 0, 1) := by decide +kernel
theorem dX13_pinValue_1 : decode cX13_pinValue 1 = .ok (.istore_n 2, 1) := by decide +kernel
theorem dX13_pinValue_2 : decode cX13_pinValue 2 = .ok (.iconst 0, 1) := by decide +kernel
theorem dX13_pinValue_3 : decode cX13_pinValue 3 = .ok (.istore_n 3, 1) := by decide +kernel
theorem dX13_pinValue_4 : decode cX13_pinValue 4 = .ok (.iload_n 3, 1) := by decide +kernel
theorem dX13_pinValue_5 : decode cX13_pinValue 5 = .ok (.bipush 16, 2) := by decide +kernel
theorem dX13_pinValue_7 : decode cX13_pinValue 7 = .ok (.if_icmp .ge 31, 3) := by decide +kernel
theorem dX13_pinValue_10 : decode cX13_pinValue 10 = .ok (.iload_n 2, 1) := by decide +kernel
theorem dX13_pinValue_11 : decode cX13_pinValue 11 = .ok (.aload_n 0, 1) := by decide +kernel
theorem dX13_pinValue_12 : decode cX13_pinValue 12 = .ok (.getfield 25, 3) := by decide +kernel
theorem dX13_pinValue_15 : decode cX13_pinValue 15 = .ok (.aload_n 0, 1) := by decide +kernel
theorem dX13_pinValue_16 : decode cX13_pinValue 16 = .ok (.iload_n 1, 1) := by decide +kernel
theorem dX13_pinValue_17 : decode cX13_pinValue 17 = .ok (.bipush 11, 2) := by decide +kernel
theorem dX13_pinValue_19 : decode cX13_pinValue 19 = .ok (.invokevirtual 249, 3) := by decide +kernel
theorem dX13_pinValue_22 : decode cX13_pinValue 22 = .ok (.iload_n 3, 1) := by decide +kernel
theorem dX13_pinValue_23 : decode cX13_pinValue 23 = .ok (.iadd, 1) := by decide +kernel
theorem dX13_pinValue_24 : decode cX13_pinValue 24 = .ok (.bipush 16, 2) := by decide +kernel
theorem dX13_pinValue_26 : decode cX13_pinValue 26 = .ok (.irem, 1) := by decide +kernel
theorem dX13_pinValue_27 : decode cX13_pinValue 27 = .ok (.iaload, 1) := by decide +kernel
theorem dX13_pinValue_28 : decode cX13_pinValue 28 = .ok (.iload_n 3, 1) := by decide +kernel
theorem dX13_pinValue_29 : decode cX13_pinValue 29 = .ok (.ishl, 1) := by decide +kernel
theorem dX13_pinValue_30 : decode cX13_pinValue 30 = .ok (.ior, 1) := by decide +kernel
theorem dX13_pinValue_31 : decode cX13_pinValue 31 = .ok (.istore_n 2, 1) := by decide +kernel
theorem dX13_pinValue_32 : decode cX13_pinValue 32 = .ok (.iinc 3 1, 3) := by decide +kernel
theorem dX13_pinValue_35 : decode cX13_pinValue 35 = .ok (.goto (-31), 3) := by decide +kernel
theorem dX13_pinValue_38 : decode cX13_pinValue 38 = .ok (.iload_n 2, 1) := by decide +kernel
theorem dX13_pinValue_39 : decode cX13_pinValue 39 = .ok (.ireturn, 1) := by decide +kernel
theorem dX13_source_0 : decode cX13_source 0 = .ok (.iload_n 2, 1) := by decide +kernel
theorem dX13_source_1 : decode cX13_source 1 = .ok (.tableswitch 93 0 6 #[43, 49, 56, 93, 63, 70, 77], 43) := by decide +kernel
theorem dX13_source_44 : decode cX13_source 44 = .ok (.aload_n 0, 1) := by decide +kernel
theorem dX13_source_45 : decode cX13_source 45 = .ok (.iload_n 1, 1) := by decide +kernel
theorem dX13_source_46 : decode cX13_source 46 = .ok (.invokevirtual 381, 3) := by decide +kernel
theorem dX13_source_49 : decode cX13_source 49 = .ok (.ireturn, 1) := by decide +kernel
theorem dX13_source_50 : decode cX13_source 50 = .ok (.aload_n 0, 1) := by decide +kernel
theorem dX13_source_51 : decode cX13_source 51 = .ok (.iload_n 1, 1) := by decide +kernel
theorem dX13_source_52 : decode cX13_source 52 = .ok (.iconst 2, 1) := by decide +kernel
theorem dX13_source_53 : decode cX13_source 53 = .ok (.invokevirtual 238, 3) := by decide +kernel
theorem dX13_source_56 : decode cX13_source 56 = .ok (.ireturn, 1) := by decide +kernel
theorem dX13_source_57 : decode cX13_source 57 = .ok (.aload_n 0, 1) := by decide +kernel
theorem dX13_source_58 : decode cX13_source 58 = .ok (.iload_n 1, 1) := by decide +kernel
theorem dX13_source_59 : decode cX13_source 59 = .ok (.iconst 3, 1) := by decide +kernel
theorem dX13_source_60 : decode cX13_source 60 = .ok (.invokevirtual 238, 3) := by decide +kernel
theorem dX13_source_63 : decode cX13_source 63 = .ok (.ireturn, 1) := by decide +kernel
theorem dX13_source_64 : decode cX13_source 64 = .ok (.aload_n 0, 1) := by decide +kernel
theorem dX13_source_65 : decode cX13_source 65 = .ok (.iload_n 1, 1) := by decide +kernel
theorem dX13_source_66 : decode cX13_source 66 = .ok (.iconst 4, 1) := by decide +kernel
theorem dX13_source_67 : decode cX13_source 67 = .ok (.invokevirtual 238, 3) := by decide +kernel
theorem dX13_source_70 : decode cX13_source 70 = .ok (.ireturn, 1) := by decide +kernel
theorem dX13_source_71 : decode cX13_source 71 = .ok (.aload_n 0, 1) := by decide +kernel
theorem dX13_source_72 : decode cX13_source 72 = .ok (.iload_n 1, 1) := by decide +kernel
theorem dX13_source_73 : decode cX13_source 73 = .ok (.iconst 5, 1) := by decide +kernel
theorem dX13_source_74 : decode cX13_source 74 = .ok (.invokevirtual 238, 3) := by decide +kernel
theorem dX13_source_77 : decode cX13_source 77 = .ok (.ireturn, 1) := by decide +kernel
theorem dX13_source_78 : decode cX13_source 78 = .ok (.aload_n 0, 1) := by decide +kernel
theorem dX13_source_79 : decode cX13_source 79 = .ok (.iload_n 1, 1) := by decide +kernel
theorem dX13_source_80 : decode cX13_source 80 = .ok (.bipush 11, 2) := by decide +kernel
theorem dX13_source_82 : decode cX13_source 82 = .ok (.invokevirtual 238, 3) := by decide +kernel
theorem dX13_source_85 : decode cX13_source 85 = .ok (.ifCond .ne 7, 3) := by decide +kernel
theorem dX13_source_88 : decode cX13_source 88 = .ok (.iconst (-1), 1) := by decide +kernel
theorem dX13_source_89 : decode cX13_source 89 = .ok (.goto 4, 3) := by decide +kernel
theorem dX13_source_92 : decode cX13_source 92 = .ok (.iconst 0, 1) := by decide +kernel
theorem dX13_source_93 : decode cX13_source 93 = .ok (.ireturn, 1) := by decide +kernel
theorem dX13_source_94 : decode cX13_source 94 = .ok (.iconst 0, 1) := by decide +kernel
theorem dX13_source_95 : decode cX13_source 95 = .ok (.ireturn, 1) := by decide +kernel
theorem dX13_lowest_0 : decode cX13_lowest 0 = .ok (.iload_n 1, 1) := by decide +kernel
theorem dX13_lowest_1 : decode cX13_lowest 1 = .ok (.bipush 32, 2) := by decide +kernel
theorem dX13_lowest_3 : decode cX13_lowest 3 = .ok (.if_icmp .ne 7, 3) := by decide +kernel
theorem dX13_lowest_6 : decode cX13_lowest 6 = .ok (.iload_n 0, 1) := by decide +kernel
theorem dX13_lowest_7 : decode cX13_lowest 7 = .ok (.goto 10, 3) := by decide +kernel
theorem dX13_lowest_10 : decode cX13_lowest 10 = .ok (.iload_n 0, 1) := by decide +kernel
theorem dX13_lowest_11 : decode cX13_lowest 11 = .ok (.iconst 1, 1) := by decide +kernel
theorem dX13_lowest_12 : decode cX13_lowest 12 = .ok (.iload_n 1, 1) := by decide +kernel
theorem dX13_lowest_13 : decode cX13_lowest 13 = .ok (.ishl, 1) := by decide +kernel
theorem dX13_lowest_14 : decode cX13_lowest 14 = .ok (.iconst 1, 1) := by decide +kernel
theorem dX13_lowest_15 : decode cX13_lowest 15 = .ok (.isub, 1) := by decide +kernel
theorem dX13_lowest_16 : decode cX13_lowest 16 = .ok (.iand, 1) := by decide +kernel
theorem dX13_lowest_17 : decode cX13_lowest 17 = .ok (.ireturn, 1) := by decide +kernel
theorem dX13_shiftIn_0 : decode cX13_shiftIn 0 = .ok (.aload_n 0, 1) := by decide +kernel
theorem dX13_shiftIn_1 : decode cX13_shiftIn 1 = .ok (.iload_n 1, 1) := by decide +kernel
theorem dX13_shiftIn_2 : decode cX13_shiftIn 2 = .ok (.iconst 4, 1) := by decide +kernel
theorem dX13_shiftIn_3 : decode cX13_shiftIn 3 = .ok (.invokevirtual 238, 3) := by decide +kernel
theorem dX13_shiftIn_6 : decode cX13_shiftIn 6 = .ok (.istore 4, 2) := by decide +kernel
theorem dX13_shiftIn_8 : decode cX13_shiftIn 8 = .ok (.aload_n 0, 1) := by decide +kernel
theorem dX13_shiftIn_9 : decode cX13_shiftIn 9 = .ok (.iload_n 1, 1) := by decide +kernel
theorem dX13_shiftIn_10 : decode cX13_shiftIn 10 = .ok (.bipush 13, 2) := by decide +kernel
theorem dX13_shiftIn_12 : decode cX13_shiftIn 12 = .ok (.invokevirtual 249, 3) := by decide +kernel
theorem dX13_shiftIn_15 : decode cX13_shiftIn 15 = .ok (.iconst 1, 1) := by decide +kernel
theorem dX13_shiftIn_16 : decode cX13_shiftIn 16 = .ok (.if_icmp .ne 7, 3) := by decide +kernel
theorem dX13_shiftIn_19 : decode cX13_shiftIn 19 = .ok (.iconst 1, 1) := by decide +kernel
theorem dX13_shiftIn_20 : decode cX13_shiftIn 20 = .ok (.goto 4, 3) := by decide +kernel
theorem dX13_shiftIn_23 : decode cX13_shiftIn 23 = .ok (.iconst 0, 1) := by decide +kernel
theorem dX13_shiftIn_24 : decode cX13_shiftIn 24 = .ok (.istore 5, 2) := by decide +kernel
theorem dX13_shiftIn_26 : decode cX13_shiftIn 26 = .ok (.iload_n 2, 1) := by decide +kernel
theorem dX13_shiftIn_27 : decode cX13_shiftIn 27 = .ok (.iload_n 3, 1) := by decide +kernel
theorem dX13_shiftIn_28 : decode cX13_shiftIn 28 = .ok (.invokestatic 384, 3) := by decide +kernel
theorem dX13_shiftIn_31 : decode cX13_shiftIn 31 = .ok (.istore 6, 2) := by decide +kernel
theorem dX13_shiftIn_33 : decode cX13_shiftIn 33 = .ok (.iload_n 3, 1) := by decide +kernel
theorem dX13_shiftIn_34 : decode cX13_shiftIn 34 = .ok (.bipush 32, 2) := by decide +kernel
theorem dX13_shiftIn_36 : decode cX13_shiftIn 36 = .ok (.if_icmp .ne 7, 3) := by decide +kernel
theorem dX13_shiftIn_39 : decode cX13_shiftIn 39 = .ok (.iload_n 2, 1) := by decide +kernel
theorem dX13_shiftIn_40 : decode cX13_shiftIn 40 = .ok (.goto 30, 3) := by decide +kernel
theorem dX13_shiftIn_43 : decode cX13_shiftIn 43 = .ok (.iload 5, 2) := by decide +kernel
theorem dX13_shiftIn_45 : decode cX13_shiftIn 45 = .ok (.ifCond .eq 13, 3) := by decide +kernel
theorem dX13_shiftIn_48 : decode cX13_shiftIn 48 = .ok (.iload 4, 2) := by decide +kernel
theorem dX13_shiftIn_50 : decode cX13_shiftIn 50 = .ok (.iload_n 3, 1) := by decide +kernel
theorem dX13_shiftIn_51 : decode cX13_shiftIn 51 = .ok (.ishl, 1) := by decide +kernel
theorem dX13_shiftIn_52 : decode cX13_shiftIn 52 = .ok (.iload 6, 2) := by decide +kernel
theorem dX13_shiftIn_54 : decode cX13_shiftIn 54 = .ok (.ior, 1) := by decide +kernel
theorem dX13_shiftIn_55 : decode cX13_shiftIn 55 = .ok (.goto 15, 3) := by decide +kernel
theorem dX13_shiftIn_58 : decode cX13_shiftIn 58 = .ok (.iload 4, 2) := by decide +kernel
theorem dX13_shiftIn_60 : decode cX13_shiftIn 60 = .ok (.iload_n 3, 1) := by decide +kernel
theorem dX13_shiftIn_61 : decode cX13_shiftIn 61 = .ok (.iushr, 1) := by decide +kernel
theorem dX13_shiftIn_62 : decode cX13_shiftIn 62 = .ok (.iload 6, 2) := by decide +kernel
theorem dX13_shiftIn_64 : decode cX13_shiftIn 64 = .ok (.bipush 32, 2) := by decide +kernel
theorem dX13_shiftIn_66 : decode cX13_shiftIn 66 = .ok (.iload_n 3, 1) := by decide +kernel
theorem dX13_shiftIn_67 : decode cX13_shiftIn 67 = .ok (.isub, 1) := by decide +kernel
theorem dX13_shiftIn_68 : decode cX13_shiftIn 68 = .ok (.ishl, 1) := by decide +kernel
theorem dX13_shiftIn_69 : decode cX13_shiftIn 69 = .ok (.ior, 1) := by decide +kernel
theorem dX13_shiftIn_70 : decode cX13_shiftIn 70 = .ok (.istore 7, 2) := by decide +kernel
theorem dX13_shiftIn_72 : decode cX13_shiftIn 72 = .ok (.bipush 32, 2) := by decide +kernel
theorem dX13_shiftIn_74 : decode cX13_shiftIn 74 = .ok (.aload_n 0, 1) := by decide +kernel
theorem dX13_shiftIn_75 : decode cX13_shiftIn 75 = .ok (.iload_n 1, 1) := by decide +kernel
theorem dX13_shiftIn_76 : decode cX13_shiftIn 76 = .ok (.bipush 6, 2) := by decide +kernel
theorem dX13_shiftIn_78 : decode cX13_shiftIn 78 = .ok (.invokevirtual 238, 3) := by decide +kernel
theorem dX13_shiftIn_81 : decode cX13_shiftIn 81 = .ok (.iload_n 3, 1) := by decide +kernel
theorem dX13_shiftIn_82 : decode cX13_shiftIn 82 = .ok (.iadd, 1) := by decide +kernel
theorem dX13_shiftIn_83 : decode cX13_shiftIn 83 = .ok (.invokestatic 387, 3) := by decide +kernel
theorem dX13_shiftIn_86 : decode cX13_shiftIn 86 = .ok (.istore 8, 2) := by decide +kernel
theorem dX13_shiftIn_88 : decode cX13_shiftIn 88 = .ok (.aload_n 0, 1) := by decide +kernel
theorem dX13_shiftIn_89 : decode cX13_shiftIn 89 = .ok (.iload_n 1, 1) := by decide +kernel
theorem dX13_shiftIn_90 : decode cX13_shiftIn 90 = .ok (.bipush 16, 2) := by decide +kernel
theorem dX13_shiftIn_92 : decode cX13_shiftIn 92 = .ok (.invokevirtual 249, 3) := by decide +kernel
theorem dX13_shiftIn_95 : decode cX13_shiftIn 95 = .ok (.iconst 1, 1) := by decide +kernel
theorem dX13_shiftIn_96 : decode cX13_shiftIn 96 = .ok (.if_icmp .ne 19, 3) := by decide +kernel
theorem dX13_shiftIn_99 : decode cX13_shiftIn 99 = .ok (.iload 8, 2) := by decide +kernel
theorem dX13_shiftIn_101 : decode cX13_shiftIn 101 = .ok (.aload_n 0, 1) := by decide +kernel
theorem dX13_shiftIn_102 : decode cX13_shiftIn 102 = .ok (.iload_n 1, 1) := by decide +kernel
theorem dX13_shiftIn_103 : decode cX13_shiftIn 103 = .ok (.bipush 15, 2) := by decide +kernel
theorem dX13_shiftIn_105 : decode cX13_shiftIn 105 = .ok (.invokevirtual 249, 3) := by decide +kernel
theorem dX13_shiftIn_108 : decode cX13_shiftIn 108 = .ok (.if_icmp .lt 7, 3) := by decide +kernel
theorem dX13_shiftIn_111 : decode cX13_shiftIn 111 = .ok (.iconst 1, 1) := by decide +kernel
theorem dX13_shiftIn_112 : decode cX13_shiftIn 112 = .ok (.goto 4, 3) := by decide +kernel
theorem dX13_shiftIn_115 : decode cX13_shiftIn 115 = .ok (.iconst 0, 1) := by decide +kernel
theorem dX13_shiftIn_116 : decode cX13_shiftIn 116 = .ok (.istore 9, 2) := by decide +kernel
theorem dX13_shiftIn_118 : decode cX13_shiftIn 118 = .ok (.iload 9, 2) := by decide +kernel
theorem dX13_shiftIn_120 : decode cX13_shiftIn 120 = .ok (.ifCond .eq 14, 3) := by decide +kernel
theorem dX13_shiftIn_123 : decode cX13_shiftIn 123 = .ok (.aload_n 0, 1) := by decide +kernel
theorem dX13_shiftIn_124 : decode cX13_shiftIn 124 = .ok (.iload_n 1, 1) := by decide +kernel
theorem dX13_shiftIn_125 : decode cX13_shiftIn 125 = .ok (.iconst 1, 1) := by decide +kernel
theorem dX13_shiftIn_126 : decode cX13_shiftIn 126 = .ok (.invokevirtual 392, 3) := by decide +kernel
theorem dX13_shiftIn_129 : decode cX13_shiftIn 129 = .ok (.ifCond .eq 5, 3) := by decide +kernel
theorem dX13_shiftIn_132 : decode cX13_shiftIn 132 = .ok (.iconst 3, 1) := by decide +kernel
theorem dX13_shiftIn_133 : decode cX13_shiftIn 133 = .ok (.ireturn, 1) := by decide +kernel
theorem dX13_shiftIn_134 : decode cX13_shiftIn 134 = .ok (.aload_n 0, 1) := by decide +kernel
theorem dX13_shiftIn_135 : decode cX13_shiftIn 135 = .ok (.iload_n 1, 1) := by decide +kernel
theorem dX13_shiftIn_136 : decode cX13_shiftIn 136 = .ok (.iconst 4, 1) := by decide +kernel
theorem dX13_shiftIn_137 : decode cX13_shiftIn 137 = .ok (.iload 7, 2) := by decide +kernel
theorem dX13_shiftIn_139 : decode cX13_shiftIn 139 = .ok (.invokevirtual 282, 3) := by decide +kernel
theorem dX13_shiftIn_142 : decode cX13_shiftIn 142 = .ok (.aload_n 0, 1) := by decide +kernel
theorem dX13_shiftIn_143 : decode cX13_shiftIn 143 = .ok (.iload_n 1, 1) := by decide +kernel
theorem dX13_shiftIn_144 : decode cX13_shiftIn 144 = .ok (.bipush 6, 2) := by decide +kernel
theorem dX13_shiftIn_146 : decode cX13_shiftIn 146 = .ok (.iload 8, 2) := by decide +kernel
theorem dX13_shiftIn_148 : decode cX13_shiftIn 148 = .ok (.invokevirtual 282, 3) := by decide +kernel
theorem dX13_shiftIn_151 : decode cX13_shiftIn 151 = .ok (.iload 9, 2) := by decide +kernel
theorem dX13_shiftIn_153 : decode cX13_shiftIn 153 = .ok (.ifCond .eq 8, 3) := by decide +kernel
theorem dX13_shiftIn_156 : decode cX13_shiftIn 156 = .ok (.aload_n 0, 1) := by decide +kernel
theorem dX13_shiftIn_157 : decode cX13_shiftIn 157 = .ok (.iload_n 1, 1) := by decide +kernel
theorem dX13_shiftIn_158 : decode cX13_shiftIn 158 = .ok (.invokevirtual 396, 3) := by decide +kernel
theorem dX13_shiftIn_161 : decode cX13_shiftIn 161 = .ok (.iconst 0, 1) := by decide +kernel
theorem dX13_shiftIn_162 : decode cX13_shiftIn 162 = .ok (.ireturn, 1) := by decide +kernel
theorem dX13_appendShifted_0 : decode cX13_appendShifted 0 = .ok (.aload_n 0, 1) := by decide +kernel
theorem dX13_appendShifted_1 : decode cX13_appendShifted 1 = .ok (.iload_n 1, 1) := by decide +kernel
theorem dX13_appendShifted_2 : decode cX13_appendShifted 2 = .ok (.iconst 1, 1) := by decide +kernel
theorem dX13_appendShifted_3 : decode cX13_appendShifted 3 = .ok (.aload_n 0, 1) := by decide +kernel
theorem dX13_appendShifted_4 : decode cX13_appendShifted 4 = .ok (.iload_n 1, 1) := by decide +kernel
theorem dX13_appendShifted_5 : decode cX13_appendShifted 5 = .ok (.iconst 4, 1) := by decide +kernel
theorem dX13_appendShifted_6 : decode cX13_appendShifted 6 = .ok (.invokevirtual 238, 3) := by decide +kernel
theorem dX13_appendShifted_9 : decode cX13_appendShifted 9 = .ok (.invokevirtual 399, 3) := by decide +kernel
theorem dX13_appendShifted_12 : decode cX13_appendShifted 12 = .ok (.aload_n 0, 1) := by decide +kernel
theorem dX13_appendShifted_13 : decode cX13_appendShifted 13 = .ok (.iload_n 1, 1) := by decide +kernel
theorem dX13_appendShifted_14 : decode cX13_appendShifted 14 = .ok (.iconst 3, 1) := by decide +kernel
theorem dX13_appendShifted_15 : decode cX13_appendShifted 15 = .ok (.invokevirtual 328, 3) := by decide +kernel
theorem dX13_appendShifted_18 : decode cX13_appendShifted 18 = .ok (.aload_n 0, 1) := by decide +kernel
theorem dX13_appendShifted_19 : decode cX13_appendShifted 19 = .ok (.iload_n 1, 1) := by decide +kernel
theorem dX13_appendShifted_20 : decode cX13_appendShifted 20 = .ok (.invokevirtual 403, 3) := by decide +kernel
theorem dX13_appendShifted_23 : decode cX13_appendShifted 23 = .ok (.return_, 1) := by decide +kernel
theorem dX13_emptyShifted_0 : decode cX13_emptyShifted 0 = .ok (.aload_n 0, 1) := by decide +kernel
theorem dX13_emptyShifted_1 : decode cX13_emptyShifted 1 = .ok (.iload_n 1, 1) := by decide +kernel
theorem dX13_emptyShifted_2 : decode cX13_emptyShifted 2 = .ok (.iconst 4, 1) := by decide +kernel
theorem dX13_emptyShifted_3 : decode cX13_emptyShifted 3 = .ok (.iconst 0, 1) := by decide +kernel
theorem dX13_emptyShifted_4 : decode cX13_emptyShifted 4 = .ok (.invokevirtual 282, 3) := by decide +kernel
theorem dX13_emptyShifted_7 : decode cX13_emptyShifted 7 = .ok (.aload_n 0, 1) := by decide +kernel
theorem dX13_emptyShifted_8 : decode cX13_emptyShifted 8 = .ok (.iload_n 1, 1) := by decide +kernel
theorem dX13_emptyShifted_9 : decode cX13_emptyShifted 9 = .ok (.bipush 6, 2) := by decide +kernel
theorem dX13_emptyShifted_11 : decode cX13_emptyShifted 11 = .ok (.iconst 0, 1) := by decide +kernel
theorem dX13_emptyShifted_12 : decode cX13_emptyShifted 12 = .ok (.invokevirtual 282, 3) := by decide +kernel
theorem dX13_emptyShifted_15 : decode cX13_emptyShifted 15 = .ok (.return_, 1) := by decide +kernel
theorem dX13_refill_0 : decode cX13_refill 0 = .ok (.aload_n 0, 1) := by decide +kernel
theorem dX13_refill_1 : decode cX13_refill 1 = .ok (.iload_n 1, 1) := by decide +kernel
theorem dX13_refill_2 : decode cX13_refill 2 = .ok (.iconst 5, 1) := by decide +kernel
theorem dX13_refill_3 : decode cX13_refill 3 = .ok (.aload_n 0, 1) := by decide +kernel
theorem dX13_refill_4 : decode cX13_refill 4 = .ok (.iload_n 1, 1) := by decide +kernel
theorem dX13_refill_5 : decode cX13_refill 5 = .ok (.iconst 0, 1) := by decide +kernel
theorem dX13_refill_6 : decode cX13_refill 6 = .ok (.invokevirtual 406, 3) := by decide +kernel
theorem dX13_refill_9 : decode cX13_refill 9 = .ok (.invokevirtual 282, 3) := by decide +kernel
theorem dX13_refill_12 : decode cX13_refill 12 = .ok (.aload_n 0, 1) := by decide +kernel
theorem dX13_refill_13 : decode cX13_refill 13 = .ok (.iload_n 1, 1) := by decide +kernel
theorem dX13_refill_14 : decode cX13_refill 14 = .ok (.bipush 7, 2) := by decide +kernel
theorem dX13_refill_16 : decode cX13_refill 16 = .ok (.iconst 0, 1) := by decide +kernel
theorem dX13_refill_17 : decode cX13_refill 17 = .ok (.invokevirtual 282, 3) := by decide +kernel
theorem dX13_refill_20 : decode cX13_refill 20 = .ok (.aload_n 0, 1) := by decide +kernel
theorem dX13_refill_21 : decode cX13_refill 21 = .ok (.iload_n 1, 1) := by decide +kernel
theorem dX13_refill_22 : decode cX13_refill 22 = .ok (.iconst 4, 1) := by decide +kernel
theorem dX13_refill_23 : decode cX13_refill 23 = .ok (.invokevirtual 328, 3) := by decide +kernel
theorem dX13_refill_26 : decode cX13_refill 26 = .ok (.return_, 1) := by decide +kernel
theorem dX13_shiftOut_0 : decode cX13_shiftOut 0 = .ok (.aload_n 0, 1) := by decide +kernel
theorem dX13_shiftOut_1 : decode cX13_shiftOut 1 = .ok (.iload_n 1, 1) := by decide +kernel
theorem dX13_shiftOut_2 : decode cX13_shiftOut 2 = .ok (.bipush 18, 2) := by decide +kernel
theorem dX13_shiftOut_4 : decode cX13_shiftOut 4 = .ok (.invokevirtual 249, 3) := by decide +kernel
theorem dX13_shiftOut_7 : decode cX13_shiftOut 7 = .ok (.iconst 1, 1) := by decide +kernel
theorem dX13_shiftOut_8 : decode cX13_shiftOut 8 = .ok (.if_icmp .ne 37, 3) := by decide +kernel
theorem dX13_shiftOut_11 : decode cX13_shiftOut 11 = .ok (.aload_n 0, 1) := by decide +kernel
theorem dX13_shiftOut_12 : decode cX13_shiftOut 12 = .ok (.iload_n 1, 1) := by decide +kernel
theorem dX13_shiftOut_13 : decode cX13_shiftOut 13 = .ok (.bipush 7, 2) := by decide +kernel
theorem dX13_shiftOut_15 : decode cX13_shiftOut 15 = .ok (.invokevirtual 238, 3) := by decide +kernel
theorem dX13_shiftOut_18 : decode cX13_shiftOut 18 = .ok (.aload_n 0, 1) := by decide +kernel
theorem dX13_shiftOut_19 : decode cX13_shiftOut 19 = .ok (.iload_n 1, 1) := by decide +kernel
theorem dX13_shiftOut_20 : decode cX13_shiftOut 20 = .ok (.bipush 17, 2) := by decide +kernel
theorem dX13_shiftOut_22 : decode cX13_shiftOut 22 = .ok (.invokevirtual 249, 3) := by decide +kernel
theorem dX13_shiftOut_25 : decode cX13_shiftOut 25 = .ok (.if_icmp .lt 20, 3) := by decide +kernel
theorem dX13_shiftOut_28 : decode cX13_shiftOut 28 = .ok (.aload_n 0, 1) := by decide +kernel
theorem dX13_shiftOut_29 : decode cX13_shiftOut 29 = .ok (.iload_n 1, 1) := by decide +kernel
theorem dX13_shiftOut_30 : decode cX13_shiftOut 30 = .ok (.bipush 11, 2) := by decide +kernel
theorem dX13_shiftOut_32 : decode cX13_shiftOut 32 = .ok (.invokevirtual 238, 3) := by decide +kernel
theorem dX13_shiftOut_35 : decode cX13_shiftOut 35 = .ok (.ifCond .ne 5, 3) := by decide +kernel
theorem dX13_shiftOut_38 : decode cX13_shiftOut 38 = .ok (.iconst 2, 1) := by decide +kernel
theorem dX13_shiftOut_39 : decode cX13_shiftOut 39 = .ok (.ireturn, 1) := by decide +kernel
theorem dX13_shiftOut_40 : decode cX13_shiftOut 40 = .ok (.aload_n 0, 1) := by decide +kernel
theorem dX13_shiftOut_41 : decode cX13_shiftOut 41 = .ok (.iload_n 1, 1) := by decide +kernel
theorem dX13_shiftOut_42 : decode cX13_shiftOut 42 = .ok (.invokevirtual 410, 3) := by decide +kernel
theorem dX13_shiftOut_45 : decode cX13_shiftOut 45 = .ok (.aload_n 0, 1) := by decide +kernel
theorem dX13_shiftOut_46 : decode cX13_shiftOut 46 = .ok (.iload_n 1, 1) := by decide +kernel
theorem dX13_shiftOut_47 : decode cX13_shiftOut 47 = .ok (.iconst 5, 1) := by decide +kernel
theorem dX13_shiftOut_48 : decode cX13_shiftOut 48 = .ok (.invokevirtual 238, 3) := by decide +kernel
theorem dX13_shiftOut_51 : decode cX13_shiftOut 51 = .ok (.istore 4, 2) := by decide +kernel
theorem dX13_shiftOut_53 : decode cX13_shiftOut 53 = .ok (.aload_n 0, 1) := by decide +kernel
theorem dX13_shiftOut_54 : decode cX13_shiftOut 54 = .ok (.iload_n 1, 1) := by decide +kernel
theorem dX13_shiftOut_55 : decode cX13_shiftOut 55 = .ok (.bipush 14, 2) := by decide +kernel
theorem dX13_shiftOut_57 : decode cX13_shiftOut 57 = .ok (.invokevirtual 249, 3) := by decide +kernel
theorem dX13_shiftOut_60 : decode cX13_shiftOut 60 = .ok (.iconst 1, 1) := by decide +kernel
theorem dX13_shiftOut_61 : decode cX13_shiftOut 61 = .ok (.if_icmp .ne 7, 3) := by decide +kernel
theorem dX13_shiftOut_64 : decode cX13_shiftOut 64 = .ok (.iconst 1, 1) := by decide +kernel
theorem dX13_shiftOut_65 : decode cX13_shiftOut 65 = .ok (.goto 4, 3) := by decide +kernel
theorem dX13_shiftOut_68 : decode cX13_shiftOut 68 = .ok (.iconst 0, 1) := by decide +kernel
theorem dX13_shiftOut_69 : decode cX13_shiftOut 69 = .ok (.istore 5, 2) := by decide +kernel
theorem dX13_shiftOut_71 : decode cX13_shiftOut 71 = .ok (.iload 5, 2) := by decide +kernel
theorem dX13_shiftOut_73 : decode cX13_shiftOut 73 = .ok (.ifCond .eq 13, 3) := by decide +kernel
theorem dX13_shiftOut_76 : decode cX13_shiftOut 76 = .ok (.iload 4, 2) := by decide +kernel
theorem dX13_shiftOut_78 : decode cX13_shiftOut 78 = .ok (.bipush 32, 2) := by decide +kernel
theorem dX13_shiftOut_80 : decode cX13_shiftOut 80 = .ok (.iload_n 3, 1) := by decide +kernel
theorem dX13_shiftOut_81 : decode cX13_shiftOut 81 = .ok (.isub, 1) := by decide +kernel
theorem dX13_shiftOut_82 : decode cX13_shiftOut 82 = .ok (.iushr, 1) := by decide +kernel
theorem dX13_shiftOut_83 : decode cX13_shiftOut 83 = .ok (.goto 9, 3) := by decide +kernel
theorem dX13_shiftOut_86 : decode cX13_shiftOut 86 = .ok (.iload 4, 2) := by decide +kernel
theorem dX13_shiftOut_88 : decode cX13_shiftOut 88 = .ok (.iload_n 3, 1) := by decide +kernel
theorem dX13_shiftOut_89 : decode cX13_shiftOut 89 = .ok (.invokestatic 384, 3) := by decide +kernel
theorem dX13_shiftOut_92 : decode cX13_shiftOut 92 = .ok (.istore 6, 2) := by decide +kernel
theorem dX13_shiftOut_94 : decode cX13_shiftOut 94 = .ok (.aload_n 0, 1) := by decide +kernel
theorem dX13_shiftOut_95 : decode cX13_shiftOut 95 = .ok (.iload_n 1, 1) := by decide +kernel
theorem dX13_shiftOut_96 : decode cX13_shiftOut 96 = .ok (.iconst 5, 1) := by decide +kernel
theorem dX13_shiftOut_97 : decode cX13_shiftOut 97 = .ok (.iload_n 3, 1) := by decide +kernel
theorem dX13_shiftOut_98 : decode cX13_shiftOut 98 = .ok (.bipush 32, 2) := by decide +kernel
theorem dX13_shiftOut_100 : decode cX13_shiftOut 100 = .ok (.if_icmp .ne 7, 3) := by decide +kernel
theorem dX13_shiftOut_103 : decode cX13_shiftOut 103 = .ok (.iconst 0, 1) := by decide +kernel
theorem dX13_shiftOut_104 : decode cX13_shiftOut 104 = .ok (.goto 19, 3) := by decide +kernel
theorem dX13_shiftOut_107 : decode cX13_shiftOut 107 = .ok (.iload 5, 2) := by decide +kernel
theorem dX13_shiftOut_109 : decode cX13_shiftOut 109 = .ok (.ifCond .eq 10, 3) := by decide +kernel
theorem dX13_shiftOut_112 : decode cX13_shiftOut 112 = .ok (.iload 4, 2) := by decide +kernel
theorem dX13_shiftOut_114 : decode cX13_shiftOut 114 = .ok (.iload_n 3, 1) := by decide +kernel
theorem dX13_shiftOut_115 : decode cX13_shiftOut 115 = .ok (.ishl, 1) := by decide +kernel
theorem dX13_shiftOut_116 : decode cX13_shiftOut 116 = .ok (.goto 7, 3) := by decide +kernel
theorem dX13_shiftOut_119 : decode cX13_shiftOut 119 = .ok (.iload 4, 2) := by decide +kernel
theorem dX13_shiftOut_121 : decode cX13_shiftOut 121 = .ok (.iload_n 3, 1) := by decide +kernel
theorem dX13_shiftOut_122 : decode cX13_shiftOut 122 = .ok (.iushr, 1) := by decide +kernel
theorem dX13_shiftOut_123 : decode cX13_shiftOut 123 = .ok (.invokevirtual 282, 3) := by decide +kernel
theorem dX13_shiftOut_126 : decode cX13_shiftOut 126 = .ok (.aload_n 0, 1) := by decide +kernel
theorem dX13_shiftOut_127 : decode cX13_shiftOut 127 = .ok (.iload_n 1, 1) := by decide +kernel
theorem dX13_shiftOut_128 : decode cX13_shiftOut 128 = .ok (.bipush 7, 2) := by decide +kernel
theorem dX13_shiftOut_130 : decode cX13_shiftOut 130 = .ok (.bipush 32, 2) := by decide +kernel
theorem dX13_shiftOut_132 : decode cX13_shiftOut 132 = .ok (.aload_n 0, 1) := by decide +kernel
theorem dX13_shiftOut_133 : decode cX13_shiftOut 133 = .ok (.iload_n 1, 1) := by decide +kernel
theorem dX13_shiftOut_134 : decode cX13_shiftOut 134 = .ok (.bipush 7, 2) := by decide +kernel
theorem dX13_shiftOut_136 : decode cX13_shiftOut 136 = .ok (.invokevirtual 238, 3) := by decide +kernel
theorem dX13_shiftOut_139 : decode cX13_shiftOut 139 = .ok (.iload_n 3, 1) := by decide +kernel
theorem dX13_shiftOut_140 : decode cX13_shiftOut 140 = .ok (.iadd, 1) := by decide +kernel
theorem dX13_shiftOut_141 : decode cX13_shiftOut 141 = .ok (.invokestatic 387, 3) := by decide +kernel
theorem dX13_shiftOut_144 : decode cX13_shiftOut 144 = .ok (.invokevirtual 282, 3) := by decide +kernel
theorem dX13_shiftOut_147 : decode cX13_shiftOut 147 = .ok (.iload_n 2, 1) := by decide +kernel
theorem dX13_shiftOut_148 : decode cX13_shiftOut 148 = .ok (.iconst 4, 1) := by decide +kernel
theorem dX13_shiftOut_149 : decode cX13_shiftOut 149 = .ok (.if_icmp .ne 21, 3) := by decide +kernel
theorem dX13_shiftOut_152 : decode cX13_shiftOut 152 = .ok (.aload_n 0, 1) := by decide +kernel
theorem dX13_shiftOut_153 : decode cX13_shiftOut 153 = .ok (.iload_n 1, 1) := by decide +kernel
theorem dX13_shiftOut_154 : decode cX13_shiftOut 154 = .ok (.iconst 4, 1) := by decide +kernel
theorem dX13_shiftOut_155 : decode cX13_shiftOut 155 = .ok (.iload 6, 2) := by decide +kernel
theorem dX13_shiftOut_157 : decode cX13_shiftOut 157 = .ok (.invokevirtual 282, 3) := by decide +kernel
theorem dX13_shiftOut_160 : decode cX13_shiftOut 160 = .ok (.aload_n 0, 1) := by decide +kernel
theorem dX13_shiftOut_161 : decode cX13_shiftOut 161 = .ok (.iload_n 1, 1) := by decide +kernel
theorem dX13_shiftOut_162 : decode cX13_shiftOut 162 = .ok (.bipush 6, 2) := by decide +kernel
theorem dX13_shiftOut_164 : decode cX13_shiftOut 164 = .ok (.iload_n 3, 1) := by decide +kernel
theorem dX13_shiftOut_165 : decode cX13_shiftOut 165 = .ok (.invokevirtual 282, 3) := by decide +kernel
theorem dX13_shiftOut_168 : decode cX13_shiftOut 168 = .ok (.iconst 0, 1) := by decide +kernel
theorem dX13_shiftOut_169 : decode cX13_shiftOut 169 = .ok (.ireturn, 1) := by decide +kernel
theorem dX13_shiftOut_170 : decode cX13_shiftOut 170 = .ok (.aload_n 0, 1) := by decide +kernel
theorem dX13_shiftOut_171 : decode cX13_shiftOut 171 = .ok (.iload_n 1, 1) := by decide +kernel
theorem dX13_shiftOut_172 : decode cX13_shiftOut 172 = .ok (.iload_n 2, 1) := by decide +kernel
theorem dX13_shiftOut_173 : decode cX13_shiftOut 173 = .ok (.iload 6, 2) := by decide +kernel
theorem dX13_shiftOut_175 : decode cX13_shiftOut 175 = .ok (.iconst 5, 1) := by decide +kernel
theorem dX13_shiftOut_176 : decode cX13_shiftOut 176 = .ok (.invokevirtual 413, 3) := by decide +kernel
theorem dX13_shiftOut_179 : decode cX13_shiftOut 179 = .ok (.ireturn, 1) := by decide +kernel
theorem dX13_write_0 : decode cX13_write 0 = .ok (.iload_n 2, 1) := by decide +kernel
theorem dX13_write_1 : decode cX13_write 1 = .ok (.tableswitch 124 0 8 #[51, 96, 106, 124, 124, 124, 124, 51, 116], 51) := by decide +kernel
theorem dX13_write_52 : decode cX13_write 52 = .ok (.aload_n 0, 1) := by decide +kernel
theorem dX13_write_53 : decode cX13_write 53 = .ok (.getfield 35, 3) := by decide +kernel
theorem dX13_write_56 : decode cX13_write 56 = .ok (.iload_n 1, 1) := by decide +kernel
theorem dX13_write_57 : decode cX13_write 57 = .ok (.iload_n 2, 1) := by decide +kernel
theorem dX13_write_58 : decode cX13_write 58 = .ok (.iastore, 1) := by decide +kernel
theorem dX13_write_59 : decode cX13_write 59 = .ok (.aload_n 0, 1) := by decide +kernel
theorem dX13_write_60 : decode cX13_write 60 = .ok (.getfield 38, 3) := by decide +kernel
theorem dX13_write_63 : decode cX13_write 63 = .ok (.iload_n 1, 1) := by decide +kernel
theorem dX13_write_64 : decode cX13_write 64 = .ok (.aload_n 0, 1) := by decide +kernel
theorem dX13_write_65 : decode cX13_write 65 = .ok (.iload_n 1, 1) := by decide +kernel
theorem dX13_write_66 : decode cX13_write 66 = .ok (.iload 4, 2) := by decide +kernel
theorem dX13_write_68 : decode cX13_write 68 = .ok (.invokevirtual 249, 3) := by decide +kernel
theorem dX13_write_71 : decode cX13_write 71 = .ok (.iastore, 1) := by decide +kernel
theorem dX13_write_72 : decode cX13_write 72 = .ok (.aload_n 0, 1) := by decide +kernel
theorem dX13_write_73 : decode cX13_write 73 = .ok (.getfield 41, 3) := by decide +kernel
theorem dX13_write_76 : decode cX13_write 76 = .ok (.iload_n 1, 1) := by decide +kernel
theorem dX13_write_77 : decode cX13_write 77 = .ok (.aload_n 0, 1) := by decide +kernel
theorem dX13_write_78 : decode cX13_write 78 = .ok (.iload_n 1, 1) := by decide +kernel
theorem dX13_write_79 : decode cX13_write 79 = .ok (.iload 4, 2) := by decide +kernel
theorem dX13_write_81 : decode cX13_write 81 = .ok (.iconst 1, 1) := by decide +kernel
theorem dX13_write_82 : decode cX13_write 82 = .ok (.iadd, 1) := by decide +kernel
theorem dX13_write_83 : decode cX13_write 83 = .ok (.invokevirtual 249, 3) := by decide +kernel
theorem dX13_write_86 : decode cX13_write 86 = .ok (.iastore, 1) := by decide +kernel
theorem dX13_write_87 : decode cX13_write 87 = .ok (.aload_n 0, 1) := by decide +kernel
theorem dX13_write_88 : decode cX13_write 88 = .ok (.getfield 44, 3) := by decide +kernel
theorem dX13_write_91 : decode cX13_write 91 = .ok (.iload_n 1, 1) := by decide +kernel
theorem dX13_write_92 : decode cX13_write 92 = .ok (.iload_n 3, 1) := by decide +kernel
theorem dX13_write_93 : decode cX13_write 93 = .ok (.iastore, 1) := by decide +kernel
theorem dX13_write_94 : decode cX13_write 94 = .ok (.goto 31, 3) := by decide +kernel
theorem dX13_write_97 : decode cX13_write 97 = .ok (.aload_n 0, 1) := by decide +kernel
theorem dX13_write_98 : decode cX13_write 98 = .ok (.iload_n 1, 1) := by decide +kernel
theorem dX13_write_99 : decode cX13_write 99 = .ok (.iconst 2, 1) := by decide +kernel
theorem dX13_write_100 : decode cX13_write 100 = .ok (.iload_n 3, 1) := by decide +kernel
theorem dX13_write_101 : decode cX13_write 101 = .ok (.invokevirtual 282, 3) := by decide +kernel
theorem dX13_write_104 : decode cX13_write 104 = .ok (.goto 21, 3) := by decide +kernel
theorem dX13_write_107 : decode cX13_write 107 = .ok (.aload_n 0, 1) := by decide +kernel
theorem dX13_write_108 : decode cX13_write 108 = .ok (.iload_n 1, 1) := by decide +kernel
theorem dX13_write_109 : decode cX13_write 109 = .ok (.iconst 3, 1) := by decide +kernel
theorem dX13_write_110 : decode cX13_write 110 = .ok (.iload_n 3, 1) := by decide +kernel
theorem dX13_write_111 : decode cX13_write 111 = .ok (.invokevirtual 282, 3) := by decide +kernel
theorem dX13_write_114 : decode cX13_write 114 = .ok (.goto 11, 3) := by decide +kernel
theorem dX13_write_117 : decode cX13_write 117 = .ok (.aload_n 0, 1) := by decide +kernel
theorem dX13_write_118 : decode cX13_write 118 = .ok (.iload_n 3, 1) := by decide +kernel
theorem dX13_write_119 : decode cX13_write 119 = .ok (.invokevirtual 416, 3) := by decide +kernel
theorem dX13_write_122 : decode cX13_write 122 = .ok (.goto 3, 3) := by decide +kernel
theorem dX13_write_125 : decode cX13_write 125 = .ok (.iconst 0, 1) := by decide +kernel
theorem dX13_write_126 : decode cX13_write 126 = .ok (.ireturn, 1) := by decide +kernel
theorem dX13_push_0 : decode cX13_push 0 = .ok (.iload_n 2, 1) := by decide +kernel
theorem dX13_push_1 : decode cX13_push 1 = .ok (.ifCond .eq 22, 3) := by decide +kernel
theorem dX13_push_4 : decode cX13_push 4 = .ok (.aload_n 0, 1) := by decide +kernel
theorem dX13_push_5 : decode cX13_push 5 = .ok (.iload_n 1, 1) := by decide +kernel
theorem dX13_push_6 : decode cX13_push 6 = .ok (.bipush 6, 2) := by decide +kernel
theorem dX13_push_8 : decode cX13_push 8 = .ok (.invokevirtual 238, 3) := by decide +kernel
theorem dX13_push_11 : decode cX13_push 11 = .ok (.aload_n 0, 1) := by decide +kernel
theorem dX13_push_12 : decode cX13_push 12 = .ok (.iload_n 1, 1) := by decide +kernel
theorem dX13_push_13 : decode cX13_push 13 = .ok (.bipush 15, 2) := by decide +kernel
theorem dX13_push_15 : decode cX13_push 15 = .ok (.invokevirtual 249, 3) := by decide +kernel
theorem dX13_push_18 : decode cX13_push 18 = .ok (.if_icmp .ge 5, 3) := by decide +kernel
theorem dX13_push_21 : decode cX13_push 21 = .ok (.iconst 0, 1) := by decide +kernel
theorem dX13_push_22 : decode cX13_push 22 = .ok (.ireturn, 1) := by decide +kernel
theorem dX13_push_23 : decode cX13_push 23 = .ok (.aload_n 0, 1) := by decide +kernel
theorem dX13_push_24 : decode cX13_push 24 = .ok (.iload_n 1, 1) := by decide +kernel
theorem dX13_push_25 : decode cX13_push 25 = .ok (.iconst 1, 1) := by decide +kernel
theorem dX13_push_26 : decode cX13_push 26 = .ok (.invokevirtual 392, 3) := by decide +kernel
theorem dX13_push_29 : decode cX13_push 29 = .ok (.ifCond .ne 10, 3) := by decide +kernel
theorem dX13_push_32 : decode cX13_push 32 = .ok (.aload_n 0, 1) := by decide +kernel
theorem dX13_push_33 : decode cX13_push 33 = .ok (.iload_n 1, 1) := by decide +kernel
theorem dX13_push_34 : decode cX13_push 34 = .ok (.invokevirtual 396, 3) := by decide +kernel
theorem dX13_push_37 : decode cX13_push 37 = .ok (.iconst 0, 1) := by decide +kernel
theorem dX13_push_38 : decode cX13_push 38 = .ok (.ireturn, 1) := by decide +kernel
theorem dX13_push_39 : decode cX13_push 39 = .ok (.iload_n 3, 1) := by decide +kernel
theorem dX13_push_40 : decode cX13_push 40 = .ok (.ifCond .ne 5, 3) := by decide +kernel
theorem dX13_push_43 : decode cX13_push 43 = .ok (.iconst 3, 1) := by decide +kernel
theorem dX13_push_44 : decode cX13_push 44 = .ok (.ireturn, 1) := by decide +kernel
theorem dX13_push_45 : decode cX13_push 45 = .ok (.aload_n 0, 1) := by decide +kernel
theorem dX13_push_46 : decode cX13_push 46 = .ok (.iload_n 1, 1) := by decide +kernel
theorem dX13_push_47 : decode cX13_push 47 = .ok (.invokevirtual 403, 3) := by decide +kernel
theorem dX13_push_50 : decode cX13_push 50 = .ok (.aload_n 0, 1) := by decide +kernel
theorem dX13_push_51 : decode cX13_push 51 = .ok (.iload_n 1, 1) := by decide +kernel
theorem dX13_push_52 : decode cX13_push 52 = .ok (.iconst 5, 1) := by decide +kernel
theorem dX13_push_53 : decode cX13_push 53 = .ok (.invokevirtual 328, 3) := by decide +kernel
theorem dX13_push_56 : decode cX13_push 56 = .ok (.iconst 0, 1) := by decide +kernel
theorem dX13_push_57 : decode cX13_push 57 = .ok (.ireturn, 1) := by decide +kernel
theorem dX13_pull_0 : decode cX13_pull 0 = .ok (.iload_n 2, 1) := by decide +kernel
theorem dX13_pull_1 : decode cX13_pull 1 = .ok (.ifCond .eq 22, 3) := by decide +kernel
theorem dX13_pull_4 : decode cX13_pull 4 = .ok (.aload_n 0, 1) := by decide +kernel
theorem dX13_pull_5 : decode cX13_pull 5 = .ok (.iload_n 1, 1) := by decide +kernel
theorem dX13_pull_6 : decode cX13_pull 6 = .ok (.bipush 7, 2) := by decide +kernel
theorem dX13_pull_8 : decode cX13_pull 8 = .ok (.invokevirtual 238, 3) := by decide +kernel
theorem dX13_pull_11 : decode cX13_pull 11 = .ok (.aload_n 0, 1) := by decide +kernel
theorem dX13_pull_12 : decode cX13_pull 12 = .ok (.iload_n 1, 1) := by decide +kernel
theorem dX13_pull_13 : decode cX13_pull 13 = .ok (.bipush 17, 2) := by decide +kernel
theorem dX13_pull_15 : decode cX13_pull 15 = .ok (.invokevirtual 249, 3) := by decide +kernel
theorem dX13_pull_18 : decode cX13_pull 18 = .ok (.if_icmp .ge 5, 3) := by decide +kernel
theorem dX13_pull_21 : decode cX13_pull 21 = .ok (.iconst 0, 1) := by decide +kernel
theorem dX13_pull_22 : decode cX13_pull 22 = .ok (.ireturn, 1) := by decide +kernel
theorem dX13_pull_23 : decode cX13_pull 23 = .ok (.aload_n 0, 1) := by decide +kernel
theorem dX13_pull_24 : decode cX13_pull 24 = .ok (.iload_n 1, 1) := by decide +kernel
theorem dX13_pull_25 : decode cX13_pull 25 = .ok (.bipush 11, 2) := by decide +kernel
theorem dX13_pull_27 : decode cX13_pull 27 = .ok (.invokevirtual 238, 3) := by decide +kernel
theorem dX13_pull_30 : decode cX13_pull 30 = .ok (.ifCond .le 10, 3) := by decide +kernel
theorem dX13_pull_33 : decode cX13_pull 33 = .ok (.aload_n 0, 1) := by decide +kernel
theorem dX13_pull_34 : decode cX13_pull 34 = .ok (.iload_n 1, 1) := by decide +kernel
theorem dX13_pull_35 : decode cX13_pull 35 = .ok (.invokevirtual 410, 3) := by decide +kernel
theorem dX13_pull_38 : decode cX13_pull 38 = .ok (.iconst 0, 1) := by decide +kernel
theorem dX13_pull_39 : decode cX13_pull 39 = .ok (.ireturn, 1) := by decide +kernel
theorem dX13_pull_40 : decode cX13_pull 40 = .ok (.iload_n 3, 1) := by decide +kernel
theorem dX13_pull_41 : decode cX13_pull 41 = .ok (.ifCond .ne 5, 3) := by decide +kernel
theorem dX13_pull_44 : decode cX13_pull 44 = .ok (.iconst 2, 1) := by decide +kernel
theorem dX13_pull_45 : decode cX13_pull 45 = .ok (.ireturn, 1) := by decide +kernel
theorem dX13_pull_46 : decode cX13_pull 46 = .ok (.aload_n 0, 1) := by decide +kernel
theorem dX13_pull_47 : decode cX13_pull 47 = .ok (.iload_n 1, 1) := by decide +kernel
theorem dX13_pull_48 : decode cX13_pull 48 = .ok (.iconst 5, 1) := by decide +kernel
theorem dX13_pull_49 : decode cX13_pull 49 = .ok (.aload_n 0, 1) := by decide +kernel
theorem dX13_pull_50 : decode cX13_pull 50 = .ok (.iload_n 1, 1) := by decide +kernel
theorem dX13_pull_51 : decode cX13_pull 51 = .ok (.iconst 2, 1) := by decide +kernel
theorem dX13_pull_52 : decode cX13_pull 52 = .ok (.invokevirtual 238, 3) := by decide +kernel
theorem dX13_pull_55 : decode cX13_pull 55 = .ok (.invokevirtual 282, 3) := by decide +kernel
theorem dX13_pull_58 : decode cX13_pull 58 = .ok (.aload_n 0, 1) := by decide +kernel
theorem dX13_pull_59 : decode cX13_pull 59 = .ok (.iload_n 1, 1) := by decide +kernel
theorem dX13_pull_60 : decode cX13_pull 60 = .ok (.bipush 7, 2) := by decide +kernel
theorem dX13_pull_62 : decode cX13_pull 62 = .ok (.iconst 0, 1) := by decide +kernel
theorem dX13_pull_63 : decode cX13_pull 63 = .ok (.invokevirtual 282, 3) := by decide +kernel
theorem dX13_pull_66 : decode cX13_pull 66 = .ok (.iconst 0, 1) := by decide +kernel
theorem dX13_pull_67 : decode cX13_pull 67 = .ok (.ireturn, 1) := by decide +kernel
theorem dX13_reversed_0 : decode cX13_reversed 0 = .ok (.iconst 0, 1) := by decide +kernel
theorem dX13_reversed_1 : decode cX13_reversed 1 = .ok (.istore_n 1, 1) := by decide +kernel
theorem dX13_reversed_2 : decode cX13_reversed 2 = .ok (.iconst 0, 1) := by decide +kernel
theorem dX13_reversed_3 : decode cX13_reversed 3 = .ok (.istore_n 2, 1) := by decide +kernel
theorem dX13_reversed_4 : decode cX13_reversed 4 = .ok (.iload_n 2, 1) := by decide +kernel
theorem dX13_reversed_5 : decode cX13_reversed 5 = .ok (.bipush 32, 2) := by decide +kernel
theorem dX13_reversed_7 : decode cX13_reversed 7 = .ok (.if_icmp .ge 22, 3) := by decide +kernel
theorem dX13_reversed_10 : decode cX13_reversed 10 = .ok (.iload_n 1, 1) := by decide +kernel
theorem dX13_reversed_11 : decode cX13_reversed 11 = .ok (.iload_n 0, 1) := by decide +kernel
theorem dX13_reversed_12 : decode cX13_reversed 12 = .ok (.iload_n 2, 1) := by decide +kernel
theorem dX13_reversed_13 : decode cX13_reversed 13 = .ok (.iushr, 1) := by decide +kernel
theorem dX13_reversed_14 : decode cX13_reversed 14 = .ok (.iconst 1, 1) := by decide +kernel
theorem dX13_reversed_15 : decode cX13_reversed 15 = .ok (.iand, 1) := by decide +kernel
theorem dX13_reversed_16 : decode cX13_reversed 16 = .ok (.bipush 31, 2) := by decide +kernel
theorem dX13_reversed_18 : decode cX13_reversed 18 = .ok (.iload_n 2, 1) := by decide +kernel
theorem dX13_reversed_19 : decode cX13_reversed 19 = .ok (.isub, 1) := by decide +kernel
theorem dX13_reversed_20 : decode cX13_reversed 20 = .ok (.ishl, 1) := by decide +kernel
theorem dX13_reversed_21 : decode cX13_reversed 21 = .ok (.ior, 1) := by decide +kernel
theorem dX13_reversed_22 : decode cX13_reversed 22 = .ok (.istore_n 1, 1) := by decide +kernel
theorem dX13_reversed_23 : decode cX13_reversed 23 = .ok (.iinc 2 1, 3) := by decide +kernel
theorem dX13_reversed_26 : decode cX13_reversed 26 = .ok (.goto (-22), 3) := by decide +kernel
theorem dX13_reversed_29 : decode cX13_reversed 29 = .ok (.iload_n 1, 1) := by decide +kernel
theorem dX13_reversed_30 : decode cX13_reversed 30 = .ok (.ireturn, 1) := by decide +kernel
theorem dX13_move_0 : decode cX13_move 0 = .ok (.iload_n 3, 1) := by decide +kernel
theorem dX13_move_1 : decode cX13_move 1 = .ok (.iconst 1, 1) := by decide +kernel
theorem dX13_move_2 : decode cX13_move 2 = .ok (.if_icmp .ne 10, 3) := by decide +kernel
theorem dX13_move_5 : decode cX13_move 5 = .ok (.iload 4, 2) := by decide +kernel
theorem dX13_move_7 : decode cX13_move 7 = .ok (.iconst (-1), 1) := by decide +kernel
theorem dX13_move_8 : decode cX13_move 8 = .ok (.ixor, 1) := by decide +kernel
theorem dX13_move_9 : decode cX13_move 9 = .ok (.goto 18, 3) := by decide +kernel
theorem dX13_move_12 : decode cX13_move 12 = .ok (.iload_n 3, 1) := by decide +kernel
theorem dX13_move_13 : decode cX13_move 13 = .ok (.iconst 2, 1) := by decide +kernel
theorem dX13_move_14 : decode cX13_move 14 = .ok (.if_icmp .ne 11, 3) := by decide +kernel
theorem dX13_move_17 : decode cX13_move 17 = .ok (.iload 4, 2) := by decide +kernel
theorem dX13_move_19 : decode cX13_move 19 = .ok (.invokestatic 419, 3) := by decide +kernel
theorem dX13_move_22 : decode cX13_move 22 = .ok (.goto 5, 3) := by decide +kernel
theorem dX13_move_25 : decode cX13_move 25 = .ok (.iload 4, 2) := by decide +kernel
theorem dX13_move_27 : decode cX13_move 27 = .ok (.istore 5, 2) := by decide +kernel
theorem dX13_move_29 : decode cX13_move 29 = .ok (.iload_n 2, 1) := by decide +kernel
theorem dX13_move_30 : decode cX13_move 30 = .ok (.iconst 4, 1) := by decide +kernel
theorem dX13_move_31 : decode cX13_move 31 = .ok (.if_icmp .ne 21, 3) := by decide +kernel
theorem dX13_move_34 : decode cX13_move 34 = .ok (.aload_n 0, 1) := by decide +kernel
theorem dX13_move_35 : decode cX13_move 35 = .ok (.iload_n 1, 1) := by decide +kernel
theorem dX13_move_36 : decode cX13_move 36 = .ok (.iconst 4, 1) := by decide +kernel
theorem dX13_move_37 : decode cX13_move 37 = .ok (.iload 5, 2) := by decide +kernel
theorem dX13_move_39 : decode cX13_move 39 = .ok (.invokevirtual 282, 3) := by decide +kernel
theorem dX13_move_42 : decode cX13_move 42 = .ok (.aload_n 0, 1) := by decide +kernel
theorem dX13_move_43 : decode cX13_move 43 = .ok (.iload_n 1, 1) := by decide +kernel
theorem dX13_move_44 : decode cX13_move 44 = .ok (.bipush 6, 2) := by decide +kernel
theorem dX13_move_46 : decode cX13_move 46 = .ok (.iconst 0, 1) := by decide +kernel
theorem dX13_move_47 : decode cX13_move 47 = .ok (.invokevirtual 282, 3) := by decide +kernel
theorem dX13_move_50 : decode cX13_move 50 = .ok (.iconst 0, 1) := by decide +kernel
theorem dX13_move_51 : decode cX13_move 51 = .ok (.ireturn, 1) := by decide +kernel
theorem dX13_move_52 : decode cX13_move 52 = .ok (.iload_n 2, 1) := by decide +kernel
theorem dX13_move_53 : decode cX13_move 53 = .ok (.iconst 5, 1) := by decide +kernel
theorem dX13_move_54 : decode cX13_move 54 = .ok (.if_icmp .ne 21, 3) := by decide +kernel
theorem dX13_move_57 : decode cX13_move 57 = .ok (.aload_n 0, 1) := by decide +kernel
theorem dX13_move_58 : decode cX13_move 58 = .ok (.iload_n 1, 1) := by decide +kernel
theorem dX13_move_59 : decode cX13_move 59 = .ok (.iconst 5, 1) := by decide +kernel
theorem dX13_move_60 : decode cX13_move 60 = .ok (.iload 5, 2) := by decide +kernel
theorem dX13_move_62 : decode cX13_move 62 = .ok (.invokevirtual 282, 3) := by decide +kernel
theorem dX13_move_65 : decode cX13_move 65 = .ok (.aload_n 0, 1) := by decide +kernel
theorem dX13_move_66 : decode cX13_move 66 = .ok (.iload_n 1, 1) := by decide +kernel
theorem dX13_move_67 : decode cX13_move 67 = .ok (.bipush 7, 2) := by decide +kernel
theorem dX13_move_69 : decode cX13_move 69 = .ok (.iconst 0, 1) := by decide +kernel
theorem dX13_move_70 : decode cX13_move 70 = .ok (.invokevirtual 282, 3) := by decide +kernel
theorem dX13_move_73 : decode cX13_move 73 = .ok (.iconst 0, 1) := by decide +kernel
theorem dX13_move_74 : decode cX13_move 74 = .ok (.ireturn, 1) := by decide +kernel
theorem dX13_move_75 : decode cX13_move 75 = .ok (.aload_n 0, 1) := by decide +kernel
theorem dX13_move_76 : decode cX13_move 76 = .ok (.iload_n 1, 1) := by decide +kernel
theorem dX13_move_77 : decode cX13_move 77 = .ok (.iload_n 2, 1) := by decide +kernel
theorem dX13_move_78 : decode cX13_move 78 = .ok (.iload 5, 2) := by decide +kernel
theorem dX13_move_80 : decode cX13_move 80 = .ok (.iconst 5, 1) := by decide +kernel
theorem dX13_move_81 : decode cX13_move 81 = .ok (.invokevirtual 413, 3) := by decide +kernel
theorem dX13_move_84 : decode cX13_move 84 = .ok (.ireturn, 1) := by decide +kernel
theorem dX13_assign_0 : decode cX13_assign 0 = .ok (.aload_n 0, 1) := by decide +kernel
theorem dX13_assign_1 : decode cX13_assign 1 = .ok (.iload_n 1, 1) := by decide +kernel
theorem dX13_assign_2 : decode cX13_assign 2 = .ok (.iload_n 2, 1) := by decide +kernel
theorem dX13_assign_3 : decode cX13_assign 3 = .ok (.iload_n 3, 1) := by decide +kernel
theorem dX13_assign_4 : decode cX13_assign 4 = .ok (.bipush 7, 2) := by decide +kernel
theorem dX13_assign_6 : decode cX13_assign 6 = .ok (.invokevirtual 413, 3) := by decide +kernel
theorem dX13_assign_9 : decode cX13_assign 9 = .ok (.ireturn, 1) := by decide +kernel
theorem dX13_access_0 : decode cX13_access 0 = .ok (.aload_n 0, 1) := by decide +kernel
theorem dX13_access_1 : decode cX13_access 1 = .ok (.iload_n 1, 1) := by decide +kernel
theorem dX13_access_2 : decode cX13_access 2 = .ok (.iconst 2, 1) := by decide +kernel
theorem dX13_access_3 : decode cX13_access 3 = .ok (.invokevirtual 293, 3) := by decide +kernel
theorem dX13_access_6 : decode cX13_access 6 = .ok (.istore_n 3, 1) := by decide +kernel
theorem dX13_access_7 : decode cX13_access 7 = .ok (.bipush 108, 2) := by decide +kernel
theorem dX13_access_9 : decode cX13_access 9 = .ok (.iload_n 3, 1) := by decide +kernel
theorem dX13_access_10 : decode cX13_access 10 = .ok (.bipush 16, 2) := by decide +kernel
theorem dX13_access_12 : decode cX13_access 12 = .ok (.if_icmp .ge 7, 3) := by decide +kernel
theorem dX13_access_15 : decode cX13_access 15 = .ok (.iload_n 3, 1) := by decide +kernel
theorem dX13_access_16 : decode cX13_access 16 = .ok (.goto 22, 3) := by decide +kernel
theorem dX13_access_19 : decode cX13_access 19 = .ok (.aload_n 0, 1) := by decide +kernel
theorem dX13_access_20 : decode cX13_access 20 = .ok (.iload_n 1, 1) := by decide +kernel
theorem dX13_access_21 : decode cX13_access 21 = .ok (.iload_n 3, 1) := by decide +kernel
theorem dX13_access_22 : decode cX13_access 22 = .ok (.bipush 16, 2) := by decide +kernel
theorem dX13_access_24 : decode cX13_access 24 = .ok (.if_icmp .ne 7, 3) := by decide +kernel
theorem dX13_access_27 : decode cX13_access 27 = .ok (.iconst 2, 1) := by decide +kernel
theorem dX13_access_28 : decode cX13_access 28 = .ok (.goto 4, 3) := by decide +kernel
theorem dX13_access_31 : decode cX13_access 31 = .ok (.iconst 3, 1) := by decide +kernel
theorem dX13_access_32 : decode cX13_access 32 = .ok (.invokevirtual 238, 3) := by decide +kernel
theorem dX13_access_35 : decode cX13_access 35 = .ok (.bipush 15, 2) := by decide +kernel
theorem dX13_access_37 : decode cX13_access 37 = .ok (.iand, 1) := by decide +kernel
theorem dX13_access_38 : decode cX13_access 38 = .ok (.iadd, 1) := by decide +kernel
theorem dX13_access_39 : decode cX13_access 39 = .ok (.istore 4, 2) := by decide +kernel
theorem dX13_access_41 : decode cX13_access 41 = .ok (.aload_n 0, 1) := by decide +kernel
theorem dX13_access_42 : decode cX13_access 42 = .ok (.iload_n 1, 1) := by decide +kernel
theorem dX13_access_43 : decode cX13_access 43 = .ok (.iconst 0, 1) := by decide +kernel
theorem dX13_access_44 : decode cX13_access 44 = .ok (.invokevirtual 293, 3) := by decide +kernel
theorem dX13_access_47 : decode cX13_access 47 = .ok (.bipush 12, 2) := by decide +kernel
theorem dX13_access_49 : decode cX13_access 49 = .ok (.if_icmp .ne 19, 3) := by decide +kernel
theorem dX13_access_52 : decode cX13_access 52 = .ok (.aload_n 0, 1) := by decide +kernel
theorem dX13_access_53 : decode cX13_access 53 = .ok (.getfield 9, 3) := by decide +kernel
theorem dX13_access_56 : decode cX13_access 56 = .ok (.iload 4, 2) := by decide +kernel
theorem dX13_access_58 : decode cX13_access 58 = .ok (.aload_n 0, 1) := by decide +kernel
theorem dX13_access_59 : decode cX13_access 59 = .ok (.iload_n 1, 1) := by decide +kernel
theorem dX13_access_60 : decode cX13_access 60 = .ok (.iload_n 2, 1) := by decide +kernel
theorem dX13_access_61 : decode cX13_access 61 = .ok (.invokevirtual 347, 3) := by decide +kernel
theorem dX13_access_64 : decode cX13_access 64 = .ok (.iastore, 1) := by decide +kernel
theorem dX13_access_65 : decode cX13_access 65 = .ok (.goto 54, 3) := by decide +kernel
theorem dX13_access_68 : decode cX13_access 68 = .ok (.iload_n 2, 1) := by decide +kernel
theorem dX13_access_69 : decode cX13_access 69 = .ok (.iconst 5, 1) := by decide +kernel
theorem dX13_access_70 : decode cX13_access 70 = .ok (.if_icmp .ne 27, 3) := by decide +kernel
theorem dX13_access_73 : decode cX13_access 73 = .ok (.aload_n 0, 1) := by decide +kernel
theorem dX13_access_74 : decode cX13_access 74 = .ok (.iload_n 1, 1) := by decide +kernel
theorem dX13_access_75 : decode cX13_access 75 = .ok (.iconst 5, 1) := by decide +kernel
theorem dX13_access_76 : decode cX13_access 76 = .ok (.aload_n 0, 1) := by decide +kernel
theorem dX13_access_77 : decode cX13_access 77 = .ok (.getfield 9, 3) := by decide +kernel
theorem dX13_access_80 : decode cX13_access 80 = .ok (.iload 4, 2) := by decide +kernel
theorem dX13_access_82 : decode cX13_access 82 = .ok (.iaload, 1) := by decide +kernel
theorem dX13_access_83 : decode cX13_access 83 = .ok (.invokevirtual 282, 3) := by decide +kernel
theorem dX13_access_86 : decode cX13_access 86 = .ok (.aload_n 0, 1) := by decide +kernel
theorem dX13_access_87 : decode cX13_access 87 = .ok (.iload_n 1, 1) := by decide +kernel
theorem dX13_access_88 : decode cX13_access 88 = .ok (.bipush 7, 2) := by decide +kernel
theorem dX13_access_90 : decode cX13_access 90 = .ok (.iconst 0, 1) := by decide +kernel
theorem dX13_access_91 : decode cX13_access 91 = .ok (.invokevirtual 282, 3) := by decide +kernel
theorem dX13_access_94 : decode cX13_access 94 = .ok (.goto 25, 3) := by decide +kernel
theorem dX13_access_97 : decode cX13_access 97 = .ok (.aload_n 0, 1) := by decide +kernel
theorem dX13_access_98 : decode cX13_access 98 = .ok (.iload_n 1, 1) := by decide +kernel
theorem dX13_access_99 : decode cX13_access 99 = .ok (.iload_n 2, 1) := by decide +kernel
theorem dX13_access_100 : decode cX13_access 100 = .ok (.iconst 1, 1) := by decide +kernel
theorem dX13_access_101 : decode cX13_access 101 = .ok (.if_icmp .ne 7, 3) := by decide +kernel
theorem dX13_access_104 : decode cX13_access 104 = .ok (.iconst 2, 1) := by decide +kernel
theorem dX13_access_105 : decode cX13_access 105 = .ok (.goto 4, 3) := by decide +kernel
theorem dX13_access_108 : decode cX13_access 108 = .ok (.iconst 3, 1) := by decide +kernel
theorem dX13_access_109 : decode cX13_access 109 = .ok (.aload_n 0, 1) := by decide +kernel
theorem dX13_access_110 : decode cX13_access 110 = .ok (.getfield 9, 3) := by decide +kernel
theorem dX13_access_113 : decode cX13_access 113 = .ok (.iload 4, 2) := by decide +kernel
theorem dX13_access_115 : decode cX13_access 115 = .ok (.iaload, 1) := by decide +kernel
theorem dX13_access_116 : decode cX13_access 116 = .ok (.invokevirtual 282, 3) := by decide +kernel
theorem dX13_access_119 : decode cX13_access 119 = .ok (.iconst 0, 1) := by decide +kernel
theorem dX13_access_120 : decode cX13_access 120 = .ok (.ireturn, 1) := by decide +kernel
theorem dX13_count_0 : decode cX13_count 0 = .ok (.aload_n 0, 1) := by decide +kernel
theorem dX13_count_1 : decode cX13_count 1 = .ok (.iconst 0, 1) := by decide +kernel
theorem dX13_count_2 : decode cX13_count 2 = .ok (.putfield 231, 3) := by decide +kernel
theorem dX13_count_5 : decode cX13_count 5 = .ok (.aload_n 0, 1) := by decide +kernel
theorem dX13_count_6 : decode cX13_count 6 = .ok (.iload_n 1, 1) := by decide +kernel
theorem dX13_count_7 : decode cX13_count 7 = .ok (.invokevirtual 268, 3) := by decide +kernel
theorem dX13_count_10 : decode cX13_count 10 = .ok (.ifCond .eq 12, 3) := by decide +kernel
theorem dX13_count_13 : decode cX13_count 13 = .ok (.iload_n 2, 1) := by decide +kernel
theorem dX13_count_14 : decode cX13_count 14 = .ok (.iconst 0, 1) := by decide +kernel
theorem dX13_count_15 : decode cX13_count 15 = .ok (.iconst 5, 1) := by decide +kernel
theorem dX13_count_16 : decode cX13_count 16 = .ok (.invokestatic 245, 3) := by decide +kernel
theorem dX13_count_19 : decode cX13_count 19 = .ok (.ifCond .ne 9, 3) := by decide +kernel
theorem dX13_count_22 : decode cX13_count 22 = .ok (.aload_n 0, 1) := by decide +kernel
theorem dX13_count_23 : decode cX13_count 23 = .ok (.iconst 1, 1) := by decide +kernel
theorem dX13_count_24 : decode cX13_count 24 = .ok (.invokevirtual 259, 3) := by decide +kernel
theorem dX13_count_27 : decode cX13_count 27 = .ok (.ireturn, 1) := by decide +kernel
theorem dX13_count_28 : decode cX13_count 28 = .ok (.aload_n 0, 1) := by decide +kernel
theorem dX13_count_29 : decode cX13_count 29 = .ok (.iload_n 1, 1) := by decide +kernel
theorem dX13_count_30 : decode cX13_count 30 = .ok (.bipush 29, 2) := by decide +kernel
theorem dX13_count_32 : decode cX13_count 32 = .ok (.iload_n 2, 1) := by decide +kernel
theorem dX13_count_33 : decode cX13_count 33 = .ok (.iadd, 1) := by decide +kernel
theorem dX13_count_34 : decode cX13_count 34 = .ok (.invokevirtual 238, 3) := by decide +kernel
theorem dX13_count_37 : decode cX13_count 37 = .ok (.ireturn, 1) := by decide +kernel
theorem dX13_levelAt_0 : decode cX13_levelAt 0 = .ok (.aload_n 0, 1) := by decide +kernel
theorem dX13_levelAt_1 : decode cX13_levelAt 1 = .ok (.iconst 0, 1) := by decide +kernel
theorem dX13_levelAt_2 : decode cX13_levelAt 2 = .ok (.putfield 231, 3) := by decide +kernel
theorem dX13_levelAt_5 : decode cX13_levelAt 5 = .ok (.iload_n 1, 1) := by decide +kernel
theorem dX13_levelAt_6 : decode cX13_levelAt 6 = .ok (.invokestatic 255, 3) := by decide +kernel
theorem dX13_levelAt_9 : decode cX13_levelAt 9 = .ok (.ifCond .eq 13, 3) := by decide +kernel
theorem dX13_levelAt_12 : decode cX13_levelAt 12 = .ok (.iload_n 2, 1) := by decide +kernel
theorem dX13_levelAt_13 : decode cX13_levelAt 13 = .ok (.iconst 0, 1) := by decide +kernel
theorem dX13_levelAt_14 : decode cX13_levelAt 14 = .ok (.bipush 63, 2) := by decide +kernel
theorem dX13_levelAt_16 : decode cX13_levelAt 16 = .ok (.invokestatic 245, 3) := by decide +kernel
theorem dX13_levelAt_19 : decode cX13_levelAt 19 = .ok (.ifCond .ne 9, 3) := by decide +kernel
theorem dX13_levelAt_22 : decode cX13_levelAt 22 = .ok (.aload_n 0, 1) := by decide +kernel
theorem dX13_levelAt_23 : decode cX13_levelAt 23 = .ok (.iconst 1, 1) := by decide +kernel
theorem dX13_levelAt_24 : decode cX13_levelAt 24 = .ok (.invokevirtual 259, 3) := by decide +kernel
theorem dX13_levelAt_27 : decode cX13_levelAt 27 = .ok (.ireturn, 1) := by decide +kernel
theorem dX13_levelAt_28 : decode cX13_levelAt 28 = .ok (.aload_n 0, 1) := by decide +kernel
theorem dX13_levelAt_29 : decode cX13_levelAt 29 = .ok (.getfield 9, 3) := by decide +kernel
theorem dX13_levelAt_32 : decode cX13_levelAt 32 = .ok (.iconst 1, 1) := by decide +kernel
theorem dX13_levelAt_33 : decode cX13_levelAt 33 = .ok (.iaload, 1) := by decide +kernel
theorem dX13_levelAt_34 : decode cX13_levelAt 34 = .ok (.iconst 1, 1) := by decide +kernel
theorem dX13_levelAt_35 : decode cX13_levelAt 35 = .ok (.isub, 1) := by decide +kernel
theorem dX13_levelAt_36 : decode cX13_levelAt 36 = .ok (.iload_n 2, 1) := by decide +kernel
theorem dX13_levelAt_37 : decode cX13_levelAt 37 = .ok (.isub, 1) := by decide +kernel
theorem dX13_levelAt_38 : decode cX13_levelAt 38 = .ok (.istore_n 3, 1) := by decide +kernel
theorem dX13_levelAt_39 : decode cX13_levelAt 39 = .ok (.iload_n 3, 1) := by decide +kernel
theorem dX13_levelAt_40 : decode cX13_levelAt 40 = .ok (.ifCond .ge 7, 3) := by decide +kernel
theorem dX13_levelAt_43 : decode cX13_levelAt 43 = .ok (.iconst (-1), 1) := by decide +kernel
theorem dX13_levelAt_44 : decode cX13_levelAt 44 = .ok (.goto 20, 3) := by decide +kernel
theorem dX13_levelAt_47 : decode cX13_levelAt 47 = .ok (.aload_n 0, 1) := by decide +kernel
theorem dX13_levelAt_48 : decode cX13_levelAt 48 = .ok (.getfield 9, 3) := by decide +kernel
theorem dX13_levelAt_51 : decode cX13_levelAt 51 = .ok (.sipush 220, 3) := by decide +kernel
theorem dX13_levelAt_54 : decode cX13_levelAt 54 = .ok (.iload_n 3, 1) := by decide +kernel
theorem dX13_levelAt_55 : decode cX13_levelAt 55 = .ok (.bipush 64, 2) := by decide +kernel
theorem dX13_levelAt_57 : decode cX13_levelAt 57 = .ok (.irem, 1) := by decide +kernel
theorem dX13_levelAt_58 : decode cX13_levelAt 58 = .ok (.iadd, 1) := by decide +kernel
theorem dX13_levelAt_59 : decode cX13_levelAt 59 = .ok (.iaload, 1) := by decide +kernel
theorem dX13_levelAt_60 : decode cX13_levelAt 60 = .ok (.iload_n 1, 1) := by decide +kernel
theorem dX13_levelAt_61 : decode cX13_levelAt 61 = .ok (.ishr, 1) := by decide +kernel
theorem dX13_levelAt_62 : decode cX13_levelAt 62 = .ok (.iconst 1, 1) := by decide +kernel
theorem dX13_levelAt_63 : decode cX13_levelAt 63 = .ok (.iand, 1) := by decide +kernel
theorem dX13_levelAt_64 : decode cX13_levelAt 64 = .ok (.ireturn, 1) := by decide +kernel
theorem dX13_edges_0 : decode cX13_edges 0 = .ok (.aload_n 0, 1) := by decide +kernel
theorem dX13_edges_1 : decode cX13_edges 1 = .ok (.iload_n 1, 1) := by decide +kernel
theorem dX13_edges_2 : decode cX13_edges 2 = .ok (.iconst 4, 1) := by decide +kernel
theorem dX13_edges_3 : decode cX13_edges 3 = .ok (.invokevirtual 265, 3) := by decide +kernel
theorem dX13_edges_6 : decode cX13_edges 6 = .ok (.ireturn, 1) := by decide +kernel
theorem dX13_highTime_0 : decode cX13_highTime 0 = .ok (.aload_n 0, 1) := by decide +kernel
theorem dX13_highTime_1 : decode cX13_highTime 1 = .ok (.iload_n 1, 1) := by decide +kernel
theorem dX13_highTime_2 : decode cX13_highTime 2 = .ok (.iconst 5, 1) := by decide +kernel
theorem dX13_highTime_3 : decode cX13_highTime 3 = .ok (.invokevirtual 265, 3) := by decide +kernel
theorem dX13_highTime_6 : decode cX13_highTime 6 = .ok (.ireturn, 1) := by decide +kernel
theorem dX13_put_0 : decode cX13_put 0 = .ok (.aload_n 0, 1) := by decide +kernel
theorem dX13_put_1 : decode cX13_put 1 = .ok (.iconst 0, 1) := by decide +kernel
theorem dX13_put_2 : decode cX13_put 2 = .ok (.putfield 231, 3) := by decide +kernel
theorem dX13_put_5 : decode cX13_put 5 = .ok (.aload_n 0, 1) := by decide +kernel
theorem dX13_put_6 : decode cX13_put 6 = .ok (.iload_n 1, 1) := by decide +kernel
theorem dX13_put_7 : decode cX13_put 7 = .ok (.invokevirtual 268, 3) := by decide +kernel
theorem dX13_put_10 : decode cX13_put 10 = .ok (.ifCond .ne 9, 3) := by decide +kernel
theorem dX13_put_13 : decode cX13_put 13 = .ok (.aload_n 0, 1) := by decide +kernel
theorem dX13_put_14 : decode cX13_put 14 = .ok (.iconst 1, 1) := by decide +kernel
theorem dX13_put_15 : decode cX13_put 15 = .ok (.invokevirtual 259, 3) := by decide +kernel
theorem dX13_put_18 : decode cX13_put 18 = .ok (.ireturn, 1) := by decide +kernel
theorem dX13_put_19 : decode cX13_put 19 = .ok (.aload_n 0, 1) := by decide +kernel
theorem dX13_put_20 : decode cX13_put 20 = .ok (.iload_n 1, 1) := by decide +kernel
theorem dX13_put_21 : decode cX13_put 21 = .ok (.iconst 0, 1) := by decide +kernel
theorem dX13_put_22 : decode cX13_put 22 = .ok (.invokevirtual 392, 3) := by decide +kernel
theorem dX13_put_25 : decode cX13_put 25 = .ok (.ifCond .eq 6, 3) := by decide +kernel
theorem dX13_put_28 : decode cX13_put 28 = .ok (.bipush (-2), 2) := by decide +kernel
theorem dX13_put_30 : decode cX13_put 30 = .ok (.ireturn, 1) := by decide +kernel
theorem dX13_put_31 : decode cX13_put 31 = .ok (.aload_n 0, 1) := by decide +kernel
theorem dX13_put_32 : decode cX13_put 32 = .ok (.invokevirtual 422, 3) := by decide +kernel
theorem dX13_put_35 : decode cX13_put 35 = .ok (.aload_n 0, 1) := by decide +kernel
theorem dX13_put_36 : decode cX13_put 36 = .ok (.iload_n 1, 1) := by decide +kernel
theorem dX13_put_37 : decode cX13_put 37 = .ok (.iconst 0, 1) := by decide +kernel
theorem dX13_put_38 : decode cX13_put 38 = .ok (.iload_n 2, 1) := by decide +kernel
theorem dX13_put_39 : decode cX13_put 39 = .ok (.invokevirtual 399, 3) := by decide +kernel
theorem dX13_put_42 : decode cX13_put 42 = .ok (.aload_n 0, 1) := by decide +kernel
theorem dX13_put_43 : decode cX13_put 43 = .ok (.iload_n 1, 1) := by decide +kernel
theorem dX13_put_44 : decode cX13_put 44 = .ok (.bipush 11, 2) := by decide +kernel
theorem dX13_put_46 : decode cX13_put 46 = .ok (.invokevirtual 238, 3) := by decide +kernel
theorem dX13_put_49 : decode cX13_put 49 = .ok (.ireturn, 1) := by decide +kernel
theorem dX13_take_0 : decode cX13_take 0 = .ok (.aload_n 0, 1) := by decide +kernel
theorem dX13_take_1 : decode cX13_take 1 = .ok (.iconst 0, 1) := by decide +kernel
theorem dX13_take_2 : decode cX13_take 2 = .ok (.putfield 231, 3) := by decide +kernel
theorem dX13_take_5 : decode cX13_take 5 = .ok (.aload_n 0, 1) := by decide +kernel
theorem dX13_take_6 : decode cX13_take 6 = .ok (.iload_n 1, 1) := by decide +kernel
theorem dX13_take_7 : decode cX13_take 7 = .ok (.invokevirtual 268, 3) := by decide +kernel
theorem dX13_take_10 : decode cX13_take 10 = .ok (.ifCond .ne 10, 3) := by decide +kernel
theorem dX13_take_13 : decode cX13_take 13 = .ok (.aload_n 0, 1) := by decide +kernel
theorem dX13_take_14 : decode cX13_take 14 = .ok (.iconst 1, 1) := by decide +kernel
theorem dX13_take_15 : decode cX13_take 15 = .ok (.invokevirtual 259, 3) := by decide +kernel
theorem dX13_take_18 : decode cX13_take 18 = .ok (.i2l, 1) := by decide +kernel
theorem dX13_take_19 : decode cX13_take 19 = .ok (.lreturn, 1) := by decide +kernel
theorem dX13_take_20 : decode cX13_take 20 = .ok (.aload_n 0, 1) := by decide +kernel
theorem dX13_take_21 : decode cX13_take 21 = .ok (.iload_n 1, 1) := by decide +kernel
theorem dX13_take_22 : decode cX13_take 22 = .ok (.bipush 12, 2) := by decide +kernel
theorem dX13_take_24 : decode cX13_take 24 = .ok (.invokevirtual 238, 3) := by decide +kernel
theorem dX13_take_27 : decode cX13_take 27 = .ok (.ifCond .ne 7, 3) := by decide +kernel
theorem dX13_take_30 : decode cX13_take 30 = .ok (.ldc2_w 425, 3) := by decide +kernel
theorem dX13_take_33 : decode cX13_take 33 = .ok (.lreturn, 1) := by decide +kernel
theorem dX13_take_34 : decode cX13_take 34 = .ok (.aload_n 0, 1) := by decide +kernel
theorem dX13_take_35 : decode cX13_take 35 = .ok (.invokevirtual 422, 3) := by decide +kernel
theorem dX13_take_38 : decode cX13_take 38 = .ok (.aload_n 0, 1) := by decide +kernel
theorem dX13_take_39 : decode cX13_take 39 = .ok (.iload_n 1, 1) := by decide +kernel
theorem dX13_take_40 : decode cX13_take 40 = .ok (.iconst 1, 1) := by decide +kernel
theorem dX13_take_41 : decode cX13_take 41 = .ok (.invokevirtual 406, 3) := by decide +kernel
theorem dX13_take_44 : decode cX13_take 44 = .ok (.invokestatic 276, 3) := by decide +kernel
theorem dX13_take_47 : decode cX13_take 47 = .ok (.lreturn, 1) := by decide +kernel
theorem dX13_enable_0 : decode cX13_enable 0 = .ok (.aload_n 0, 1) := by decide +kernel
theorem dX13_enable_1 : decode cX13_enable 1 = .ok (.aload_n 0, 1) := by decide +kernel
theorem dX13_enable_2 : decode cX13_enable 2 = .ok (.iload_n 1, 1) := by decide +kernel
theorem dX13_enable_3 : decode cX13_enable 3 = .ok (.invokevirtual 268, 3) := by decide +kernel
theorem dX13_enable_6 : decode cX13_enable 6 = .ok (.ifCond .eq 7, 3) := by decide +kernel
theorem dX13_enable_9 : decode cX13_enable 9 = .ok (.iconst 0, 1) := by decide +kernel
theorem dX13_enable_10 : decode cX13_enable 10 = .ok (.goto 4, 3) := by decide +kernel
theorem dX13_enable_13 : decode cX13_enable 13 = .ok (.iconst 1, 1) := by decide +kernel
theorem dX13_enable_14 : decode cX13_enable 14 = .ok (.putfield 231, 3) := by decide +kernel
theorem dX13_enable_17 : decode cX13_enable 17 = .ok (.aload_n 0, 1) := by decide +kernel
theorem dX13_enable_18 : decode cX13_enable 18 = .ok (.getfield 231, 3) := by decide +kernel
theorem dX13_enable_21 : decode cX13_enable 21 = .ok (.ifCond .eq 5, 3) := by decide +kernel
theorem dX13_enable_24 : decode cX13_enable 24 = .ok (.iconst 0, 1) := by decide +kernel
theorem dX13_enable_25 : decode cX13_enable 25 = .ok (.ireturn, 1) := by decide +kernel
theorem dX13_enable_26 : decode cX13_enable 26 = .ok (.aload_n 0, 1) := by decide +kernel
theorem dX13_enable_27 : decode cX13_enable 27 = .ok (.invokevirtual 422, 3) := by decide +kernel
theorem dX13_enable_30 : decode cX13_enable 30 = .ok (.aload_n 0, 1) := by decide +kernel
theorem dX13_enable_31 : decode cX13_enable 31 = .ok (.iload_n 1, 1) := by decide +kernel
theorem dX13_enable_32 : decode cX13_enable 32 = .ok (.iconst 0, 1) := by decide +kernel
theorem dX13_enable_33 : decode cX13_enable 33 = .ok (.invokevirtual 238, 3) := by decide +kernel
theorem dX13_enable_36 : decode cX13_enable 36 = .ok (.iconst 1, 1) := by decide +kernel
theorem dX13_enable_37 : decode cX13_enable 37 = .ok (.if_icmp .ne 7, 3) := by decide +kernel
theorem dX13_enable_40 : decode cX13_enable 40 = .ok (.iconst 1, 1) := by decide +kernel
theorem dX13_enable_41 : decode cX13_enable 41 = .ok (.goto 4, 3) := by decide +kernel
theorem dX13_enable_44 : decode cX13_enable 44 = .ok (.iconst 0, 1) := by decide +kernel
theorem dX13_enable_45 : decode cX13_enable 45 = .ok (.istore_n 3, 1) := by decide +kernel
theorem dX13_enable_46 : decode cX13_enable 46 = .ok (.aload_n 0, 1) := by decide +kernel
theorem dX13_enable_47 : decode cX13_enable 47 = .ok (.iload_n 1, 1) := by decide +kernel
theorem dX13_enable_48 : decode cX13_enable 48 = .ok (.iconst 0, 1) := by decide +kernel
theorem dX13_enable_49 : decode cX13_enable 49 = .ok (.iload_n 2, 1) := by decide +kernel
theorem dX13_enable_50 : decode cX13_enable 50 = .ok (.ifCond .eq 7, 3) := by decide +kernel
theorem dX13_enable_53 : decode cX13_enable 53 = .ok (.iconst 1, 1) := by decide +kernel
theorem dX13_enable_54 : decode cX13_enable 54 = .ok (.goto 4, 3) := by decide +kernel
theorem dX13_enable_57 : decode cX13_enable 57 = .ok (.iconst 0, 1) := by decide +kernel
theorem dX13_enable_58 : decode cX13_enable 58 = .ok (.invokevirtual 282, 3) := by decide +kernel
theorem dX13_enable_61 : decode cX13_enable 61 = .ok (.iload_n 3, 1) := by decide +kernel
theorem dX13_enable_62 : decode cX13_enable 62 = .ok (.ireturn, 1) := by decide +kernel
theorem dX13_begin_0 : decode cX13_begin 0 = .ok (.iconst 1, 1) := by decide +kernel
theorem dX13_begin_1 : decode cX13_begin 1 = .ok (.istore_n 2, 1) := by decide +kernel
theorem dX13_begin_2 : decode cX13_begin 2 = .ok (.iload_n 2, 1) := by decide +kernel
theorem dX13_begin_3 : decode cX13_begin 3 = .ok (.bipush 29, 2) := by decide +kernel
theorem dX13_begin_5 : decode cX13_begin 5 = .ok (.if_icmp .ge 16, 3) := by decide +kernel
theorem dX13_begin_8 : decode cX13_begin 8 = .ok (.aload_n 0, 1) := by decide +kernel
theorem dX13_begin_9 : decode cX13_begin 9 = .ok (.iload_n 1, 1) := by decide +kernel
theorem dX13_begin_10 : decode cX13_begin 10 = .ok (.iload_n 2, 1) := by decide +kernel
theorem dX13_begin_11 : decode cX13_begin 11 = .ok (.iconst 0, 1) := by decide +kernel
theorem dX13_begin_12 : decode cX13_begin 12 = .ok (.invokevirtual 282, 3) := by decide +kernel
theorem dX13_begin_15 : decode cX13_begin 15 = .ok (.iinc 2 1, 3) := by decide +kernel
theorem dX13_begin_18 : decode cX13_begin 18 = .ok (.goto (-16), 3) := by decide +kernel
theorem dX13_begin_21 : decode cX13_begin 21 = .ok (.aload_n 0, 1) := by decide +kernel
theorem dX13_begin_22 : decode cX13_begin 22 = .ok (.iload_n 1, 1) := by decide +kernel
theorem dX13_begin_23 : decode cX13_begin 23 = .ok (.iconst 1, 1) := by decide +kernel
theorem dX13_begin_24 : decode cX13_begin 24 = .ok (.aload_n 0, 1) := by decide +kernel
theorem dX13_begin_25 : decode cX13_begin 25 = .ok (.iload_n 1, 1) := by decide +kernel
theorem dX13_begin_26 : decode cX13_begin 26 = .ok (.iconst 1, 1) := by decide +kernel
theorem dX13_begin_27 : decode cX13_begin 27 = .ok (.invokevirtual 249, 3) := by decide +kernel
theorem dX13_begin_30 : decode cX13_begin 30 = .ok (.invokevirtual 282, 3) := by decide +kernel
theorem dX13_begin_33 : decode cX13_begin 33 = .ok (.aload_n 0, 1) := by decide +kernel
theorem dX13_begin_34 : decode cX13_begin 34 = .ok (.iload_n 1, 1) := by decide +kernel
theorem dX13_begin_35 : decode cX13_begin 35 = .ok (.bipush 7, 2) := by decide +kernel
theorem dX13_begin_37 : decode cX13_begin 37 = .ok (.bipush 32, 2) := by decide +kernel
theorem dX13_begin_39 : decode cX13_begin 39 = .ok (.invokevirtual 282, 3) := by decide +kernel
theorem dX13_begin_42 : decode cX13_begin 42 = .ok (.aload_n 0, 1) := by decide +kernel
theorem dX13_begin_43 : decode cX13_begin 43 = .ok (.iload_n 1, 1) := by decide +kernel
theorem dX13_begin_44 : decode cX13_begin 44 = .ok (.bipush 10, 2) := by decide +kernel
theorem dX13_begin_46 : decode cX13_begin 46 = .ok (.aload_n 0, 1) := by decide +kernel
theorem dX13_begin_47 : decode cX13_begin 47 = .ok (.iload_n 1, 1) := by decide +kernel
theorem dX13_begin_48 : decode cX13_begin 48 = .ok (.iconst 2, 1) := by decide +kernel
theorem dX13_begin_49 : decode cX13_begin 49 = .ok (.invokevirtual 249, 3) := by decide +kernel
theorem dX13_begin_52 : decode cX13_begin 52 = .ok (.sipush 256, 3) := by decide +kernel
theorem dX13_begin_55 : decode cX13_begin 55 = .ok (.isub, 1) := by decide +kernel
theorem dX13_begin_56 : decode cX13_begin 56 = .ok (.invokevirtual 282, 3) := by decide +kernel
theorem dX13_begin_59 : decode cX13_begin 59 = .ok (.return_, 1) := by decide +kernel
theorem dX13_restart_0 : decode cX13_restart 0 = .ok (.aload_n 0, 1) := by decide +kernel
theorem dX13_restart_1 : decode cX13_restart 1 = .ok (.iconst 0, 1) := by decide +kernel
theorem dX13_restart_2 : decode cX13_restart 2 = .ok (.putfield 231, 3) := by decide +kernel
theorem dX13_restart_5 : decode cX13_restart 5 = .ok (.aload_n 0, 1) := by decide +kernel
theorem dX13_restart_6 : decode cX13_restart 6 = .ok (.iload_n 1, 1) := by decide +kernel
theorem dX13_restart_7 : decode cX13_restart 7 = .ok (.invokevirtual 268, 3) := by decide +kernel
theorem dX13_restart_10 : decode cX13_restart 10 = .ok (.ifCond .ne 9, 3) := by decide +kernel
theorem dX13_restart_13 : decode cX13_restart 13 = .ok (.aload_n 0, 1) := by decide +kernel
theorem dX13_restart_14 : decode cX13_restart 14 = .ok (.iconst 1, 1) := by decide +kernel
theorem dX13_restart_15 : decode cX13_restart 15 = .ok (.invokevirtual 259, 3) := by decide +kernel
theorem dX13_restart_18 : decode cX13_restart 18 = .ok (.ireturn, 1) := by decide +kernel
theorem dX13_restart_19 : decode cX13_restart 19 = .ok (.aload_n 0, 1) := by decide +kernel
theorem dX13_restart_20 : decode cX13_restart 20 = .ok (.invokevirtual 422, 3) := by decide +kernel
theorem dX13_restart_23 : decode cX13_restart 23 = .ok (.aload_n 0, 1) := by decide +kernel
theorem dX13_restart_24 : decode cX13_restart 24 = .ok (.iload_n 1, 1) := by decide +kernel
theorem dX13_restart_25 : decode cX13_restart 25 = .ok (.iconst 1, 1) := by decide +kernel
theorem dX13_restart_26 : decode cX13_restart 26 = .ok (.invokevirtual 238, 3) := by decide +kernel
theorem dX13_restart_29 : decode cX13_restart 29 = .ok (.istore_n 2, 1) := by decide +kernel
theorem dX13_restart_30 : decode cX13_restart 30 = .ok (.aload_n 0, 1) := by decide +kernel
theorem dX13_restart_31 : decode cX13_restart 31 = .ok (.iload_n 1, 1) := by decide +kernel
theorem dX13_restart_32 : decode cX13_restart 32 = .ok (.invokevirtual 427, 3) := by decide +kernel
theorem dX13_restart_35 : decode cX13_restart 35 = .ok (.iload_n 2, 1) := by decide +kernel
theorem dX13_restart_36 : decode cX13_restart 36 = .ok (.ireturn, 1) := by decide +kernel
theorem dX13_drive_0 : decode cX13_drive 0 = .ok (.aload_n 0, 1) := by decide +kernel
theorem dX13_drive_1 : decode cX13_drive 1 = .ok (.iconst 0, 1) := by decide +kernel
theorem dX13_drive_2 : decode cX13_drive 2 = .ok (.putfield 231, 3) := by decide +kernel
theorem dX13_drive_5 : decode cX13_drive 5 = .ok (.iload_n 1, 1) := by decide +kernel
theorem dX13_drive_6 : decode cX13_drive 6 = .ok (.invokestatic 255, 3) := by decide +kernel
theorem dX13_drive_9 : decode cX13_drive 9 = .ok (.ifCond .ne 9, 3) := by decide +kernel
theorem dX13_drive_12 : decode cX13_drive 12 = .ok (.aload_n 0, 1) := by decide +kernel
theorem dX13_drive_13 : decode cX13_drive 13 = .ok (.iconst 1, 1) := by decide +kernel
theorem dX13_drive_14 : decode cX13_drive 14 = .ok (.invokevirtual 259, 3) := by decide +kernel
theorem dX13_drive_17 : decode cX13_drive 17 = .ok (.ireturn, 1) := by decide +kernel
theorem dX13_drive_18 : decode cX13_drive 18 = .ok (.iload_n 2, 1) := by decide +kernel
theorem dX13_drive_19 : decode cX13_drive 19 = .ok (.iconst 0, 1) := by decide +kernel
theorem dX13_drive_20 : decode cX13_drive 20 = .ok (.iconst 1, 1) := by decide +kernel
theorem dX13_drive_21 : decode cX13_drive 21 = .ok (.invokestatic 245, 3) := by decide +kernel
theorem dX13_drive_24 : decode cX13_drive 24 = .ok (.ifCond .ne 9, 3) := by decide +kernel
theorem dX13_drive_27 : decode cX13_drive 27 = .ok (.aload_n 0, 1) := by decide +kernel
theorem dX13_drive_28 : decode cX13_drive 28 = .ok (.iconst 2, 1) := by decide +kernel
theorem dX13_drive_29 : decode cX13_drive 29 = .ok (.invokevirtual 259, 3) := by decide +kernel
theorem dX13_drive_32 : decode cX13_drive 32 = .ok (.ireturn, 1) := by decide +kernel
theorem dX13_drive_33 : decode cX13_drive 33 = .ok (.aload_n 0, 1) := by decide +kernel
theorem dX13_drive_34 : decode cX13_drive 34 = .ok (.invokevirtual 422, 3) := by decide +kernel
theorem dX13_drive_37 : decode cX13_drive 37 = .ok (.aload_n 0, 1) := by decide +kernel
theorem dX13_drive_38 : decode cX13_drive 38 = .ok (.iload_n 1, 1) := by decide +kernel
theorem dX13_drive_39 : decode cX13_drive 39 = .ok (.iconst 2, 1) := by decide +kernel
theorem dX13_drive_40 : decode cX13_drive 40 = .ok (.iload_n 2, 1) := by decide +kernel
theorem dX13_drive_41 : decode cX13_drive 41 = .ok (.invokevirtual 284, 3) := by decide +kernel
theorem dX13_drive_44 : decode cX13_drive 44 = .ok (.aload_n 0, 1) := by decide +kernel
theorem dX13_drive_45 : decode cX13_drive 45 = .ok (.iload_n 1, 1) := by decide +kernel
theorem dX13_drive_46 : decode cX13_drive 46 = .ok (.invokevirtual 262, 3) := by decide +kernel
theorem dX13_drive_49 : decode cX13_drive 49 = .ok (.ireturn, 1) := by decide +kernel
theorem dX13_schedule_0 : decode cX13_schedule 0 = .ok (.aload_n 0, 1) := by decide +kernel
theorem dX13_schedule_1 : decode cX13_schedule 1 = .ok (.iconst 0, 1) := by decide +kernel
theorem dX13_schedule_2 : decode cX13_schedule 2 = .ok (.putfield 231, 3) := by decide +kernel
theorem dX13_schedule_5 : decode cX13_schedule 5 = .ok (.iload_n 2, 1) := by decide +kernel
theorem dX13_schedule_6 : decode cX13_schedule 6 = .ok (.invokestatic 255, 3) := by decide +kernel
theorem dX13_schedule_9 : decode cX13_schedule 9 = .ok (.ifCond .ne 9, 3) := by decide +kernel
theorem dX13_schedule_12 : decode cX13_schedule 12 = .ok (.aload_n 0, 1) := by decide +kernel
theorem dX13_schedule_13 : decode cX13_schedule 13 = .ok (.iconst 1, 1) := by decide +kernel
theorem dX13_schedule_14 : decode cX13_schedule 14 = .ok (.invokevirtual 259, 3) := by decide +kernel
theorem dX13_schedule_17 : decode cX13_schedule 17 = .ok (.ireturn, 1) := by decide +kernel
theorem dX13_schedule_18 : decode cX13_schedule 18 = .ok (.iload_n 1, 1) := by decide +kernel
theorem dX13_schedule_19 : decode cX13_schedule 19 = .ok (.aload_n 0, 1) := by decide +kernel
theorem dX13_schedule_20 : decode cX13_schedule 20 = .ok (.getfield 9, 3) := by decide +kernel
theorem dX13_schedule_23 : decode cX13_schedule 23 = .ok (.iconst 1, 1) := by decide +kernel
theorem dX13_schedule_24 : decode cX13_schedule 24 = .ok (.iaload, 1) := by decide +kernel
theorem dX13_schedule_25 : decode cX13_schedule 25 = .ok (.ldc_w 430, 3) := by decide +kernel
theorem dX13_schedule_28 : decode cX13_schedule 28 = .ok (.invokestatic 245, 3) := by decide +kernel
theorem dX13_schedule_31 : decode cX13_schedule 31 = .ok (.ifCond .eq 12, 3) := by decide +kernel
theorem dX13_schedule_34 : decode cX13_schedule 34 = .ok (.iload_n 3, 1) := by decide +kernel
theorem dX13_schedule_35 : decode cX13_schedule 35 = .ok (.iconst 0, 1) := by decide +kernel
theorem dX13_schedule_36 : decode cX13_schedule 36 = .ok (.iconst 1, 1) := by decide +kernel
theorem dX13_schedule_37 : decode cX13_schedule 37 = .ok (.invokestatic 245, 3) := by decide +kernel
theorem dX13_schedule_40 : decode cX13_schedule 40 = .ok (.ifCond .ne 9, 3) := by decide +kernel
theorem dX13_schedule_43 : decode cX13_schedule 43 = .ok (.aload_n 0, 1) := by decide +kernel
theorem dX13_schedule_44 : decode cX13_schedule 44 = .ok (.iconst 2, 1) := by decide +kernel
theorem dX13_schedule_45 : decode cX13_schedule 45 = .ok (.invokevirtual 259, 3) := by decide +kernel
theorem dX13_schedule_48 : decode cX13_schedule 48 = .ok (.ireturn, 1) := by decide +kernel
theorem dX13_schedule_49 : decode cX13_schedule 49 = .ok (.aload_n 0, 1) := by decide +kernel
theorem dX13_schedule_50 : decode cX13_schedule 50 = .ok (.getfield 9, 3) := by decide +kernel
theorem dX13_schedule_53 : decode cX13_schedule 53 = .ok (.iconst 3, 1) := by decide +kernel
theorem dX13_schedule_54 : decode cX13_schedule 54 = .ok (.iaload, 1) := by decide +kernel
theorem dX13_schedule_55 : decode cX13_schedule 55 = .ok (.bipush 32, 2) := by decide +kernel
theorem dX13_schedule_57 : decode cX13_schedule 57 = .ok (.if_icmp .ne 6, 3) := by decide +kernel
theorem dX13_schedule_60 : decode cX13_schedule 60 = .ok (.bipush (-2), 2) := by decide +kernel
theorem dX13_schedule_62 : decode cX13_schedule 62 = .ok (.ireturn, 1) := by decide +kernel
theorem dX13_schedule_63 : decode cX13_schedule 63 = .ok (.aload_n 0, 1) := by decide +kernel
theorem dX13_schedule_64 : decode cX13_schedule 64 = .ok (.invokevirtual 422, 3) := by decide +kernel
theorem dX13_schedule_67 : decode cX13_schedule 67 = .ok (.bipush 124, 2) := by decide +kernel
theorem dX13_schedule_69 : decode cX13_schedule 69 = .ok (.iconst 3, 1) := by decide +kernel
theorem dX13_schedule_70 : decode cX13_schedule 70 = .ok (.aload_n 0, 1) := by decide +kernel
theorem dX13_schedule_71 : decode cX13_schedule 71 = .ok (.getfield 9, 3) := by decide +kernel
theorem dX13_schedule_74 : decode cX13_schedule 74 = .ok (.iconst 3, 1) := by decide +kernel
theorem dX13_schedule_75 : decode cX13_schedule 75 = .ok (.iaload, 1) := by decide +kernel
theorem dX13_schedule_76 : decode cX13_schedule 76 = .ok (.imul, 1) := by decide +kernel
theorem dX13_schedule_77 : decode cX13_schedule 77 = .ok (.iadd, 1) := by decide +kernel
theorem dX13_schedule_78 : decode cX13_schedule 78 = .ok (.istore 4, 2) := by decide +kernel
theorem dX13_schedule_80 : decode cX13_schedule 80 = .ok (.aload_n 0, 1) := by decide +kernel
theorem dX13_schedule_81 : decode cX13_schedule 81 = .ok (.getfield 9, 3) := by decide +kernel
theorem dX13_schedule_84 : decode cX13_schedule 84 = .ok (.iload 4, 2) := by decide +kernel
theorem dX13_schedule_86 : decode cX13_schedule 86 = .ok (.iload_n 1, 1) := by decide +kernel
theorem dX13_schedule_87 : decode cX13_schedule 87 = .ok (.iastore, 1) := by decide +kernel
theorem dX13_schedule_88 : decode cX13_schedule 88 = .ok (.aload_n 0, 1) := by decide +kernel
theorem dX13_schedule_89 : decode cX13_schedule 89 = .ok (.getfield 9, 3) := by decide +kernel
theorem dX13_schedule_92 : decode cX13_schedule 92 = .ok (.iload 4, 2) := by decide +kernel
theorem dX13_schedule_94 : decode cX13_schedule 94 = .ok (.iconst 1, 1) := by decide +kernel
theorem dX13_schedule_95 : decode cX13_schedule 95 = .ok (.iadd, 1) := by decide +kernel
theorem dX13_schedule_96 : decode cX13_schedule 96 = .ok (.iload_n 2, 1) := by decide +kernel
theorem dX13_schedule_97 : decode cX13_schedule 97 = .ok (.iastore, 1) := by decide +kernel
theorem dX13_schedule_98 : decode cX13_schedule 98 = .ok (.aload_n 0, 1) := by decide +kernel
theorem dX13_schedule_99 : decode cX13_schedule 99 = .ok (.getfield 9, 3) := by decide +kernel
theorem dX13_schedule_102 : decode cX13_schedule 102 = .ok (.iload 4, 2) := by decide +kernel
theorem dX13_schedule_104 : decode cX13_schedule 104 = .ok (.iconst 2, 1) := by decide +kernel
theorem dX13_schedule_105 : decode cX13_schedule 105 = .ok (.iadd, 1) := by decide +kernel
theorem dX13_schedule_106 : decode cX13_schedule 106 = .ok (.iload_n 3, 1) := by decide +kernel
theorem dX13_schedule_107 : decode cX13_schedule 107 = .ok (.iastore, 1) := by decide +kernel
theorem dX13_schedule_108 : decode cX13_schedule 108 = .ok (.aload_n 0, 1) := by decide +kernel
theorem dX13_schedule_109 : decode cX13_schedule 109 = .ok (.getfield 9, 3) := by decide +kernel
theorem dX13_schedule_112 : decode cX13_schedule 112 = .ok (.iconst 3, 1) := by decide +kernel
theorem dX13_schedule_113 : decode cX13_schedule 113 = .ok (.dup2, 1) := by decide +kernel
theorem dX13_schedule_114 : decode cX13_schedule 114 = .ok (.iaload, 1) := by decide +kernel
theorem dX13_schedule_115 : decode cX13_schedule 115 = .ok (.iconst 1, 1) := by decide +kernel
theorem dX13_schedule_116 : decode cX13_schedule 116 = .ok (.iadd, 1) := by decide +kernel
theorem dX13_schedule_117 : decode cX13_schedule 117 = .ok (.iastore, 1) := by decide +kernel
theorem dX13_schedule_118 : decode cX13_schedule 118 = .ok (.aload_n 0, 1) := by decide +kernel
theorem dX13_schedule_119 : decode cX13_schedule 119 = .ok (.getfield 9, 3) := by decide +kernel
theorem dX13_schedule_122 : decode cX13_schedule 122 = .ok (.iconst 3, 1) := by decide +kernel
theorem dX13_schedule_123 : decode cX13_schedule 123 = .ok (.iaload, 1) := by decide +kernel
theorem dX13_schedule_124 : decode cX13_schedule 124 = .ok (.ireturn, 1) := by decide +kernel
theorem dX13_poke_0 : decode cX13_poke 0 = .ok (.aload_n 0, 1) := by decide +kernel
theorem dX13_poke_1 : decode cX13_poke 1 = .ok (.iconst 0, 1) := by decide +kernel
theorem dX13_poke_2 : decode cX13_poke 2 = .ok (.putfield 231, 3) := by decide +kernel
theorem dX13_poke_5 : decode cX13_poke 5 = .ok (.iload_n 1, 1) := by decide +kernel
theorem dX13_poke_6 : decode cX13_poke 6 = .ok (.iconst 0, 1) := by decide +kernel
theorem dX13_poke_7 : decode cX13_poke 7 = .ok (.bipush 15, 2) := by decide +kernel
theorem dX13_poke_9 : decode cX13_poke 9 = .ok (.invokestatic 245, 3) := by decide +kernel
theorem dX13_poke_12 : decode cX13_poke 12 = .ok (.ifCond .ne 9, 3) := by decide +kernel
theorem dX13_poke_15 : decode cX13_poke 15 = .ok (.aload_n 0, 1) := by decide +kernel
theorem dX13_poke_16 : decode cX13_poke 16 = .ok (.iconst 1, 1) := by decide +kernel
theorem dX13_poke_17 : decode cX13_poke 17 = .ok (.invokevirtual 259, 3) := by decide +kernel
theorem dX13_poke_20 : decode cX13_poke 20 = .ok (.ireturn, 1) := by decide +kernel
theorem dX13_poke_21 : decode cX13_poke 21 = .ok (.aload_n 0, 1) := by decide +kernel
theorem dX13_poke_22 : decode cX13_poke 22 = .ok (.invokevirtual 422, 3) := by decide +kernel
theorem dX13_poke_25 : decode cX13_poke 25 = .ok (.aload_n 0, 1) := by decide +kernel
theorem dX13_poke_26 : decode cX13_poke 26 = .ok (.getfield 9, 3) := by decide +kernel
theorem dX13_poke_29 : decode cX13_poke 29 = .ok (.bipush 108, 2) := by decide +kernel
theorem dX13_poke_31 : decode cX13_poke 31 = .ok (.iload_n 1, 1) := by decide +kernel
theorem dX13_poke_32 : decode cX13_poke 32 = .ok (.iadd, 1) := by decide +kernel
theorem dX13_poke_33 : decode cX13_poke 33 = .ok (.iaload, 1) := by decide +kernel
theorem dX13_poke_34 : decode cX13_poke 34 = .ok (.istore_n 3, 1) := by decide +kernel
theorem dX13_poke_35 : decode cX13_poke 35 = .ok (.aload_n 0, 1) := by decide +kernel
theorem dX13_poke_36 : decode cX13_poke 36 = .ok (.getfield 9, 3) := by decide +kernel
theorem dX13_poke_39 : decode cX13_poke 39 = .ok (.bipush 108, 2) := by decide +kernel
theorem dX13_poke_41 : decode cX13_poke 41 = .ok (.iload_n 1, 1) := by decide +kernel
theorem dX13_poke_42 : decode cX13_poke 42 = .ok (.iadd, 1) := by decide +kernel
theorem dX13_poke_43 : decode cX13_poke 43 = .ok (.iload_n 2, 1) := by decide +kernel
theorem dX13_poke_44 : decode cX13_poke 44 = .ok (.iastore, 1) := by decide +kernel
theorem dX13_poke_45 : decode cX13_poke 45 = .ok (.iload_n 3, 1) := by decide +kernel
theorem dX13_poke_46 : decode cX13_poke 46 = .ok (.ireturn, 1) := by decide +kernel
theorem dX13_doneByAll_0 : decode cX13_doneByAll 0 = .ok (.iconst 0, 1) := by decide +kernel
theorem dX13_doneByAll_1 : decode cX13_doneByAll 1 = .ok (.istore_n 1, 1) := by decide +kernel
theorem dX13_doneByAll_2 : decode cX13_doneByAll 2 = .ok (.iconst 0, 1) := by decide +kernel
theorem dX13_doneByAll_3 : decode cX13_doneByAll 3 = .ok (.istore_n 2, 1) := by decide +kernel
theorem dX13_doneByAll_4 : decode cX13_doneByAll 4 = .ok (.iload_n 2, 1) := by decide +kernel
theorem dX13_doneByAll_5 : decode cX13_doneByAll 5 = .ok (.iconst 4, 1) := by decide +kernel
theorem dX13_doneByAll_6 : decode cX13_doneByAll 6 = .ok (.if_icmp .ge 19, 3) := by decide +kernel
theorem dX13_doneByAll_9 : decode cX13_doneByAll 9 = .ok (.iload_n 1, 1) := by decide +kernel
theorem dX13_doneByAll_10 : decode cX13_doneByAll 10 = .ok (.aload_n 0, 1) := by decide +kernel
theorem dX13_doneByAll_11 : decode cX13_doneByAll 11 = .ok (.iload_n 2, 1) := by decide +kernel
theorem dX13_doneByAll_12 : decode cX13_doneByAll 12 = .ok (.bipush 29, 2) := by decide +kernel
theorem dX13_doneByAll_14 : decode cX13_doneByAll 14 = .ok (.invokevirtual 238, 3) := by decide +kernel
theorem dX13_doneByAll_17 : decode cX13_doneByAll 17 = .ok (.iadd, 1) := by decide +kernel
theorem dX13_doneByAll_18 : decode cX13_doneByAll 18 = .ok (.istore_n 1, 1) := by decide +kernel
theorem dX13_doneByAll_19 : decode cX13_doneByAll 19 = .ok (.iinc 2 1, 3) := by decide +kernel
theorem dX13_doneByAll_22 : decode cX13_doneByAll 22 = .ok (.goto (-18), 3) := by decide +kernel
theorem dX13_doneByAll_25 : decode cX13_doneByAll 25 = .ok (.iload_n 1, 1) := by decide +kernel
theorem dX13_doneByAll_26 : decode cX13_doneByAll 26 = .ok (.ireturn, 1) := by decide +kernel
theorem dX13_run_0 : decode cX13_run 0 = .ok (.aload_n 0, 1) := by decide +kernel
theorem dX13_run_1 : decode cX13_run 1 = .ok (.iconst 0, 1) := by decide +kernel
theorem dX13_run_2 : decode cX13_run 2 = .ok (.putfield 231, 3) := by decide +kernel
theorem dX13_run_5 : decode cX13_run 5 = .ok (.iload_n 1, 1) := by decide +kernel
theorem dX13_run_6 : decode cX13_run 6 = .ok (.iconst 0, 1) := by decide +kernel
theorem dX13_run_7 : decode cX13_run 7 = .ok (.sipush 1000, 3) := by decide +kernel
theorem dX13_run_10 : decode cX13_run 10 = .ok (.invokestatic 245, 3) := by decide +kernel
theorem dX13_run_13 : decode cX13_run 13 = .ok (.ifCond .ne 9, 3) := by decide +kernel
theorem dX13_run_16 : decode cX13_run 16 = .ok (.aload_n 0, 1) := by decide +kernel
theorem dX13_run_17 : decode cX13_run 17 = .ok (.iconst 1, 1) := by decide +kernel
theorem dX13_run_18 : decode cX13_run 18 = .ok (.invokevirtual 259, 3) := by decide +kernel
theorem dX13_run_21 : decode cX13_run 21 = .ok (.ireturn, 1) := by decide +kernel
theorem dX13_run_22 : decode cX13_run 22 = .ok (.aload_n 0, 1) := by decide +kernel
theorem dX13_run_23 : decode cX13_run 23 = .ok (.getfield 9, 3) := by decide +kernel
theorem dX13_run_26 : decode cX13_run 26 = .ok (.iconst 1, 1) := by decide +kernel
theorem dX13_run_27 : decode cX13_run 27 = .ok (.iaload, 1) := by decide +kernel
theorem dX13_run_28 : decode cX13_run 28 = .ok (.iload_n 1, 1) := by decide +kernel
theorem dX13_run_29 : decode cX13_run 29 = .ok (.iadd, 1) := by decide +kernel
theorem dX13_run_30 : decode cX13_run 30 = .ok (.ldc_w 430, 3) := by decide +kernel
theorem dX13_run_33 : decode cX13_run 33 = .ok (.if_icmp .le 6, 3) := by decide +kernel
theorem dX13_run_36 : decode cX13_run 36 = .ok (.bipush (-4), 2) := by decide +kernel
theorem dX13_run_38 : decode cX13_run 38 = .ok (.ireturn, 1) := by decide +kernel
theorem dX13_run_39 : decode cX13_run 39 = .ok (.aload_n 0, 1) := by decide +kernel
theorem dX13_run_40 : decode cX13_run 40 = .ok (.invokevirtual 422, 3) := by decide +kernel
theorem dX13_run_43 : decode cX13_run 43 = .ok (.aload_n 0, 1) := by decide +kernel
theorem dX13_run_44 : decode cX13_run 44 = .ok (.invokevirtual 431, 3) := by decide +kernel
theorem dX13_run_47 : decode cX13_run 47 = .ok (.istore_n 2, 1) := by decide +kernel
theorem dX13_run_48 : decode cX13_run 48 = .ok (.iconst 0, 1) := by decide +kernel
theorem dX13_run_49 : decode cX13_run 49 = .ok (.istore_n 3, 1) := by decide +kernel
theorem dX13_run_50 : decode cX13_run 50 = .ok (.iload_n 3, 1) := by decide +kernel
theorem dX13_run_51 : decode cX13_run 51 = .ok (.iload_n 1, 1) := by decide +kernel
theorem dX13_run_52 : decode cX13_run 52 = .ok (.if_icmp .ge 13, 3) := by decide +kernel
theorem dX13_run_55 : decode cX13_run 55 = .ok (.aload_n 0, 1) := by decide +kernel
theorem dX13_run_56 : decode cX13_run 56 = .ok (.invokevirtual 435, 3) := by decide +kernel
theorem dX13_run_59 : decode cX13_run 59 = .ok (.iinc 3 1, 3) := by decide +kernel
theorem dX13_run_62 : decode cX13_run 62 = .ok (.goto (-12), 3) := by decide +kernel
theorem dX13_run_65 : decode cX13_run 65 = .ok (.aload_n 0, 1) := by decide +kernel
theorem dX13_run_66 : decode cX13_run 66 = .ok (.invokevirtual 431, 3) := by decide +kernel
theorem dX13_run_69 : decode cX13_run 69 = .ok (.iload_n 2, 1) := by decide +kernel
theorem dX13_run_70 : decode cX13_run 70 = .ok (.isub, 1) := by decide +kernel
theorem dX13_run_71 : decode cX13_run 71 = .ok (.ireturn, 1) := by decide +kernel
theorem dX13_isLimit_0 : decode cX13_isLimit 0 = .ok (.iload_n 0, 1) := by decide +kernel
theorem dX13_isLimit_1 : decode cX13_isLimit 1 = .ok (.iconst 0, 1) := by decide +kernel
theorem dX13_isLimit_2 : decode cX13_isLimit 2 = .ok (.sipush 2000, 3) := by decide +kernel
theorem dX13_isLimit_5 : decode cX13_isLimit 5 = .ok (.invokestatic 245, 3) := by decide +kernel
theorem dX13_isLimit_8 : decode cX13_isLimit 8 = .ok (.ireturn, 1) := by decide +kernel
theorem dX13_cyclesUntil_0 : decode cX13_cyclesUntil 0 = .ok (.aload_n 0, 1) := by decide +kernel
theorem dX13_cyclesUntil_1 : decode cX13_cyclesUntil 1 = .ok (.iconst 0, 1) := by decide +kernel
theorem dX13_cyclesUntil_2 : decode cX13_cyclesUntil 2 = .ok (.putfield 231, 3) := by decide +kernel
theorem dX13_cyclesUntil_5 : decode cX13_cyclesUntil 5 = .ok (.iload_n 1, 1) := by decide +kernel
theorem dX13_cyclesUntil_6 : decode cX13_cyclesUntil 6 = .ok (.invokestatic 255, 3) := by decide +kernel
theorem dX13_cyclesUntil_9 : decode cX13_cyclesUntil 9 = .ok (.ifCond .ne 9, 3) := by decide +kernel
theorem dX13_cyclesUntil_12 : decode cX13_cyclesUntil 12 = .ok (.aload_n 0, 1) := by decide +kernel
theorem dX13_cyclesUntil_13 : decode cX13_cyclesUntil 13 = .ok (.iconst 1, 1) := by decide +kernel
theorem dX13_cyclesUntil_14 : decode cX13_cyclesUntil 14 = .ok (.invokevirtual 259, 3) := by decide +kernel
theorem dX13_cyclesUntil_17 : decode cX13_cyclesUntil 17 = .ok (.ireturn, 1) := by decide +kernel
theorem dX13_cyclesUntil_18 : decode cX13_cyclesUntil 18 = .ok (.iload_n 2, 1) := by decide +kernel
theorem dX13_cyclesUntil_19 : decode cX13_cyclesUntil 19 = .ok (.iconst 0, 1) := by decide +kernel
theorem dX13_cyclesUntil_20 : decode cX13_cyclesUntil 20 = .ok (.iconst 1, 1) := by decide +kernel
theorem dX13_cyclesUntil_21 : decode cX13_cyclesUntil 21 = .ok (.invokestatic 245, 3) := by decide +kernel
theorem dX13_cyclesUntil_24 : decode cX13_cyclesUntil 24 = .ok (.ifCond .eq 10, 3) := by decide +kernel
theorem dX13_cyclesUntil_27 : decode cX13_cyclesUntil 27 = .ok (.iload_n 3, 1) := by decide +kernel
theorem dX13_cyclesUntil_28 : decode cX13_cyclesUntil 28 = .ok (.invokestatic 438, 3) := by decide +kernel
theorem dX13_cyclesUntil_31 : decode cX13_cyclesUntil 31 = .ok (.ifCond .ne 9, 3) := by decide +kernel
theorem dX13_cyclesUntil_34 : decode cX13_cyclesUntil 34 = .ok (.aload_n 0, 1) := by decide +kernel
theorem dX13_cyclesUntil_35 : decode cX13_cyclesUntil 35 = .ok (.iconst 2, 1) := by decide +kernel
theorem dX13_cyclesUntil_36 : decode cX13_cyclesUntil 36 = .ok (.invokevirtual 259, 3) := by decide +kernel
theorem dX13_cyclesUntil_39 : decode cX13_cyclesUntil 39 = .ok (.ireturn, 1) := by decide +kernel
theorem dX13_cyclesUntil_40 : decode cX13_cyclesUntil 40 = .ok (.aload_n 0, 1) := by decide +kernel
theorem dX13_cyclesUntil_41 : decode cX13_cyclesUntil 41 = .ok (.getfield 9, 3) := by decide +kernel
theorem dX13_cyclesUntil_44 : decode cX13_cyclesUntil 44 = .ok (.iconst 0, 1) := by decide +kernel
theorem dX13_cyclesUntil_45 : decode cX13_cyclesUntil 45 = .ok (.aload_n 0, 1) := by decide +kernel
theorem dX13_cyclesUntil_46 : decode cX13_cyclesUntil 46 = .ok (.getfield 16, 3) := by decide +kernel
theorem dX13_cyclesUntil_49 : decode cX13_cyclesUntil 49 = .ok (.iconst 0, 1) := by decide +kernel
theorem dX13_cyclesUntil_50 : decode cX13_cyclesUntil 50 = .ok (.invokestatic 441, 3) := by decide +kernel
theorem dX13_cyclesUntil_53 : decode cX13_cyclesUntil 53 = .ok (.iconst 0, 1) := by decide +kernel
theorem dX13_cyclesUntil_54 : decode cX13_cyclesUntil 54 = .ok (.istore 4, 2) := by decide +kernel
theorem dX13_cyclesUntil_56 : decode cX13_cyclesUntil 56 = .ok (.iload 4, 2) := by decide +kernel
theorem dX13_cyclesUntil_58 : decode cX13_cyclesUntil 58 = .ok (.iload_n 3, 1) := by decide +kernel
theorem dX13_cyclesUntil_59 : decode cX13_cyclesUntil 59 = .ok (.if_icmp .ge 22, 3) := by decide +kernel
theorem dX13_cyclesUntil_62 : decode cX13_cyclesUntil 62 = .ok (.aload_n 0, 1) := by decide +kernel
theorem dX13_cyclesUntil_63 : decode cX13_cyclesUntil 63 = .ok (.iload_n 1, 1) := by decide +kernel
theorem dX13_cyclesUntil_64 : decode cX13_cyclesUntil 64 = .ok (.invokevirtual 262, 3) := by decide +kernel
theorem dX13_cyclesUntil_67 : decode cX13_cyclesUntil 67 = .ok (.iload_n 2, 1) := by decide +kernel
theorem dX13_cyclesUntil_68 : decode cX13_cyclesUntil 68 = .ok (.if_icmp .eq 13, 3) := by decide +kernel
theorem dX13_cyclesUntil_71 : decode cX13_cyclesUntil 71 = .ok (.aload_n 0, 1) := by decide +kernel
theorem dX13_cyclesUntil_72 : decode cX13_cyclesUntil 72 = .ok (.invokevirtual 435, 3) := by decide +kernel
theorem dX13_cyclesUntil_75 : decode cX13_cyclesUntil 75 = .ok (.iinc 4 1, 3) := by decide +kernel
theorem dX13_cyclesUntil_78 : decode cX13_cyclesUntil 78 = .ok (.goto (-22), 3) := by decide +kernel
theorem dX13_cyclesUntil_81 : decode cX13_cyclesUntil 81 = .ok (.aload_n 0, 1) := by decide +kernel
theorem dX13_cyclesUntil_82 : decode cX13_cyclesUntil 82 = .ok (.iload_n 1, 1) := by decide +kernel
theorem dX13_cyclesUntil_83 : decode cX13_cyclesUntil 83 = .ok (.invokevirtual 262, 3) := by decide +kernel
theorem dX13_cyclesUntil_86 : decode cX13_cyclesUntil 86 = .ok (.iload_n 2, 1) := by decide +kernel
theorem dX13_cyclesUntil_87 : decode cX13_cyclesUntil 87 = .ok (.if_icmp .ne 8, 3) := by decide +kernel
theorem dX13_cyclesUntil_90 : decode cX13_cyclesUntil 90 = .ok (.iload 4, 2) := by decide +kernel
theorem dX13_cyclesUntil_92 : decode cX13_cyclesUntil 92 = .ok (.goto 4, 3) := by decide +kernel
theorem dX13_cyclesUntil_95 : decode cX13_cyclesUntil 95 = .ok (.iconst (-1), 1) := by decide +kernel
theorem dX13_cyclesUntil_96 : decode cX13_cyclesUntil 96 = .ok (.istore 5, 2) := by decide +kernel
theorem dX13_cyclesUntil_98 : decode cX13_cyclesUntil 98 = .ok (.aload_n 0, 1) := by decide +kernel
theorem dX13_cyclesUntil_99 : decode cX13_cyclesUntil 99 = .ok (.getfield 16, 3) := by decide +kernel
theorem dX13_cyclesUntil_102 : decode cX13_cyclesUntil 102 = .ok (.iconst 0, 1) := by decide +kernel
theorem dX13_cyclesUntil_103 : decode cX13_cyclesUntil 103 = .ok (.aload_n 0, 1) := by decide +kernel
theorem dX13_cyclesUntil_104 : decode cX13_cyclesUntil 104 = .ok (.getfield 9, 3) := by decide +kernel
theorem dX13_cyclesUntil_107 : decode cX13_cyclesUntil 107 = .ok (.iconst 0, 1) := by decide +kernel
theorem dX13_cyclesUntil_108 : decode cX13_cyclesUntil 108 = .ok (.invokestatic 441, 3) := by decide +kernel
theorem dX13_cyclesUntil_111 : decode cX13_cyclesUntil 111 = .ok (.iload 5, 2) := by decide +kernel
theorem dX13_cyclesUntil_113 : decode cX13_cyclesUntil 113 = .ok (.ireturn, 1) := by decide +kernel
theorem dX13_cyclesTo_0 : decode cX13_cyclesTo 0 = .ok (.aload_n 0, 1) := by decide +kernel
theorem dX13_cyclesTo_1 : decode cX13_cyclesTo 1 = .ok (.iconst 0, 1) := by decide +kernel
theorem dX13_cyclesTo_2 : decode cX13_cyclesTo 2 = .ok (.putfield 231, 3) := by decide +kernel
theorem dX13_cyclesTo_5 : decode cX13_cyclesTo 5 = .ok (.aload_n 0, 1) := by decide +kernel
theorem dX13_cyclesTo_6 : decode cX13_cyclesTo 6 = .ok (.iload_n 1, 1) := by decide +kernel
theorem dX13_cyclesTo_7 : decode cX13_cyclesTo 7 = .ok (.invokevirtual 268, 3) := by decide +kernel
theorem dX13_cyclesTo_10 : decode cX13_cyclesTo 10 = .ok (.ifCond .eq 19, 3) := by decide +kernel
theorem dX13_cyclesTo_13 : decode cX13_cyclesTo 13 = .ok (.iload_n 2, 1) := by decide +kernel
theorem dX13_cyclesTo_14 : decode cX13_cyclesTo 14 = .ok (.iconst 0, 1) := by decide +kernel
theorem dX13_cyclesTo_15 : decode cX13_cyclesTo 15 = .ok (.aload_n 0, 1) := by decide +kernel
theorem dX13_cyclesTo_16 : decode cX13_cyclesTo 16 = .ok (.getfield 9, 3) := by decide +kernel
theorem dX13_cyclesTo_19 : decode cX13_cyclesTo 19 = .ok (.iconst 0, 1) := by decide +kernel
theorem dX13_cyclesTo_20 : decode cX13_cyclesTo 20 = .ok (.iaload, 1) := by decide +kernel
theorem dX13_cyclesTo_21 : decode cX13_cyclesTo 21 = .ok (.iconst 1, 1) := by decide +kernel
theorem dX13_cyclesTo_22 : decode cX13_cyclesTo 22 = .ok (.isub, 1) := by decide +kernel
theorem dX13_cyclesTo_23 : decode cX13_cyclesTo 23 = .ok (.invokestatic 245, 3) := by decide +kernel
theorem dX13_cyclesTo_26 : decode cX13_cyclesTo 26 = .ok (.ifCond .ne 9, 3) := by decide +kernel
theorem dX13_cyclesTo_29 : decode cX13_cyclesTo 29 = .ok (.aload_n 0, 1) := by decide +kernel
theorem dX13_cyclesTo_30 : decode cX13_cyclesTo 30 = .ok (.iconst 1, 1) := by decide +kernel
theorem dX13_cyclesTo_31 : decode cX13_cyclesTo 31 = .ok (.invokevirtual 259, 3) := by decide +kernel
theorem dX13_cyclesTo_34 : decode cX13_cyclesTo 34 = .ok (.ireturn, 1) := by decide +kernel
theorem dX13_cyclesTo_35 : decode cX13_cyclesTo 35 = .ok (.iload_n 3, 1) := by decide +kernel
theorem dX13_cyclesTo_36 : decode cX13_cyclesTo 36 = .ok (.invokestatic 438, 3) := by decide +kernel
theorem dX13_cyclesTo_39 : decode cX13_cyclesTo 39 = .ok (.ifCond .ne 9, 3) := by decide +kernel
theorem dX13_cyclesTo_42 : decode cX13_cyclesTo 42 = .ok (.aload_n 0, 1) := by decide +kernel
theorem dX13_cyclesTo_43 : decode cX13_cyclesTo 43 = .ok (.iconst 2, 1) := by decide +kernel
theorem dX13_cyclesTo_44 : decode cX13_cyclesTo 44 = .ok (.invokevirtual 259, 3) := by decide +kernel
theorem dX13_cyclesTo_47 : decode cX13_cyclesTo 47 = .ok (.ireturn, 1) := by decide +kernel
theorem dX13_cyclesTo_48 : decode cX13_cyclesTo 48 = .ok (.aload_n 0, 1) := by decide +kernel
theorem dX13_cyclesTo_49 : decode cX13_cyclesTo 49 = .ok (.getfield 9, 3) := by decide +kernel
theorem dX13_cyclesTo_52 : decode cX13_cyclesTo 52 = .ok (.iconst 0, 1) := by decide +kernel
theorem dX13_cyclesTo_53 : decode cX13_cyclesTo 53 = .ok (.aload_n 0, 1) := by decide +kernel
theorem dX13_cyclesTo_54 : decode cX13_cyclesTo 54 = .ok (.getfield 16, 3) := by decide +kernel
theorem dX13_cyclesTo_57 : decode cX13_cyclesTo 57 = .ok (.iconst 0, 1) := by decide +kernel
theorem dX13_cyclesTo_58 : decode cX13_cyclesTo 58 = .ok (.invokestatic 441, 3) := by decide +kernel
theorem dX13_cyclesTo_61 : decode cX13_cyclesTo 61 = .ok (.iconst 0, 1) := by decide +kernel
theorem dX13_cyclesTo_62 : decode cX13_cyclesTo 62 = .ok (.istore 4, 2) := by decide +kernel
theorem dX13_cyclesTo_64 : decode cX13_cyclesTo 64 = .ok (.iload 4, 2) := by decide +kernel
theorem dX13_cyclesTo_66 : decode cX13_cyclesTo 66 = .ok (.iload_n 3, 1) := by decide +kernel
theorem dX13_cyclesTo_67 : decode cX13_cyclesTo 67 = .ok (.if_icmp .ge 23, 3) := by decide +kernel
theorem dX13_cyclesTo_70 : decode cX13_cyclesTo 70 = .ok (.aload_n 0, 1) := by decide +kernel
theorem dX13_cyclesTo_71 : decode cX13_cyclesTo 71 = .ok (.iload_n 1, 1) := by decide +kernel
theorem dX13_cyclesTo_72 : decode cX13_cyclesTo 72 = .ok (.iconst 1, 1) := by decide +kernel
theorem dX13_cyclesTo_73 : decode cX13_cyclesTo 73 = .ok (.invokevirtual 238, 3) := by decide +kernel
theorem dX13_cyclesTo_76 : decode cX13_cyclesTo 76 = .ok (.iload_n 2, 1) := by decide +kernel
theorem dX13_cyclesTo_77 : decode cX13_cyclesTo 77 = .ok (.if_icmp .eq 13, 3) := by decide +kernel
theorem dX13_cyclesTo_80 : decode cX13_cyclesTo 80 = .ok (.aload_n 0, 1) := by decide +kernel
theorem dX13_cyclesTo_81 : decode cX13_cyclesTo 81 = .ok (.invokevirtual 435, 3) := by decide +kernel
theorem dX13_cyclesTo_84 : decode cX13_cyclesTo 84 = .ok (.iinc 4 1, 3) := by decide +kernel
theorem dX13_cyclesTo_87 : decode cX13_cyclesTo 87 = .ok (.goto (-23), 3) := by decide +kernel
theorem dX13_cyclesTo_90 : decode cX13_cyclesTo 90 = .ok (.aload_n 0, 1) := by decide +kernel
theorem dX13_cyclesTo_91 : decode cX13_cyclesTo 91 = .ok (.iload_n 1, 1) := by decide +kernel
theorem dX13_cyclesTo_92 : decode cX13_cyclesTo 92 = .ok (.iconst 1, 1) := by decide +kernel
theorem dX13_cyclesTo_93 : decode cX13_cyclesTo 93 = .ok (.invokevirtual 238, 3) := by decide +kernel
theorem dX13_cyclesTo_96 : decode cX13_cyclesTo 96 = .ok (.iload_n 2, 1) := by decide +kernel
theorem dX13_cyclesTo_97 : decode cX13_cyclesTo 97 = .ok (.if_icmp .ne 8, 3) := by decide +kernel
theorem dX13_cyclesTo_100 : decode cX13_cyclesTo 100 = .ok (.iload 4, 2) := by decide +kernel
theorem dX13_cyclesTo_102 : decode cX13_cyclesTo 102 = .ok (.goto 4, 3) := by decide +kernel
theorem dX13_cyclesTo_105 : decode cX13_cyclesTo 105 = .ok (.iconst (-1), 1) := by decide +kernel
theorem dX13_cyclesTo_106 : decode cX13_cyclesTo 106 = .ok (.istore 5, 2) := by decide +kernel
theorem dX13_cyclesTo_108 : decode cX13_cyclesTo 108 = .ok (.aload_n 0, 1) := by decide +kernel
theorem dX13_cyclesTo_109 : decode cX13_cyclesTo 109 = .ok (.getfield 16, 3) := by decide +kernel
theorem dX13_cyclesTo_112 : decode cX13_cyclesTo 112 = .ok (.iconst 0, 1) := by decide +kernel
theorem dX13_cyclesTo_113 : decode cX13_cyclesTo 113 = .ok (.aload_n 0, 1) := by decide +kernel
theorem dX13_cyclesTo_114 : decode cX13_cyclesTo 114 = .ok (.getfield 9, 3) := by decide +kernel
theorem dX13_cyclesTo_117 : decode cX13_cyclesTo 117 = .ok (.iconst 0, 1) := by decide +kernel
theorem dX13_cyclesTo_118 : decode cX13_cyclesTo 118 = .ok (.invokestatic 441, 3) := by decide +kernel
theorem dX13_cyclesTo_121 : decode cX13_cyclesTo 121 = .ok (.iload 5, 2) := by decide +kernel
theorem dX13_cyclesTo_123 : decode cX13_cyclesTo 123 = .ok (.ireturn, 1) := by decide +kernel
theorem dX13_period_0 : decode cX13_period 0 = .ok (.aload_n 0, 1) := by decide +kernel
theorem dX13_period_1 : decode cX13_period 1 = .ok (.iconst 0, 1) := by decide +kernel
theorem dX13_period_2 : decode cX13_period 2 = .ok (.putfield 231, 3) := by decide +kernel
theorem dX13_period_5 : decode cX13_period 5 = .ok (.iload_n 1, 1) := by decide +kernel
theorem dX13_period_6 : decode cX13_period 6 = .ok (.invokestatic 255, 3) := by decide +kernel
theorem dX13_period_9 : decode cX13_period 9 = .ok (.ifCond .ne 9, 3) := by decide +kernel
theorem dX13_period_12 : decode cX13_period 12 = .ok (.aload_n 0, 1) := by decide +kernel
theorem dX13_period_13 : decode cX13_period 13 = .ok (.iconst 1, 1) := by decide +kernel
theorem dX13_period_14 : decode cX13_period 14 = .ok (.invokevirtual 259, 3) := by decide +kernel
theorem dX13_period_17 : decode cX13_period 17 = .ok (.ireturn, 1) := by decide +kernel
theorem dX13_period_18 : decode cX13_period 18 = .ok (.iload_n 2, 1) := by decide +kernel
theorem dX13_period_19 : decode cX13_period 19 = .ok (.invokestatic 438, 3) := by decide +kernel
theorem dX13_period_22 : decode cX13_period 22 = .ok (.ifCond .ne 9, 3) := by decide +kernel
theorem dX13_period_25 : decode cX13_period 25 = .ok (.aload_n 0, 1) := by decide +kernel
theorem dX13_period_26 : decode cX13_period 26 = .ok (.iconst 2, 1) := by decide +kernel
theorem dX13_period_27 : decode cX13_period 27 = .ok (.invokevirtual 259, 3) := by decide +kernel
theorem dX13_period_30 : decode cX13_period 30 = .ok (.ireturn, 1) := by decide +kernel
theorem dX13_period_31 : decode cX13_period 31 = .ok (.aload_n 0, 1) := by decide +kernel
theorem dX13_period_32 : decode cX13_period 32 = .ok (.getfield 9, 3) := by decide +kernel
theorem dX13_period_35 : decode cX13_period 35 = .ok (.iconst 0, 1) := by decide +kernel
theorem dX13_period_36 : decode cX13_period 36 = .ok (.aload_n 0, 1) := by decide +kernel
theorem dX13_period_37 : decode cX13_period 37 = .ok (.getfield 16, 3) := by decide +kernel
theorem dX13_period_40 : decode cX13_period 40 = .ok (.iconst 0, 1) := by decide +kernel
theorem dX13_period_41 : decode cX13_period 41 = .ok (.invokestatic 441, 3) := by decide +kernel
theorem dX13_period_44 : decode cX13_period 44 = .ok (.iconst (-1), 1) := by decide +kernel
theorem dX13_period_45 : decode cX13_period 45 = .ok (.istore_n 3, 1) := by decide +kernel
theorem dX13_period_46 : decode cX13_period 46 = .ok (.iconst (-1), 1) := by decide +kernel
theorem dX13_period_47 : decode cX13_period 47 = .ok (.istore 4, 2) := by decide +kernel
theorem dX13_period_49 : decode cX13_period 49 = .ok (.iconst 1, 1) := by decide +kernel
theorem dX13_period_50 : decode cX13_period 50 = .ok (.istore 5, 2) := by decide +kernel
theorem dX13_period_52 : decode cX13_period 52 = .ok (.iload 5, 2) := by decide +kernel
theorem dX13_period_54 : decode cX13_period 54 = .ok (.iload_n 2, 1) := by decide +kernel
theorem dX13_period_55 : decode cX13_period 55 = .ok (.if_icmp .gt 67, 3) := by decide +kernel
theorem dX13_period_58 : decode cX13_period 58 = .ok (.iload 4, 2) := by decide +kernel
theorem dX13_period_60 : decode cX13_period 60 = .ok (.iconst (-1), 1) := by decide +kernel
theorem dX13_period_61 : decode cX13_period 61 = .ok (.if_icmp .ne 61, 3) := by decide +kernel
theorem dX13_period_64 : decode cX13_period 64 = .ok (.aload_n 0, 1) := by decide +kernel
theorem dX13_period_65 : decode cX13_period 65 = .ok (.iload_n 1, 1) := by decide +kernel
theorem dX13_period_66 : decode cX13_period 66 = .ok (.invokevirtual 262, 3) := by decide +kernel
theorem dX13_period_69 : decode cX13_period 69 = .ok (.istore 6, 2) := by decide +kernel
theorem dX13_period_71 : decode cX13_period 71 = .ok (.aload_n 0, 1) := by decide +kernel
theorem dX13_period_72 : decode cX13_period 72 = .ok (.invokevirtual 435, 3) := by decide +kernel
theorem dX13_period_75 : decode cX13_period 75 = .ok (.iload 6, 2) := by decide +kernel
theorem dX13_period_77 : decode cX13_period 77 = .ok (.ifCond .ne 39, 3) := by decide +kernel
theorem dX13_period_80 : decode cX13_period 80 = .ok (.aload_n 0, 1) := by decide +kernel
theorem dX13_period_81 : decode cX13_period 81 = .ok (.iload_n 1, 1) := by decide +kernel
theorem dX13_period_82 : decode cX13_period 82 = .ok (.invokevirtual 262, 3) := by decide +kernel
theorem dX13_period_85 : decode cX13_period 85 = .ok (.iconst 1, 1) := by decide +kernel
theorem dX13_period_86 : decode cX13_period 86 = .ok (.if_icmp .ne 30, 3) := by decide +kernel
theorem dX13_period_89 : decode cX13_period 89 = .ok (.iload_n 3, 1) := by decide +kernel
theorem dX13_period_90 : decode cX13_period 90 = .ok (.iconst (-1), 1) := by decide +kernel
theorem dX13_period_91 : decode cX13_period 91 = .ok (.if_icmp .ne 7, 3) := by decide +kernel
theorem dX13_period_94 : decode cX13_period 94 = .ok (.iconst (-1), 1) := by decide +kernel
theorem dX13_period_95 : decode cX13_period 95 = .ok (.goto 7, 3) := by decide +kernel
theorem dX13_period_98 : decode cX13_period 98 = .ok (.iload 5, 2) := by decide +kernel
theorem dX13_period_100 : decode cX13_period 100 = .ok (.iload_n 3, 1) := by decide +kernel
theorem dX13_period_101 : decode cX13_period 101 = .ok (.isub, 1) := by decide +kernel
theorem dX13_period_102 : decode cX13_period 102 = .ok (.istore 4, 2) := by decide +kernel
theorem dX13_period_104 : decode cX13_period 104 = .ok (.iload_n 3, 1) := by decide +kernel
theorem dX13_period_105 : decode cX13_period 105 = .ok (.iconst (-1), 1) := by decide +kernel
theorem dX13_period_106 : decode cX13_period 106 = .ok (.if_icmp .ne 8, 3) := by decide +kernel
theorem dX13_period_109 : decode cX13_period 109 = .ok (.iload 5, 2) := by decide +kernel
theorem dX13_period_111 : decode cX13_period 111 = .ok (.goto 4, 3) := by decide +kernel
theorem dX13_period_114 : decode cX13_period 114 = .ok (.iload_n 3, 1) := by decide +kernel
theorem dX13_period_115 : decode cX13_period 115 = .ok (.istore_n 3, 1) := by decide +kernel
theorem dX13_period_116 : decode cX13_period 116 = .ok (.iinc 5 1, 3) := by decide +kernel
theorem dX13_period_119 : decode cX13_period 119 = .ok (.goto (-67), 3) := by decide +kernel
theorem dX13_period_122 : decode cX13_period 122 = .ok (.aload_n 0, 1) := by decide +kernel
theorem dX13_period_123 : decode cX13_period 123 = .ok (.getfield 16, 3) := by decide +kernel
theorem dX13_period_126 : decode cX13_period 126 = .ok (.iconst 0, 1) := by decide +kernel
theorem dX13_period_127 : decode cX13_period 127 = .ok (.aload_n 0, 1) := by decide +kernel
theorem dX13_period_128 : decode cX13_period 128 = .ok (.getfield 9, 3) := by decide +kernel
theorem dX13_period_131 : decode cX13_period 131 = .ok (.iconst 0, 1) := by decide +kernel
theorem dX13_period_132 : decode cX13_period 132 = .ok (.invokestatic 441, 3) := by decide +kernel
theorem dX13_period_135 : decode cX13_period 135 = .ok (.iload 4, 2) := by decide +kernel
theorem dX13_period_137 : decode cX13_period 137 = .ok (.ireturn, 1) := by decide +kernel
theorem dX13_stuck_0 : decode cX13_stuck 0 = .ok (.aload_n 0, 1) := by decide +kernel
theorem dX13_stuck_1 : decode cX13_stuck 1 = .ok (.iconst 0, 1) := by decide +kernel
theorem dX13_stuck_2 : decode cX13_stuck 2 = .ok (.putfield 231, 3) := by decide +kernel
theorem dX13_stuck_5 : decode cX13_stuck 5 = .ok (.iload_n 1, 1) := by decide +kernel
theorem dX13_stuck_6 : decode cX13_stuck 6 = .ok (.invokestatic 438, 3) := by decide +kernel
theorem dX13_stuck_9 : decode cX13_stuck 9 = .ok (.ifCond .ne 9, 3) := by decide +kernel
theorem dX13_stuck_12 : decode cX13_stuck 12 = .ok (.aload_n 0, 1) := by decide +kernel
theorem dX13_stuck_13 : decode cX13_stuck 13 = .ok (.iconst 1, 1) := by decide +kernel
theorem dX13_stuck_14 : decode cX13_stuck 14 = .ok (.invokevirtual 259, 3) := by decide +kernel
theorem dX13_stuck_17 : decode cX13_stuck 17 = .ok (.ireturn, 1) := by decide +kernel
theorem dX13_stuck_18 : decode cX13_stuck 18 = .ok (.aload_n 0, 1) := by decide +kernel
theorem dX13_stuck_19 : decode cX13_stuck 19 = .ok (.getfield 9, 3) := by decide +kernel
theorem dX13_stuck_22 : decode cX13_stuck 22 = .ok (.iconst 0, 1) := by decide +kernel
theorem dX13_stuck_23 : decode cX13_stuck 23 = .ok (.aload_n 0, 1) := by decide +kernel
theorem dX13_stuck_24 : decode cX13_stuck 24 = .ok (.getfield 16, 3) := by decide +kernel
theorem dX13_stuck_27 : decode cX13_stuck 27 = .ok (.iconst 0, 1) := by decide +kernel
theorem dX13_stuck_28 : decode cX13_stuck 28 = .ok (.invokestatic 441, 3) := by decide +kernel
theorem dX13_stuck_31 : decode cX13_stuck 31 = .ok (.iconst 0, 1) := by decide +kernel
theorem dX13_stuck_32 : decode cX13_stuck 32 = .ok (.istore_n 2, 1) := by decide +kernel
theorem dX13_stuck_33 : decode cX13_stuck 33 = .ok (.iload_n 2, 1) := by decide +kernel
theorem dX13_stuck_34 : decode cX13_stuck 34 = .ok (.iload_n 1, 1) := by decide +kernel
theorem dX13_stuck_35 : decode cX13_stuck 35 = .ok (.if_icmp .ge 13, 3) := by decide +kernel
theorem dX13_stuck_38 : decode cX13_stuck 38 = .ok (.aload_n 0, 1) := by decide +kernel
theorem dX13_stuck_39 : decode cX13_stuck 39 = .ok (.invokevirtual 435, 3) := by decide +kernel
theorem dX13_stuck_42 : decode cX13_stuck 42 = .ok (.iinc 2 1, 3) := by decide +kernel
theorem dX13_stuck_45 : decode cX13_stuck 45 = .ok (.goto (-12), 3) := by decide +kernel
theorem dX13_stuck_48 : decode cX13_stuck 48 = .ok (.iconst 0, 1) := by decide +kernel
theorem dX13_stuck_49 : decode cX13_stuck 49 = .ok (.istore_n 2, 1) := by decide +kernel
theorem dX13_stuck_50 : decode cX13_stuck 50 = .ok (.iconst 0, 1) := by decide +kernel
theorem dX13_stuck_51 : decode cX13_stuck 51 = .ok (.istore_n 3, 1) := by decide +kernel
theorem dX13_stuck_52 : decode cX13_stuck 52 = .ok (.iload_n 3, 1) := by decide +kernel
theorem dX13_stuck_53 : decode cX13_stuck 53 = .ok (.iconst 4, 1) := by decide +kernel
theorem dX13_stuck_54 : decode cX13_stuck 54 = .ok (.if_icmp .ge 79, 3) := by decide +kernel
theorem dX13_stuck_57 : decode cX13_stuck 57 = .ok (.aload_n 0, 1) := by decide +kernel
theorem dX13_stuck_58 : decode cX13_stuck 58 = .ok (.iload_n 3, 1) := by decide +kernel
theorem dX13_stuck_59 : decode cX13_stuck 59 = .ok (.iconst 0, 1) := by decide +kernel
theorem dX13_stuck_60 : decode cX13_stuck 60 = .ok (.invokevirtual 249, 3) := by decide +kernel
theorem dX13_stuck_63 : decode cX13_stuck 63 = .ok (.iconst 1, 1) := by decide +kernel
theorem dX13_stuck_64 : decode cX13_stuck 64 = .ok (.if_icmp .ne 45, 3) := by decide +kernel
theorem dX13_stuck_67 : decode cX13_stuck 67 = .ok (.aload_n 0, 1) := by decide +kernel
theorem dX13_stuck_68 : decode cX13_stuck 68 = .ok (.iload_n 3, 1) := by decide +kernel
theorem dX13_stuck_69 : decode cX13_stuck 69 = .ok (.iconst 0, 1) := by decide +kernel
theorem dX13_stuck_70 : decode cX13_stuck 70 = .ok (.invokevirtual 238, 3) := by decide +kernel
theorem dX13_stuck_73 : decode cX13_stuck 73 = .ok (.iconst 1, 1) := by decide +kernel
theorem dX13_stuck_74 : decode cX13_stuck 74 = .ok (.if_icmp .ne 35, 3) := by decide +kernel
theorem dX13_stuck_77 : decode cX13_stuck 77 = .ok (.aload_n 0, 1) := by decide +kernel
theorem dX13_stuck_78 : decode cX13_stuck 78 = .ok (.iload_n 3, 1) := by decide +kernel
theorem dX13_stuck_79 : decode cX13_stuck 79 = .ok (.bipush 29, 2) := by decide +kernel
theorem dX13_stuck_81 : decode cX13_stuck 81 = .ok (.invokevirtual 238, 3) := by decide +kernel
theorem dX13_stuck_84 : decode cX13_stuck 84 = .ok (.aload_n 0, 1) := by decide +kernel
theorem dX13_stuck_85 : decode cX13_stuck 85 = .ok (.getfield 16, 3) := by decide +kernel
theorem dX13_stuck_88 : decode cX13_stuck 88 = .ok (.sipush 560, 3) := by decide +kernel
theorem dX13_stuck_91 : decode cX13_stuck 91 = .ok (.bipush 35, 2) := by decide +kernel
theorem dX13_stuck_93 : decode cX13_stuck 93 = .ok (.iload_n 3, 1) := by decide +kernel
theorem dX13_stuck_94 : decode cX13_stuck 94 = .ok (.imul, 1) := by decide +kernel
theorem dX13_stuck_95 : decode cX13_stuck 95 = .ok (.iadd, 1) := by decide +kernel
theorem dX13_stuck_96 : decode cX13_stuck 96 = .ok (.bipush 29, 2) := by decide +kernel
theorem dX13_stuck_98 : decode cX13_stuck 98 = .ok (.iadd, 1) := by decide +kernel
theorem dX13_stuck_99 : decode cX13_stuck 99 = .ok (.iconst 0, 1) := by decide +kernel
theorem dX13_stuck_100 : decode cX13_stuck 100 = .ok (.iadd, 1) := by decide +kernel
theorem dX13_stuck_101 : decode cX13_stuck 101 = .ok (.iaload, 1) := by decide +kernel
theorem dX13_stuck_102 : decode cX13_stuck 102 = .ok (.if_icmp .ne 7, 3) := by decide +kernel
theorem dX13_stuck_105 : decode cX13_stuck 105 = .ok (.iconst 1, 1) := by decide +kernel
theorem dX13_stuck_106 : decode cX13_stuck 106 = .ok (.goto 4, 3) := by decide +kernel
theorem dX13_stuck_109 : decode cX13_stuck 109 = .ok (.iconst 0, 1) := by decide +kernel
theorem dX13_stuck_110 : decode cX13_stuck 110 = .ok (.istore 4, 2) := by decide +kernel
theorem dX13_stuck_112 : decode cX13_stuck 112 = .ok (.iload_n 2, 1) := by decide +kernel
theorem dX13_stuck_113 : decode cX13_stuck 113 = .ok (.iload 4, 2) := by decide +kernel
theorem dX13_stuck_115 : decode cX13_stuck 115 = .ok (.ifCond .eq 9, 3) := by decide +kernel
theorem dX13_stuck_118 : decode cX13_stuck 118 = .ok (.iconst 1, 1) := by decide +kernel
theorem dX13_stuck_119 : decode cX13_stuck 119 = .ok (.iload_n 3, 1) := by decide +kernel
theorem dX13_stuck_120 : decode cX13_stuck 120 = .ok (.ishl, 1) := by decide +kernel
theorem dX13_stuck_121 : decode cX13_stuck 121 = .ok (.goto 4, 3) := by decide +kernel
theorem dX13_stuck_124 : decode cX13_stuck 124 = .ok (.iconst 0, 1) := by decide +kernel
theorem dX13_stuck_125 : decode cX13_stuck 125 = .ok (.ior, 1) := by decide +kernel
theorem dX13_stuck_126 : decode cX13_stuck 126 = .ok (.istore_n 2, 1) := by decide +kernel
theorem dX13_stuck_127 : decode cX13_stuck 127 = .ok (.iinc 3 1, 3) := by decide +kernel
theorem dX13_stuck_130 : decode cX13_stuck 130 = .ok (.goto (-78), 3) := by decide +kernel
theorem dX13_stuck_133 : decode cX13_stuck 133 = .ok (.aload_n 0, 1) := by decide +kernel
theorem dX13_stuck_134 : decode cX13_stuck 134 = .ok (.getfield 16, 3) := by decide +kernel
theorem dX13_stuck_137 : decode cX13_stuck 137 = .ok (.iconst 0, 1) := by decide +kernel
theorem dX13_stuck_138 : decode cX13_stuck 138 = .ok (.aload_n 0, 1) := by decide +kernel
theorem dX13_stuck_139 : decode cX13_stuck 139 = .ok (.getfield 9, 3) := by decide +kernel
theorem dX13_stuck_142 : decode cX13_stuck 142 = .ok (.iconst 0, 1) := by decide +kernel
theorem dX13_stuck_143 : decode cX13_stuck 143 = .ok (.invokestatic 441, 3) := by decide +kernel
theorem dX13_stuck_146 : decode cX13_stuck 146 = .ok (.iload_n 2, 1) := by decide +kernel
theorem dX13_stuck_147 : decode cX13_stuck 147 = .ok (.ireturn, 1) := by decide +kernel
theorem dX13_divider_0 : decode cX13_divider 0 = .ok (.aload_n 0, 1) := by decide +kernel
theorem dX13_divider_1 : decode cX13_divider 1 = .ok (.iconst 0, 1) := by decide +kernel
theorem dX13_divider_2 : decode cX13_divider 2 = .ok (.putfield 231, 3) := by decide +kernel
theorem dX13_divider_5 : decode cX13_divider 5 = .ok (.iload_n 1, 1) := by decide +kernel
theorem dX13_divider_6 : decode cX13_divider 6 = .ok (.iconst 1, 1) := by decide +kernel
theorem dX13_divider_7 : decode cX13_divider 7 = .ok (.ldc_w 430, 3) := by decide +kernel
theorem dX13_divider_10 : decode cX13_divider 10 = .ok (.invokestatic 245, 3) := by decide +kernel
theorem dX13_divider_13 : decode cX13_divider 13 = .ok (.ifCond .eq 14, 3) := by decide +kernel
theorem dX13_divider_16 : decode cX13_divider 16 = .ok (.iload_n 2, 1) := by decide +kernel
theorem dX13_divider_17 : decode cX13_divider 17 = .ok (.iconst 1, 1) := by decide +kernel
theorem dX13_divider_18 : decode cX13_divider 18 = .ok (.ldc_w 430, 3) := by decide +kernel
theorem dX13_divider_21 : decode cX13_divider 21 = .ok (.invokestatic 245, 3) := by decide +kernel
theorem dX13_divider_24 : decode cX13_divider 24 = .ok (.ifCond .ne 9, 3) := by decide +kernel
theorem dX13_divider_27 : decode cX13_divider 27 = .ok (.aload_n 0, 1) := by decide +kernel
theorem dX13_divider_28 : decode cX13_divider 28 = .ok (.iconst 1, 1) := by decide +kernel
theorem dX13_divider_29 : decode cX13_divider 29 = .ok (.invokevirtual 259, 3) := by decide +kernel
theorem dX13_divider_32 : decode cX13_divider 32 = .ok (.ireturn, 1) := by decide +kernel
theorem dX13_divider_33 : decode cX13_divider 33 = .ok (.ldc2_w 445, 3) := by decide +kernel
theorem dX13_divider_36 : decode cX13_divider 36 = .ok (.iload_n 1, 1) := by decide +kernel
theorem dX13_divider_37 : decode cX13_divider 37 = .ok (.i2l, 1) := by decide +kernel
theorem dX13_divider_38 : decode cX13_divider 38 = .ok (.lmul, 1) := by decide +kernel
theorem dX13_divider_39 : decode cX13_divider 39 = .ok (.lstore_n 3, 1) := by decide +kernel
theorem dX13_divider_40 : decode cX13_divider 40 = .ok (.ldc2_w 445, 3) := by decide +kernel
theorem dX13_divider_43 : decode cX13_divider 43 = .ok (.ldc2_w 447, 3) := by decide +kernel
theorem dX13_divider_46 : decode cX13_divider 46 = .ok (.lload_n 3, 1) := by decide +kernel
theorem dX13_divider_47 : decode cX13_divider 47 = .ok (.iload_n 2, 1) := by decide +kernel
theorem dX13_divider_48 : decode cX13_divider 48 = .ok (.i2l, 1) := by decide +kernel
theorem dX13_divider_49 : decode cX13_divider 49 = .ok (.ldiv, 1) := by decide +kernel
theorem dX13_divider_50 : decode cX13_divider 50 = .ok (.invokestatic 449, 3) := by decide +kernel
theorem dX13_divider_53 : decode cX13_divider 53 = .ok (.invokestatic 452, 3) := by decide +kernel
theorem dX13_divider_56 : decode cX13_divider 56 = .ok (.lstore 5, 2) := by decide +kernel
theorem dX13_divider_58 : decode cX13_divider 58 = .ok (.ldc2_w 447, 3) := by decide +kernel
theorem dX13_divider_61 : decode cX13_divider 61 = .ok (.lload 5, 2) := by decide +kernel
theorem dX13_divider_63 : decode cX13_divider 63 = .ok (.lconst 1, 1) := by decide +kernel
theorem dX13_divider_64 : decode cX13_divider 64 = .ok (.ladd, 1) := by decide +kernel
theorem dX13_divider_65 : decode cX13_divider 65 = .ok (.invokestatic 449, 3) := by decide +kernel
theorem dX13_divider_68 : decode cX13_divider 68 = .ok (.lstore 7, 2) := by decide +kernel
theorem dX13_divider_70 : decode cX13_divider 70 = .ok (.lload 5, 2) := by decide +kernel
theorem dX13_divider_72 : decode cX13_divider 72 = .ok (.iload_n 2, 1) := by decide +kernel
theorem dX13_divider_73 : decode cX13_divider 73 = .ok (.i2l, 1) := by decide +kernel
theorem dX13_divider_74 : decode cX13_divider 74 = .ok (.lmul, 1) := by decide +kernel
theorem dX13_divider_75 : decode cX13_divider 75 = .ok (.lload_n 3, 1) := by decide +kernel
theorem dX13_divider_76 : decode cX13_divider 76 = .ok (.lsub, 1) := by decide +kernel
theorem dX13_divider_77 : decode cX13_divider 77 = .ok (.invokestatic 455, 3) := by decide +kernel
theorem dX13_divider_80 : decode cX13_divider 80 = .ok (.lstore 9, 2) := by decide +kernel
theorem dX13_divider_82 : decode cX13_divider 82 = .ok (.lload 7, 2) := by decide +kernel
theorem dX13_divider_84 : decode cX13_divider 84 = .ok (.iload_n 2, 1) := by decide +kernel
theorem dX13_divider_85 : decode cX13_divider 85 = .ok (.i2l, 1) := by decide +kernel
theorem dX13_divider_86 : decode cX13_divider 86 = .ok (.lmul, 1) := by decide +kernel
theorem dX13_divider_87 : decode cX13_divider 87 = .ok (.lload_n 3, 1) := by decide +kernel
theorem dX13_divider_88 : decode cX13_divider 88 = .ok (.lsub, 1) := by decide +kernel
theorem dX13_divider_89 : decode cX13_divider 89 = .ok (.invokestatic 455, 3) := by decide +kernel
theorem dX13_divider_92 : decode cX13_divider 92 = .ok (.lstore 11, 2) := by decide +kernel
theorem dX13_divider_94 : decode cX13_divider 94 = .ok (.lload 11, 2) := by decide +kernel
theorem dX13_divider_96 : decode cX13_divider 96 = .ok (.lload 9, 2) := by decide +kernel
theorem dX13_divider_98 : decode cX13_divider 98 = .ok (.lcmp, 1) := by decide +kernel
theorem dX13_divider_99 : decode cX13_divider 99 = .ok (.ifCond .ge 8, 3) := by decide +kernel
theorem dX13_divider_102 : decode cX13_divider 102 = .ok (.lload 7, 2) := by decide +kernel
theorem dX13_divider_104 : decode cX13_divider 104 = .ok (.goto 5, 3) := by decide +kernel
theorem dX13_divider_107 : decode cX13_divider 107 = .ok (.lload 5, 2) := by decide +kernel
theorem dX13_divider_109 : decode cX13_divider 109 = .ok (.l2i, 1) := by decide +kernel
theorem dX13_divider_110 : decode cX13_divider 110 = .ok (.ireturn, 1) := by decide +kernel
theorem dX13_copy_0 : decode cX13_copy 0 = .ok (.iconst 0, 1) := by decide +kernel
theorem dX13_copy_1 : decode cX13_copy 1 = .ok (.istore 4, 2) := by decide +kernel
theorem dX13_copy_3 : decode cX13_copy 3 = .ok (.iload 4, 2) := by decide +kernel
theorem dX13_copy_5 : decode cX13_copy 5 = .ok (.sipush 700, 3) := by decide +kernel
theorem dX13_copy_8 : decode cX13_copy 8 = .ok (.if_icmp .ge 29, 3) := by decide +kernel
theorem dX13_copy_11 : decode cX13_copy 11 = .ok (.aload_n 2, 1) := by decide +kernel
theorem dX13_copy_12 : decode cX13_copy 12 = .ok (.sipush 700, 3) := by decide +kernel
theorem dX13_copy_15 : decode cX13_copy 15 = .ok (.iload_n 3, 1) := by decide +kernel
theorem dX13_copy_16 : decode cX13_copy 16 = .ok (.imul, 1) := by decide +kernel
theorem dX13_copy_17 : decode cX13_copy 17 = .ok (.iload 4, 2) := by decide +kernel
theorem dX13_copy_19 : decode cX13_copy 19 = .ok (.iadd, 1) := by decide +kernel
theorem dX13_copy_20 : decode cX13_copy 20 = .ok (.aload_n 0, 1) := by decide +kernel
theorem dX13_copy_21 : decode cX13_copy 21 = .ok (.sipush 700, 3) := by decide +kernel
theorem dX13_copy_24 : decode cX13_copy 24 = .ok (.iload_n 1, 1) := by decide +kernel
theorem dX13_copy_25 : decode cX13_copy 25 = .ok (.imul, 1) := by decide +kernel
theorem dX13_copy_26 : decode cX13_copy 26 = .ok (.iload 4, 2) := by decide +kernel
theorem dX13_copy_28 : decode cX13_copy 28 = .ok (.iadd, 1) := by decide +kernel
theorem dX13_copy_29 : decode cX13_copy 29 = .ok (.iaload, 1) := by decide +kernel
theorem dX13_copy_30 : decode cX13_copy 30 = .ok (.iastore, 1) := by decide +kernel
theorem dX13_copy_31 : decode cX13_copy 31 = .ok (.iinc 4 1, 3) := by decide +kernel
theorem dX13_copy_34 : decode cX13_copy 34 = .ok (.goto (-31), 3) := by decide +kernel
theorem dX13_copy_37 : decode cX13_copy 37 = .ok (.return_, 1) := by decide +kernel
theorem dX13_record_0 : decode cX13_record 0 = .ok (.aload_n 0, 1) := by decide +kernel
theorem dX13_record_1 : decode cX13_record 1 = .ok (.getfield 459, 3) := by decide +kernel
theorem dX13_record_4 : decode cX13_record 4 = .ok (.bipush 10, 2) := by decide +kernel
theorem dX13_record_6 : decode cX13_record 6 = .ok (.if_icmp .ne 42, 3) := by decide +kernel
theorem dX13_record_9 : decode cX13_record 9 = .ok (.iconst 1, 1) := by decide +kernel
theorem dX13_record_10 : decode cX13_record 10 = .ok (.istore_n 1, 1) := by decide +kernel
theorem dX13_record_11 : decode cX13_record 11 = .ok (.iload_n 1, 1) := by decide +kernel
theorem dX13_record_12 : decode cX13_record 12 = .ok (.bipush 10, 2) := by decide +kernel
theorem dX13_record_14 : decode cX13_record 14 = .ok (.if_icmp .ge 24, 3) := by decide +kernel
theorem dX13_record_17 : decode cX13_record 17 = .ok (.aload_n 0, 1) := by decide +kernel
theorem dX13_record_18 : decode cX13_record 18 = .ok (.getfield 22, 3) := by decide +kernel
theorem dX13_record_21 : decode cX13_record 21 = .ok (.iload_n 1, 1) := by decide +kernel
theorem dX13_record_22 : decode cX13_record 22 = .ok (.aload_n 0, 1) := by decide +kernel
theorem dX13_record_23 : decode cX13_record 23 = .ok (.getfield 22, 3) := by decide +kernel
theorem dX13_record_26 : decode cX13_record 26 = .ok (.iload_n 1, 1) := by decide +kernel
theorem dX13_record_27 : decode cX13_record 27 = .ok (.iconst 1, 1) := by decide +kernel
theorem dX13_record_28 : decode cX13_record 28 = .ok (.isub, 1) := by decide +kernel
theorem dX13_record_29 : decode cX13_record 29 = .ok (.invokestatic 441, 3) := by decide +kernel
theorem dX13_record_32 : decode cX13_record 32 = .ok (.iinc 1 1, 3) := by decide +kernel
theorem dX13_record_35 : decode cX13_record 35 = .ok (.goto (-24), 3) := by decide +kernel
theorem dX13_record_38 : decode cX13_record 38 = .ok (.aload_n 0, 1) := by decide +kernel
theorem dX13_record_39 : decode cX13_record 39 = .ok (.dup, 1) := by decide +kernel
theorem dX13_record_40 : decode cX13_record 40 = .ok (.getfield 459, 3) := by decide +kernel
theorem dX13_record_43 : decode cX13_record 43 = .ok (.iconst 1, 1) := by decide +kernel
theorem dX13_record_44 : decode cX13_record 44 = .ok (.isub, 1) := by decide +kernel
theorem dX13_record_45 : decode cX13_record 45 = .ok (.putfield 459, 3) := by decide +kernel
theorem dX13_record_48 : decode cX13_record 48 = .ok (.aload_n 0, 1) := by decide +kernel
theorem dX13_record_49 : decode cX13_record 49 = .ok (.getfield 9, 3) := by decide +kernel
theorem dX13_record_52 : decode cX13_record 52 = .ok (.iconst 0, 1) := by decide +kernel
theorem dX13_record_53 : decode cX13_record 53 = .ok (.aload_n 0, 1) := by decide +kernel
theorem dX13_record_54 : decode cX13_record 54 = .ok (.getfield 22, 3) := by decide +kernel
theorem dX13_record_57 : decode cX13_record 57 = .ok (.aload_n 0, 1) := by decide +kernel
theorem dX13_record_58 : decode cX13_record 58 = .ok (.getfield 459, 3) := by decide +kernel
theorem dX13_record_61 : decode cX13_record 61 = .ok (.invokestatic 441, 3) := by decide +kernel
theorem dX13_record_64 : decode cX13_record 64 = .ok (.aload_n 0, 1) := by decide +kernel
theorem dX13_record_65 : decode cX13_record 65 = .ok (.dup, 1) := by decide +kernel
theorem dX13_record_66 : decode cX13_record 66 = .ok (.getfield 459, 3) := by decide +kernel
theorem dX13_record_69 : decode cX13_record 69 = .ok (.iconst 1, 1) := by decide +kernel
theorem dX13_record_70 : decode cX13_record 70 = .ok (.iadd, 1) := by decide +kernel
theorem dX13_record_71 : decode cX13_record 71 = .ok (.putfield 459, 3) := by decide +kernel
theorem dX13_record_74 : decode cX13_record 74 = .ok (.return_, 1) := by decide +kernel
theorem dX13_undoCount_0 : decode cX13_undoCount 0 = .ok (.aload_n 0, 1) := by decide +kernel
theorem dX13_undoCount_1 : decode cX13_undoCount 1 = .ok (.iconst 0, 1) := by decide +kernel
theorem dX13_undoCount_2 : decode cX13_undoCount 2 = .ok (.putfield 231, 3) := by decide +kernel
theorem dX13_undoCount_5 : decode cX13_undoCount 5 = .ok (.aload_n 0, 1) := by decide +kernel
theorem dX13_undoCount_6 : decode cX13_undoCount 6 = .ok (.getfield 459, 3) := by decide +kernel
theorem dX13_undoCount_9 : decode cX13_undoCount 9 = .ok (.ireturn, 1) := by decide +kernel
theorem dX13_undo_0 : decode cX13_undo 0 = .ok (.aload_n 0, 1) := by decide +kernel
theorem dX13_undo_1 : decode cX13_undo 1 = .ok (.iconst 0, 1) := by decide +kernel
theorem dX13_undo_2 : decode cX13_undo 2 = .ok (.putfield 231, 3) := by decide +kernel
theorem dX13_undo_5 : decode cX13_undo 5 = .ok (.aload_n 0, 1) := by decide +kernel
theorem dX13_undo_6 : decode cX13_undo 6 = .ok (.getfield 459, 3) := by decide +kernel
theorem dX13_undo_9 : decode cX13_undo 9 = .ok (.ifCond .ne 5, 3) := by decide +kernel
theorem dX13_undo_12 : decode cX13_undo 12 = .ok (.iconst (-1), 1) := by decide +kernel
theorem dX13_undo_13 : decode cX13_undo 13 = .ok (.ireturn, 1) := by decide +kernel
theorem dX13_undo_14 : decode cX13_undo 14 = .ok (.aload_n 0, 1) := by decide +kernel
theorem dX13_undo_15 : decode cX13_undo 15 = .ok (.dup, 1) := by decide +kernel
theorem dX13_undo_16 : decode cX13_undo 16 = .ok (.getfield 459, 3) := by decide +kernel
theorem dX13_undo_19 : decode cX13_undo 19 = .ok (.iconst 1, 1) := by decide +kernel
theorem dX13_undo_20 : decode cX13_undo 20 = .ok (.isub, 1) := by decide +kernel
theorem dX13_undo_21 : decode cX13_undo 21 = .ok (.putfield 459, 3) := by decide +kernel
theorem dX13_undo_24 : decode cX13_undo 24 = .ok (.aload_n 0, 1) := by decide +kernel
theorem dX13_undo_25 : decode cX13_undo 25 = .ok (.getfield 22, 3) := by decide +kernel
theorem dX13_undo_28 : decode cX13_undo 28 = .ok (.aload_n 0, 1) := by decide +kernel
theorem dX13_undo_29 : decode cX13_undo 29 = .ok (.getfield 459, 3) := by decide +kernel
theorem dX13_undo_32 : decode cX13_undo 32 = .ok (.aload_n 0, 1) := by decide +kernel
theorem dX13_undo_33 : decode cX13_undo 33 = .ok (.getfield 9, 3) := by decide +kernel
theorem dX13_undo_36 : decode cX13_undo 36 = .ok (.iconst 0, 1) := by decide +kernel
theorem dX13_undo_37 : decode cX13_undo 37 = .ok (.invokestatic 441, 3) := by decide +kernel
theorem dX13_undo_40 : decode cX13_undo 40 = .ok (.aload_n 0, 1) := by decide +kernel
theorem dX13_undo_41 : decode cX13_undo 41 = .ok (.getfield 459, 3) := by decide +kernel
theorem dX13_undo_44 : decode cX13_undo 44 = .ok (.ireturn, 1) := by decide +kernel
theorem dX13_saveSnapshot_0 : decode cX13_saveSnapshot 0 = .ok (.aload_n 0, 1) := by decide +kernel
theorem dX13_saveSnapshot_1 : decode cX13_saveSnapshot 1 = .ok (.iconst 0, 1) := by decide +kernel
theorem dX13_saveSnapshot_2 : decode cX13_saveSnapshot 2 = .ok (.putfield 231, 3) := by decide +kernel
theorem dX13_saveSnapshot_5 : decode cX13_saveSnapshot 5 = .ok (.aload_n 0, 1) := by decide +kernel
theorem dX13_saveSnapshot_6 : decode cX13_saveSnapshot 6 = .ok (.getfield 9, 3) := by decide +kernel
theorem dX13_saveSnapshot_9 : decode cX13_saveSnapshot 9 = .ok (.iconst 0, 1) := by decide +kernel
theorem dX13_saveSnapshot_10 : decode cX13_saveSnapshot 10 = .ok (.aload_n 0, 1) := by decide +kernel
theorem dX13_saveSnapshot_11 : decode cX13_saveSnapshot 11 = .ok (.getfield 19, 3) := by decide +kernel
theorem dX13_saveSnapshot_14 : decode cX13_saveSnapshot 14 = .ok (.iconst 0, 1) := by decide +kernel
theorem dX13_saveSnapshot_15 : decode cX13_saveSnapshot 15 = .ok (.invokestatic 441, 3) := by decide +kernel
theorem dX13_saveSnapshot_18 : decode cX13_saveSnapshot 18 = .ok (.aload_n 0, 1) := by decide +kernel
theorem dX13_saveSnapshot_19 : decode cX13_saveSnapshot 19 = .ok (.iconst 1, 1) := by decide +kernel
theorem dX13_saveSnapshot_20 : decode cX13_saveSnapshot 20 = .ok (.putfield 462, 3) := by decide +kernel
theorem dX13_saveSnapshot_23 : decode cX13_saveSnapshot 23 = .ok (.return_, 1) := by decide +kernel
theorem dX13_restoreSnapshot_0 : decode cX13_restoreSnapshot 0 = .ok (.aload_n 0, 1) := by decide +kernel
theorem dX13_restoreSnapshot_1 : decode cX13_restoreSnapshot 1 = .ok (.iconst 0, 1) := by decide +kernel
theorem dX13_restoreSnapshot_2 : decode cX13_restoreSnapshot 2 = .ok (.putfield 231, 3) := by decide +kernel
theorem dX13_restoreSnapshot_5 : decode cX13_restoreSnapshot 5 = .ok (.aload_n 0, 1) := by decide +kernel
theorem dX13_restoreSnapshot_6 : decode cX13_restoreSnapshot 6 = .ok (.getfield 462, 3) := by decide +kernel
theorem dX13_restoreSnapshot_9 : decode cX13_restoreSnapshot 9 = .ok (.ifCond .ne 5, 3) := by decide +kernel
theorem dX13_restoreSnapshot_12 : decode cX13_restoreSnapshot 12 = .ok (.iconst 0, 1) := by decide +kernel
theorem dX13_restoreSnapshot_13 : decode cX13_restoreSnapshot 13 = .ok (.ireturn, 1) := by decide +kernel
theorem dX13_restoreSnapshot_14 : decode cX13_restoreSnapshot 14 = .ok (.aload_n 0, 1) := by decide +kernel
theorem dX13_restoreSnapshot_15 : decode cX13_restoreSnapshot 15 = .ok (.getfield 19, 3) := by decide +kernel
theorem dX13_restoreSnapshot_18 : decode cX13_restoreSnapshot 18 = .ok (.iconst 0, 1) := by decide +kernel
theorem dX13_restoreSnapshot_19 : decode cX13_restoreSnapshot 19 = .ok (.aload_n 0, 1) := by decide +kernel
theorem dX13_restoreSnapshot_20 : decode cX13_restoreSnapshot 20 = .ok (.getfield 9, 3) := by decide +kernel
theorem dX13_restoreSnapshot_23 : decode cX13_restoreSnapshot 23 = .ok (.iconst 0, 1) := by decide +kernel
theorem dX13_restoreSnapshot_24 : decode cX13_restoreSnapshot 24 = .ok (.invokestatic 441, 3) := by decide +kernel
theorem dX13_restoreSnapshot_27 : decode cX13_restoreSnapshot 27 = .ok (.aload_n 0, 1) := by decide +kernel
theorem dX13_restoreSnapshot_28 : decode cX13_restoreSnapshot 28 = .ok (.iconst 0, 1) := by decide +kernel
theorem dX13_restoreSnapshot_29 : decode cX13_restoreSnapshot 29 = .ok (.putfield 459, 3) := by decide +kernel
theorem dX13_restoreSnapshot_32 : decode cX13_restoreSnapshot 32 = .ok (.iconst 1, 1) := by decide +kernel
theorem dX13_restoreSnapshot_33 : decode cX13_restoreSnapshot 33 = .ok (.ireturn, 1) := by decide +kernel
theorem dX13_feed_0 : decode cX13_feed 0 = .ok (.aload_n 0, 1) := by decide +kernel
theorem dX13_feed_1 : decode cX13_feed 1 = .ok (.iconst 0, 1) := by decide +kernel
theorem dX13_feed_2 : decode cX13_feed 2 = .ok (.putfield 231, 3) := by decide +kernel
theorem dX13_feed_5 : decode cX13_feed 5 = .ok (.aload_n 0, 1) := by decide +kernel
theorem dX13_feed_6 : decode cX13_feed 6 = .ok (.getfield 466, 3) := by decide +kernel
theorem dX13_feed_9 : decode cX13_feed 9 = .ok (.bipush 20, 2) := by decide +kernel
theorem dX13_feed_11 : decode cX13_feed 11 = .ok (.iadd, 1) := by decide +kernel
theorem dX13_feed_12 : decode cX13_feed 12 = .ok (.sipush 1000, 3) := by decide +kernel
theorem dX13_feed_15 : decode cX13_feed 15 = .ok (.if_icmp .le 5, 3) := by decide +kernel
theorem dX13_feed_18 : decode cX13_feed 18 = .ok (.iconst (-1), 1) := by decide +kernel
theorem dX13_feed_19 : decode cX13_feed 19 = .ok (.ireturn, 1) := by decide +kernel
theorem dX13_feed_20 : decode cX13_feed 20 = .ok (.iconst 0, 1) := by decide +kernel
theorem dX13_feed_21 : decode cX13_feed 21 = .ok (.istore 6, 2) := by decide +kernel
theorem dX13_feed_23 : decode cX13_feed 23 = .ok (.iload 6, 2) := by decide +kernel
theorem dX13_feed_25 : decode cX13_feed 25 = .ok (.bipush 20, 2) := by decide +kernel
theorem dX13_feed_27 : decode cX13_feed 27 = .ok (.if_icmp .ge 93, 3) := by decide +kernel
theorem dX13_feed_30 : decode cX13_feed 30 = .ok (.iload 6, 2) := by decide +kernel
theorem dX13_feed_32 : decode cX13_feed 32 = .ok (.iconst 4, 1) := by decide +kernel
theorem dX13_feed_33 : decode cX13_feed 33 = .ok (.if_icmp .ge 7, 3) := by decide +kernel
theorem dX13_feed_36 : decode cX13_feed 36 = .ok (.iload_n 1, 1) := by decide +kernel
theorem dX13_feed_37 : decode cX13_feed 37 = .ok (.goto 39, 3) := by decide +kernel
theorem dX13_feed_40 : decode cX13_feed 40 = .ok (.iload 6, 2) := by decide +kernel
theorem dX13_feed_42 : decode cX13_feed 42 = .ok (.bipush 8, 2) := by decide +kernel
theorem dX13_feed_44 : decode cX13_feed 44 = .ok (.if_icmp .ge 7, 3) := by decide +kernel
theorem dX13_feed_47 : decode cX13_feed 47 = .ok (.iload_n 2, 1) := by decide +kernel
theorem dX13_feed_48 : decode cX13_feed 48 = .ok (.goto 28, 3) := by decide +kernel
theorem dX13_feed_51 : decode cX13_feed 51 = .ok (.iload 6, 2) := by decide +kernel
theorem dX13_feed_53 : decode cX13_feed 53 = .ok (.bipush 12, 2) := by decide +kernel
theorem dX13_feed_55 : decode cX13_feed 55 = .ok (.if_icmp .ge 7, 3) := by decide +kernel
theorem dX13_feed_58 : decode cX13_feed 58 = .ok (.iload_n 3, 1) := by decide +kernel
theorem dX13_feed_59 : decode cX13_feed 59 = .ok (.goto 17, 3) := by decide +kernel
theorem dX13_feed_62 : decode cX13_feed 62 = .ok (.iload 6, 2) := by decide +kernel
theorem dX13_feed_64 : decode cX13_feed 64 = .ok (.bipush 16, 2) := by decide +kernel
theorem dX13_feed_66 : decode cX13_feed 66 = .ok (.if_icmp .ge 8, 3) := by decide +kernel
theorem dX13_feed_69 : decode cX13_feed 69 = .ok (.iload 4, 2) := by decide +kernel
theorem dX13_feed_71 : decode cX13_feed 71 = .ok (.goto 5, 3) := by decide +kernel
theorem dX13_feed_74 : decode cX13_feed 74 = .ok (.iload 5, 2) := by decide +kernel
theorem dX13_feed_76 : decode cX13_feed 76 = .ok (.istore 7, 2) := by decide +kernel
theorem dX13_feed_78 : decode cX13_feed 78 = .ok (.aload_n 0, 1) := by decide +kernel
theorem dX13_feed_79 : decode cX13_feed 79 = .ok (.getfield 50, 3) := by decide +kernel
theorem dX13_feed_82 : decode cX13_feed 82 = .ok (.aload_n 0, 1) := by decide +kernel
theorem dX13_feed_83 : decode cX13_feed 83 = .ok (.getfield 466, 3) := by decide +kernel
theorem dX13_feed_86 : decode cX13_feed 86 = .ok (.iload 7, 2) := by decide +kernel
theorem dX13_feed_88 : decode cX13_feed 88 = .ok (.bipush 24, 2) := by decide +kernel
theorem dX13_feed_90 : decode cX13_feed 90 = .ok (.bipush 8, 2) := by decide +kernel
theorem dX13_feed_92 : decode cX13_feed 92 = .ok (.iload 6, 2) := by decide +kernel
theorem dX13_feed_94 : decode cX13_feed 94 = .ok (.iconst 4, 1) := by decide +kernel
theorem dX13_feed_95 : decode cX13_feed 95 = .ok (.irem, 1) := by decide +kernel
theorem dX13_feed_96 : decode cX13_feed 96 = .ok (.imul, 1) := by decide +kernel
theorem dX13_feed_97 : decode cX13_feed 97 = .ok (.isub, 1) := by decide +kernel
theorem dX13_feed_98 : decode cX13_feed 98 = .ok (.ishr, 1) := by decide +kernel
theorem dX13_feed_99 : decode cX13_feed 99 = .ok (.sipush 255, 3) := by decide +kernel
theorem dX13_feed_102 : decode cX13_feed 102 = .ok (.iand, 1) := by decide +kernel
theorem dX13_feed_103 : decode cX13_feed 103 = .ok (.iastore, 1) := by decide +kernel
theorem dX13_feed_104 : decode cX13_feed 104 = .ok (.aload_n 0, 1) := by decide +kernel
theorem dX13_feed_105 : decode cX13_feed 105 = .ok (.dup, 1) := by decide +kernel
theorem dX13_feed_106 : decode cX13_feed 106 = .ok (.getfield 466, 3) := by decide +kernel
theorem dX13_feed_109 : decode cX13_feed 109 = .ok (.iconst 1, 1) := by decide +kernel
theorem dX13_feed_110 : decode cX13_feed 110 = .ok (.iadd, 1) := by decide +kernel
theorem dX13_feed_111 : decode cX13_feed 111 = .ok (.putfield 466, 3) := by decide +kernel
theorem dX13_feed_114 : decode cX13_feed 114 = .ok (.iinc 6 1, 3) := by decide +kernel
theorem dX13_feed_117 : decode cX13_feed 117 = .ok (.goto (-94), 3) := by decide +kernel
theorem dX13_feed_120 : decode cX13_feed 120 = .ok (.aload_n 0, 1) := by decide +kernel
theorem dX13_feed_121 : decode cX13_feed 121 = .ok (.getfield 466, 3) := by decide +kernel
theorem dX13_feed_124 : decode cX13_feed 124 = .ok (.ireturn, 1) := by decide +kernel
theorem dX13_errorPosition_0 : decode cX13_errorPosition 0 = .ok (.aload_n 0, 1) := by decide +kernel
theorem dX13_errorPosition_1 : decode cX13_errorPosition 1 = .ok (.iconst 0, 1) := by decide +kernel
theorem dX13_errorPosition_2 : decode cX13_errorPosition 2 = .ok (.putfield 231, 3) := by decide +kernel
theorem dX13_errorPosition_5 : decode cX13_errorPosition 5 = .ok (.aload_n 0, 1) := by decide +kernel
theorem dX13_errorPosition_6 : decode cX13_errorPosition 6 = .ok (.getfield 53, 3) := by decide +kernel
theorem dX13_errorPosition_9 : decode cX13_errorPosition 9 = .ok (.ireturn, 1) := by decide +kernel
theorem dX13_byteAt_0 : decode cX13_byteAt 0 = .ok (.iload_n 1, 1) := by decide +kernel
theorem dX13_byteAt_1 : decode cX13_byteAt 1 = .ok (.aload_n 0, 1) := by decide +kernel
theorem dX13_byteAt_2 : decode cX13_byteAt 2 = .ok (.getfield 469, 3) := by decide +kernel
theorem dX13_byteAt_5 : decode cX13_byteAt 5 = .ok (.if_icmp .ge 12, 3) := by decide +kernel
theorem dX13_byteAt_8 : decode cX13_byteAt 8 = .ok (.aload_n 0, 1) := by decide +kernel
theorem dX13_byteAt_9 : decode cX13_byteAt 9 = .ok (.getfield 50, 3) := by decide +kernel
theorem dX13_byteAt_12 : decode cX13_byteAt 12 = .ok (.iload_n 1, 1) := by decide +kernel
theorem dX13_byteAt_13 : decode cX13_byteAt 13 = .ok (.iaload, 1) := by decide +kernel
theorem dX13_byteAt_14 : decode cX13_byteAt 14 = .ok (.goto 4, 3) := by decide +kernel
theorem dX13_byteAt_17 : decode cX13_byteAt 17 = .ok (.iconst (-1), 1) := by decide +kernel
theorem dX13_byteAt_18 : decode cX13_byteAt 18 = .ok (.ireturn, 1) := by decide +kernel
theorem dX13_isLetter_0 : decode cX13_isLetter 0 = .ok (.aload_n 0, 1) := by decide +kernel
theorem dX13_isLetter_1 : decode cX13_isLetter 1 = .ok (.iload_n 1, 1) := by decide +kernel
theorem dX13_isLetter_2 : decode cX13_isLetter 2 = .ok (.invokevirtual 472, 3) := by decide +kernel
theorem dX13_isLetter_5 : decode cX13_isLetter 5 = .ok (.bipush 97, 2) := by decide +kernel
theorem dX13_isLetter_7 : decode cX13_isLetter 7 = .ok (.if_icmp .lt 17, 3) := by decide +kernel
theorem dX13_isLetter_10 : decode cX13_isLetter 10 = .ok (.aload_n 0, 1) := by decide +kernel
theorem dX13_isLetter_11 : decode cX13_isLetter 11 = .ok (.iload_n 1, 1) := by decide +kernel
theorem dX13_isLetter_12 : decode cX13_isLetter 12 = .ok (.invokevirtual 472, 3) := by decide +kernel
theorem dX13_isLetter_15 : decode cX13_isLetter 15 = .ok (.bipush 122, 2) := by decide +kernel
theorem dX13_isLetter_17 : decode cX13_isLetter 17 = .ok (.if_icmp .gt 7, 3) := by decide +kernel
theorem dX13_isLetter_20 : decode cX13_isLetter 20 = .ok (.iconst 1, 1) := by decide +kernel
theorem dX13_isLetter_21 : decode cX13_isLetter 21 = .ok (.goto 4, 3) := by decide +kernel
theorem dX13_isLetter_24 : decode cX13_isLetter 24 = .ok (.iconst 0, 1) := by decide +kernel
theorem dX13_isLetter_25 : decode cX13_isLetter 25 = .ok (.ireturn, 1) := by decide +kernel
theorem dX13_isDigit_0 : decode cX13_isDigit 0 = .ok (.aload_n 0, 1) := by decide +kernel
theorem dX13_isDigit_1 : decode cX13_isDigit 1 = .ok (.iload_n 1, 1) := by decide +kernel
theorem dX13_isDigit_2 : decode cX13_isDigit 2 = .ok (.invokevirtual 472, 3) := by decide +kernel
theorem dX13_isDigit_5 : decode cX13_isDigit 5 = .ok (.bipush 48, 2) := by decide +kernel
theorem dX13_isDigit_7 : decode cX13_isDigit 7 = .ok (.if_icmp .lt 17, 3) := by decide +kernel
theorem dX13_isDigit_10 : decode cX13_isDigit 10 = .ok (.aload_n 0, 1) := by decide +kernel
theorem dX13_isDigit_11 : decode cX13_isDigit 11 = .ok (.iload_n 1, 1) := by decide +kernel
theorem dX13_isDigit_12 : decode cX13_isDigit 12 = .ok (.invokevirtual 472, 3) := by decide +kernel
theorem dX13_isDigit_15 : decode cX13_isDigit 15 = .ok (.bipush 57, 2) := by decide +kernel
theorem dX13_isDigit_17 : decode cX13_isDigit 17 = .ok (.if_icmp .gt 7, 3) := by decide +kernel
theorem dX13_isDigit_20 : decode cX13_isDigit 20 = .ok (.iconst 1, 1) := by decide +kernel
theorem dX13_isDigit_21 : decode cX13_isDigit 21 = .ok (.goto 4, 3) := by decide +kernel
theorem dX13_isDigit_24 : decode cX13_isDigit 24 = .ok (.iconst 0, 1) := by decide +kernel
theorem dX13_isDigit_25 : decode cX13_isDigit 25 = .ok (.ireturn, 1) := by decide +kernel
theorem dX13_scan_0 : decode cX13_scan 0 = .ok (.aload_n 0, 1) := by decide +kernel
theorem dX13_scan_1 : decode cX13_scan 1 = .ok (.aload_n 0, 1) := by decide +kernel
theorem dX13_scan_2 : decode cX13_scan 2 = .ok (.getfield 475, 3) := by decide +kernel
theorem dX13_scan_5 : decode cX13_scan 5 = .ok (.invokevirtual 472, 3) := by decide +kernel
theorem dX13_scan_8 : decode cX13_scan 8 = .ok (.bipush 32, 2) := by decide +kernel
theorem dX13_scan_10 : decode cX13_scan 10 = .ok (.if_icmp .eq 16, 3) := by decide +kernel
theorem dX13_scan_13 : decode cX13_scan 13 = .ok (.aload_n 0, 1) := by decide +kernel
theorem dX13_scan_14 : decode cX13_scan 14 = .ok (.aload_n 0, 1) := by decide +kernel
theorem dX13_scan_15 : decode cX13_scan 15 = .ok (.getfield 475, 3) := by decide +kernel
theorem dX13_scan_18 : decode cX13_scan 18 = .ok (.invokevirtual 472, 3) := by decide +kernel
theorem dX13_scan_21 : decode cX13_scan 21 = .ok (.bipush 10, 2) := by decide +kernel
theorem dX13_scan_23 : decode cX13_scan 23 = .ok (.if_icmp .ne 16, 3) := by decide +kernel
theorem dX13_scan_26 : decode cX13_scan 26 = .ok (.aload_n 0, 1) := by decide +kernel
theorem dX13_scan_27 : decode cX13_scan 27 = .ok (.dup, 1) := by decide +kernel
theorem dX13_scan_28 : decode cX13_scan 28 = .ok (.getfield 475, 3) := by decide +kernel
theorem dX13_scan_31 : decode cX13_scan 31 = .ok (.iconst 1, 1) := by decide +kernel
theorem dX13_scan_32 : decode cX13_scan 32 = .ok (.iadd, 1) := by decide +kernel
theorem dX13_scan_33 : decode cX13_scan 33 = .ok (.putfield 475, 3) := by decide +kernel
theorem dX13_scan_36 : decode cX13_scan 36 = .ok (.goto (-36), 3) := by decide +kernel
theorem dX13_scan_39 : decode cX13_scan 39 = .ok (.aload_n 0, 1) := by decide +kernel
theorem dX13_scan_40 : decode cX13_scan 40 = .ok (.aload_n 0, 1) := by decide +kernel
theorem dX13_scan_41 : decode cX13_scan 41 = .ok (.getfield 475, 3) := by decide +kernel
theorem dX13_scan_44 : decode cX13_scan 44 = .ok (.putfield 478, 3) := by decide +kernel
theorem dX13_scan_47 : decode cX13_scan 47 = .ok (.aload_n 0, 1) := by decide +kernel
theorem dX13_scan_48 : decode cX13_scan 48 = .ok (.getfield 475, 3) := by decide +kernel
theorem dX13_scan_51 : decode cX13_scan 51 = .ok (.aload_n 0, 1) := by decide +kernel
theorem dX13_scan_52 : decode cX13_scan 52 = .ok (.getfield 469, 3) := by decide +kernel
theorem dX13_scan_55 : decode cX13_scan 55 = .ok (.if_icmp .lt 11, 3) := by decide +kernel
theorem dX13_scan_58 : decode cX13_scan 58 = .ok (.aload_n 0, 1) := by decide +kernel
theorem dX13_scan_59 : decode cX13_scan 59 = .ok (.iconst 0, 1) := by decide +kernel
theorem dX13_scan_60 : decode cX13_scan 60 = .ok (.putfield 481, 3) := by decide +kernel
theorem dX13_scan_63 : decode cX13_scan 63 = .ok (.goto 104, 3) := by decide +kernel
theorem dX13_scan_66 : decode cX13_scan 66 = .ok (.aload_n 0, 1) := by decide +kernel
theorem dX13_scan_67 : decode cX13_scan 67 = .ok (.aload_n 0, 1) := by decide +kernel
theorem dX13_scan_68 : decode cX13_scan 68 = .ok (.getfield 475, 3) := by decide +kernel
theorem dX13_scan_71 : decode cX13_scan 71 = .ok (.invokevirtual 484, 3) := by decide +kernel
theorem dX13_scan_74 : decode cX13_scan 74 = .ok (.ifCond .eq 35, 3) := by decide +kernel
theorem dX13_scan_77 : decode cX13_scan 77 = .ok (.aload_n 0, 1) := by decide +kernel
theorem dX13_scan_78 : decode cX13_scan 78 = .ok (.aload_n 0, 1) := by decide +kernel
theorem dX13_scan_79 : decode cX13_scan 79 = .ok (.getfield 475, 3) := by decide +kernel
theorem dX13_scan_82 : decode cX13_scan 82 = .ok (.invokevirtual 484, 3) := by decide +kernel
theorem dX13_scan_85 : decode cX13_scan 85 = .ok (.ifCond .eq 16, 3) := by decide +kernel
theorem dX13_scan_88 : decode cX13_scan 88 = .ok (.aload_n 0, 1) := by decide +kernel
theorem dX13_scan_89 : decode cX13_scan 89 = .ok (.dup, 1) := by decide +kernel
theorem dX13_scan_90 : decode cX13_scan 90 = .ok (.getfield 475, 3) := by decide +kernel
theorem dX13_scan_93 : decode cX13_scan 93 = .ok (.iconst 1, 1) := by decide +kernel
theorem dX13_scan_94 : decode cX13_scan 94 = .ok (.iadd, 1) := by decide +kernel
theorem dX13_scan_95 : decode cX13_scan 95 = .ok (.putfield 475, 3) := by decide +kernel
theorem dX13_scan_98 : decode cX13_scan 98 = .ok (.goto (-21), 3) := by decide +kernel
theorem dX13_scan_101 : decode cX13_scan 101 = .ok (.aload_n 0, 1) := by decide +kernel
theorem dX13_scan_102 : decode cX13_scan 102 = .ok (.iconst 1, 1) := by decide +kernel
theorem dX13_scan_103 : decode cX13_scan 103 = .ok (.putfield 481, 3) := by decide +kernel
theorem dX13_scan_106 : decode cX13_scan 106 = .ok (.goto 61, 3) := by decide +kernel
theorem dX13_scan_109 : decode cX13_scan 109 = .ok (.aload_n 0, 1) := by decide +kernel
theorem dX13_scan_110 : decode cX13_scan 110 = .ok (.aload_n 0, 1) := by decide +kernel
theorem dX13_scan_111 : decode cX13_scan 111 = .ok (.getfield 475, 3) := by decide +kernel
theorem dX13_scan_114 : decode cX13_scan 114 = .ok (.invokevirtual 487, 3) := by decide +kernel
theorem dX13_scan_117 : decode cX13_scan 117 = .ok (.ifCond .eq 35, 3) := by decide +kernel
theorem dX13_scan_120 : decode cX13_scan 120 = .ok (.aload_n 0, 1) := by decide +kernel
theorem dX13_scan_121 : decode cX13_scan 121 = .ok (.aload_n 0, 1) := by decide +kernel
theorem dX13_scan_122 : decode cX13_scan 122 = .ok (.getfield 475, 3) := by decide +kernel
theorem dX13_scan_125 : decode cX13_scan 125 = .ok (.invokevirtual 487, 3) := by decide +kernel
theorem dX13_scan_128 : decode cX13_scan 128 = .ok (.ifCond .eq 16, 3) := by decide +kernel
theorem dX13_scan_131 : decode cX13_scan 131 = .ok (.aload_n 0, 1) := by decide +kernel
theorem dX13_scan_132 : decode cX13_scan 132 = .ok (.dup, 1) := by decide +kernel
theorem dX13_scan_133 : decode cX13_scan 133 = .ok (.getfield 475, 3) := by decide +kernel
theorem dX13_scan_136 : decode cX13_scan 136 = .ok (.iconst 1, 1) := by decide +kernel
theorem dX13_scan_137 : decode cX13_scan 137 = .ok (.iadd, 1) := by decide +kernel
theorem dX13_scan_138 : decode cX13_scan 138 = .ok (.putfield 475, 3) := by decide +kernel
theorem dX13_scan_141 : decode cX13_scan 141 = .ok (.goto (-21), 3) := by decide +kernel
theorem dX13_scan_144 : decode cX13_scan 144 = .ok (.aload_n 0, 1) := by decide +kernel
theorem dX13_scan_145 : decode cX13_scan 145 = .ok (.iconst 2, 1) := by decide +kernel
theorem dX13_scan_146 : decode cX13_scan 146 = .ok (.putfield 481, 3) := by decide +kernel
theorem dX13_scan_149 : decode cX13_scan 149 = .ok (.goto 18, 3) := by decide +kernel
theorem dX13_scan_152 : decode cX13_scan 152 = .ok (.aload_n 0, 1) := by decide +kernel
theorem dX13_scan_153 : decode cX13_scan 153 = .ok (.dup, 1) := by decide +kernel
theorem dX13_scan_154 : decode cX13_scan 154 = .ok (.getfield 475, 3) := by decide +kernel
theorem dX13_scan_157 : decode cX13_scan 157 = .ok (.iconst 1, 1) := by decide +kernel
theorem dX13_scan_158 : decode cX13_scan 158 = .ok (.iadd, 1) := by decide +kernel
theorem dX13_scan_159 : decode cX13_scan 159 = .ok (.putfield 475, 3) := by decide +kernel
theorem dX13_scan_162 : decode cX13_scan 162 = .ok (.aload_n 0, 1) := by decide +kernel
theorem dX13_scan_163 : decode cX13_scan 163 = .ok (.iconst 3, 1) := by decide +kernel
theorem dX13_scan_164 : decode cX13_scan 164 = .ok (.putfield 481, 3) := by decide +kernel
theorem dX13_scan_167 : decode cX13_scan 167 = .ok (.return_, 1) := by decide +kernel
theorem dX13_startText_0 : decode cX13_startText 0 = .ok (.aload_n 0, 1) := by decide +kernel
theorem dX13_startText_1 : decode cX13_startText 1 = .ok (.iload_n 1, 1) := by decide +kernel
theorem dX13_startText_2 : decode cX13_startText 2 = .ok (.putfield 469, 3) := by decide +kernel
theorem dX13_startText_5 : decode cX13_startText 5 = .ok (.aload_n 0, 1) := by decide +kernel
theorem dX13_startText_6 : decode cX13_startText 6 = .ok (.iconst 0, 1) := by decide +kernel
theorem dX13_startText_7 : decode cX13_startText 7 = .ok (.putfield 475, 3) := by decide +kernel
theorem dX13_startText_10 : decode cX13_startText 10 = .ok (.aload_n 0, 1) := by decide +kernel
theorem dX13_startText_11 : decode cX13_startText 11 = .ok (.iconst 0, 1) := by decide +kernel
theorem dX13_startText_12 : decode cX13_startText 12 = .ok (.putfield 490, 3) := by decide +kernel
theorem dX13_startText_15 : decode cX13_startText 15 = .ok (.aload_n 0, 1) := by decide +kernel
theorem dX13_startText_16 : decode cX13_startText 16 = .ok (.iconst 0, 1) := by decide +kernel
theorem dX13_startText_17 : decode cX13_startText 17 = .ok (.putfield 493, 3) := by decide +kernel
theorem dX13_startText_20 : decode cX13_startText 20 = .ok (.aload_n 0, 1) := by decide +kernel
theorem dX13_startText_21 : decode cX13_startText 21 = .ok (.invokevirtual 496, 3) := by decide +kernel
theorem dX13_startText_24 : decode cX13_startText 24 = .ok (.return_, 1) := by decide +kernel
theorem dX13_finish_0 : decode cX13_finish 0 = .ok (.aload_n 0, 1) := by decide +kernel
theorem dX13_finish_1 : decode cX13_finish 1 = .ok (.iconst 0, 1) := by decide +kernel
theorem dX13_finish_2 : decode cX13_finish 2 = .ok (.putfield 466, 3) := by decide +kernel
theorem dX13_finish_5 : decode cX13_finish 5 = .ok (.aload_n 0, 1) := by decide +kernel
theorem dX13_finish_6 : decode cX13_finish 6 = .ok (.aload_n 0, 1) := by decide +kernel
theorem dX13_finish_7 : decode cX13_finish 7 = .ok (.getfield 490, 3) := by decide +kernel
theorem dX13_finish_10 : decode cX13_finish 10 = .ok (.ifCond .ne 7, 3) := by decide +kernel
theorem dX13_finish_13 : decode cX13_finish 13 = .ok (.iconst (-1), 1) := by decide +kernel
theorem dX13_finish_14 : decode cX13_finish 14 = .ok (.goto 7, 3) := by decide +kernel
theorem dX13_finish_17 : decode cX13_finish 17 = .ok (.aload_n 0, 1) := by decide +kernel
theorem dX13_finish_18 : decode cX13_finish 18 = .ok (.getfield 499, 3) := by decide +kernel
theorem dX13_finish_21 : decode cX13_finish 21 = .ok (.putfield 53, 3) := by decide +kernel
theorem dX13_finish_24 : decode cX13_finish 24 = .ok (.aload_n 0, 1) := by decide +kernel
theorem dX13_finish_25 : decode cX13_finish 25 = .ok (.getfield 490, 3) := by decide +kernel
theorem dX13_finish_28 : decode cX13_finish 28 = .ok (.ireturn, 1) := by decide +kernel
theorem dX13_fail_0 : decode cX13_fail 0 = .ok (.aload_n 0, 1) := by decide +kernel
theorem dX13_fail_1 : decode cX13_fail 1 = .ok (.getfield 490, 3) := by decide +kernel
theorem dX13_fail_4 : decode cX13_fail 4 = .ok (.ifCond .ne 16, 3) := by decide +kernel
theorem dX13_fail_7 : decode cX13_fail 7 = .ok (.aload_n 0, 1) := by decide +kernel
theorem dX13_fail_8 : decode cX13_fail 8 = .ok (.iload_n 1, 1) := by decide +kernel
theorem dX13_fail_9 : decode cX13_fail 9 = .ok (.putfield 490, 3) := by decide +kernel
theorem dX13_fail_12 : decode cX13_fail 12 = .ok (.aload_n 0, 1) := by decide +kernel
theorem dX13_fail_13 : decode cX13_fail 13 = .ok (.aload_n 0, 1) := by decide +kernel
theorem dX13_fail_14 : decode cX13_fail 14 = .ok (.getfield 478, 3) := by decide +kernel
theorem dX13_fail_17 : decode cX13_fail 17 = .ok (.putfield 499, 3) := by decide +kernel
theorem dX13_fail_20 : decode cX13_fail 20 = .ok (.return_, 1) := by decide +kernel
theorem dX13_check_0 : decode cX13_check 0 = .ok (.iload_n 1, 1) := by decide +kernel
theorem dX13_check_1 : decode cX13_check 1 = .ok (.ifCond .ne 8, 3) := by decide +kernel
theorem dX13_check_4 : decode cX13_check 4 = .ok (.aload_n 0, 1) := by decide +kernel
theorem dX13_check_5 : decode cX13_check 5 = .ok (.iload_n 2, 1) := by decide +kernel
theorem dX13_check_6 : decode cX13_check 6 = .ok (.invokevirtual 502, 3) := by decide +kernel
theorem dX13_check_9 : decode cX13_check 9 = .ok (.return_, 1) := by decide +kernel
theorem dX13_advance_0 : decode cX13_advance 0 = .ok (.aload_n 0, 1) := by decide +kernel
theorem dX13_advance_1 : decode cX13_advance 1 = .ok (.getfield 490, 3) := by decide +kernel
theorem dX13_advance_4 : decode cX13_advance 4 = .ok (.ifCond .ne 7, 3) := by decide +kernel
theorem dX13_advance_7 : decode cX13_advance 7 = .ok (.aload_n 0, 1) := by decide +kernel
theorem dX13_advance_8 : decode cX13_advance 8 = .ok (.invokevirtual 496, 3) := by decide +kernel
theorem dX13_advance_11 : decode cX13_advance 11 = .ok (.return_, 1) := by decide +kernel
theorem dX13_isSymbol_0 : decode cX13_isSymbol 0 = .ok (.aload_n 0, 1) := by decide +kernel
theorem dX13_isSymbol_1 : decode cX13_isSymbol 1 = .ok (.getfield 490, 3) := by decide +kernel
theorem dX13_isSymbol_4 : decode cX13_isSymbol 4 = .ok (.ifCond .ne 28, 3) := by decide +kernel
theorem dX13_isSymbol_7 : decode cX13_isSymbol 7 = .ok (.aload_n 0, 1) := by decide +kernel
theorem dX13_isSymbol_8 : decode cX13_isSymbol 8 = .ok (.getfield 481, 3) := by decide +kernel
theorem dX13_isSymbol_11 : decode cX13_isSymbol 11 = .ok (.iconst 3, 1) := by decide +kernel
theorem dX13_isSymbol_12 : decode cX13_isSymbol 12 = .ok (.if_icmp .ne 20, 3) := by decide +kernel
theorem dX13_isSymbol_15 : decode cX13_isSymbol 15 = .ok (.aload_n 0, 1) := by decide +kernel
theorem dX13_isSymbol_16 : decode cX13_isSymbol 16 = .ok (.getfield 50, 3) := by decide +kernel
theorem dX13_isSymbol_19 : decode cX13_isSymbol 19 = .ok (.aload_n 0, 1) := by decide +kernel
theorem dX13_isSymbol_20 : decode cX13_isSymbol 20 = .ok (.getfield 478, 3) := by decide +kernel
theorem dX13_isSymbol_23 : decode cX13_isSymbol 23 = .ok (.iaload, 1) := by decide +kernel
theorem dX13_isSymbol_24 : decode cX13_isSymbol 24 = .ok (.iload_n 1, 1) := by decide +kernel
theorem dX13_isSymbol_25 : decode cX13_isSymbol 25 = .ok (.if_icmp .ne 7, 3) := by decide +kernel
theorem dX13_isSymbol_28 : decode cX13_isSymbol 28 = .ok (.iconst 1, 1) := by decide +kernel
theorem dX13_isSymbol_29 : decode cX13_isSymbol 29 = .ok (.goto 4, 3) := by decide +kernel
theorem dX13_isSymbol_32 : decode cX13_isSymbol 32 = .ok (.iconst 0, 1) := by decide +kernel
theorem dX13_isSymbol_33 : decode cX13_isSymbol 33 = .ok (.ireturn, 1) := by decide +kernel
theorem dX13_isWord_0 : decode cX13_isWord 0 = .ok (.aload_n 0, 1) := by decide +kernel
theorem dX13_isWord_1 : decode cX13_isWord 1 = .ok (.getfield 490, 3) := by decide +kernel
theorem dX13_isWord_4 : decode cX13_isWord 4 = .ok (.ifCond .ne 31, 3) := by decide +kernel
theorem dX13_isWord_7 : decode cX13_isWord 7 = .ok (.aload_n 0, 1) := by decide +kernel
theorem dX13_isWord_8 : decode cX13_isWord 8 = .ok (.getfield 481, 3) := by decide +kernel
theorem dX13_isWord_11 : decode cX13_isWord 11 = .ok (.iconst 1, 1) := by decide +kernel
theorem dX13_isWord_12 : decode cX13_isWord 12 = .ok (.if_icmp .ne 23, 3) := by decide +kernel
theorem dX13_isWord_15 : decode cX13_isWord 15 = .ok (.aload_n 1, 1) := by decide +kernel
theorem dX13_isWord_16 : decode cX13_isWord 16 = .ok (.invokevirtual 505, 3) := by decide +kernel
theorem dX13_isWord_19 : decode cX13_isWord 19 = .ok (.aload_n 0, 1) := by decide +kernel
theorem dX13_isWord_20 : decode cX13_isWord 20 = .ok (.getfield 475, 3) := by decide +kernel
theorem dX13_isWord_23 : decode cX13_isWord 23 = .ok (.aload_n 0, 1) := by decide +kernel
theorem dX13_isWord_24 : decode cX13_isWord 24 = .ok (.getfield 478, 3) := by decide +kernel
theorem dX13_isWord_27 : decode cX13_isWord 27 = .ok (.isub, 1) := by decide +kernel
theorem dX13_isWord_28 : decode cX13_isWord 28 = .ok (.if_icmp .ne 7, 3) := by decide +kernel
theorem dX13_isWord_31 : decode cX13_isWord 31 = .ok (.iconst 1, 1) := by decide +kernel
theorem dX13_isWord_32 : decode cX13_isWord 32 = .ok (.goto 4, 3) := by decide +kernel
theorem dX13_isWord_35 : decode cX13_isWord 35 = .ok (.iconst 0, 1) := by decide +kernel
theorem dX13_isWord_36 : decode cX13_isWord 36 = .ok (.istore_n 2, 1) := by decide +kernel
theorem dX13_isWord_37 : decode cX13_isWord 37 = .ok (.iconst 0, 1) := by decide +kernel
theorem dX13_isWord_38 : decode cX13_isWord 38 = .ok (.istore_n 3, 1) := by decide +kernel
theorem dX13_isWord_39 : decode cX13_isWord 39 = .ok (.iload_n 2, 1) := by decide +kernel
theorem dX13_isWord_40 : decode cX13_isWord 40 = .ok (.ifCond .eq 42, 3) := by decide +kernel
theorem dX13_isWord_43 : decode cX13_isWord 43 = .ok (.iload_n 3, 1) := by decide +kernel
theorem dX13_isWord_44 : decode cX13_isWord 44 = .ok (.aload_n 1, 1) := by decide +kernel
theorem dX13_isWord_45 : decode cX13_isWord 45 = .ok (.invokevirtual 505, 3) := by decide +kernel
theorem dX13_isWord_48 : decode cX13_isWord 48 = .ok (.if_icmp .ge 34, 3) := by decide +kernel
theorem dX13_isWord_51 : decode cX13_isWord 51 = .ok (.aload_n 1, 1) := by decide +kernel
theorem dX13_isWord_52 : decode cX13_isWord 52 = .ok (.iload_n 3, 1) := by decide +kernel
theorem dX13_isWord_53 : decode cX13_isWord 53 = .ok (.invokevirtual 508, 3) := by decide +kernel
theorem dX13_isWord_56 : decode cX13_isWord 56 = .ok (.aload_n 0, 1) := by decide +kernel
theorem dX13_isWord_57 : decode cX13_isWord 57 = .ok (.getfield 50, 3) := by decide +kernel
theorem dX13_isWord_60 : decode cX13_isWord 60 = .ok (.aload_n 0, 1) := by decide +kernel
theorem dX13_isWord_61 : decode cX13_isWord 61 = .ok (.getfield 478, 3) := by decide +kernel
theorem dX13_isWord_64 : decode cX13_isWord 64 = .ok (.iload_n 3, 1) := by decide +kernel
theorem dX13_isWord_65 : decode cX13_isWord 65 = .ok (.iadd, 1) := by decide +kernel
theorem dX13_isWord_66 : decode cX13_isWord 66 = .ok (.iaload, 1) := by decide +kernel
theorem dX13_isWord_67 : decode cX13_isWord 67 = .ok (.if_icmp .ne 7, 3) := by decide +kernel
theorem dX13_isWord_70 : decode cX13_isWord 70 = .ok (.iconst 1, 1) := by decide +kernel
theorem dX13_isWord_71 : decode cX13_isWord 71 = .ok (.goto 4, 3) := by decide +kernel
theorem dX13_isWord_74 : decode cX13_isWord 74 = .ok (.iconst 0, 1) := by decide +kernel
theorem dX13_isWord_75 : decode cX13_isWord 75 = .ok (.istore_n 2, 1) := by decide +kernel
theorem dX13_isWord_76 : decode cX13_isWord 76 = .ok (.iinc 3 1, 3) := by decide +kernel
theorem dX13_isWord_79 : decode cX13_isWord 79 = .ok (.goto (-40), 3) := by decide +kernel
theorem dX13_isWord_82 : decode cX13_isWord 82 = .ok (.iload_n 2, 1) := by decide +kernel
theorem dX13_isWord_83 : decode cX13_isWord 83 = .ok (.ireturn, 1) := by decide +kernel
theorem dX13_accept_0 : decode cX13_accept 0 = .ok (.aload_n 0, 1) := by decide +kernel
theorem dX13_accept_1 : decode cX13_accept 1 = .ok (.aload_n 1, 1) := by decide +kernel
theorem dX13_accept_2 : decode cX13_accept 2 = .ok (.invokevirtual 512, 3) := by decide +kernel
theorem dX13_accept_5 : decode cX13_accept 5 = .ok (.istore_n 2, 1) := by decide +kernel
theorem dX13_accept_6 : decode cX13_accept 6 = .ok (.iload_n 2, 1) := by decide +kernel
theorem dX13_accept_7 : decode cX13_accept 7 = .ok (.ifCond .eq 7, 3) := by decide +kernel
theorem dX13_accept_10 : decode cX13_accept 10 = .ok (.aload_n 0, 1) := by decide +kernel
theorem dX13_accept_11 : decode cX13_accept 11 = .ok (.invokevirtual 496, 3) := by decide +kernel
theorem dX13_accept_14 : decode cX13_accept 14 = .ok (.iload_n 2, 1) := by decide +kernel
theorem dX13_accept_15 : decode cX13_accept 15 = .ok (.ireturn, 1) := by decide +kernel
theorem dX13_expectWord_0 : decode cX13_expectWord 0 = .ok (.aload_n 0, 1) := by decide +kernel
theorem dX13_expectWord_1 : decode cX13_expectWord 1 = .ok (.aload_n 0, 1) := by decide +kernel
theorem dX13_expectWord_2 : decode cX13_expectWord 2 = .ok (.aload_n 1, 1) := by decide +kernel
theorem dX13_expectWord_3 : decode cX13_expectWord 3 = .ok (.invokevirtual 512, 3) := by decide +kernel
theorem dX13_expectWord_6 : decode cX13_expectWord 6 = .ok (.iconst 1, 1) := by decide +kernel
theorem dX13_expectWord_7 : decode cX13_expectWord 7 = .ok (.invokevirtual 516, 3) := by decide +kernel
theorem dX13_expectWord_10 : decode cX13_expectWord 10 = .ok (.aload_n 0, 1) := by decide +kernel
theorem dX13_expectWord_11 : decode cX13_expectWord 11 = .ok (.invokevirtual 520, 3) := by decide +kernel
theorem dX13_expectWord_14 : decode cX13_expectWord 14 = .ok (.return_, 1) := by decide +kernel
theorem dX13_expect_0 : decode cX13_expect 0 = .ok (.aload_n 0, 1) := by decide +kernel
theorem dX13_expect_1 : decode cX13_expect 1 = .ok (.aload_n 0, 1) := by decide +kernel
theorem dX13_expect_2 : decode cX13_expect 2 = .ok (.iload_n 1, 1) := by decide +kernel
theorem dX13_expect_3 : decode cX13_expect 3 = .ok (.invokevirtual 523, 3) := by decide +kernel
theorem dX13_expect_6 : decode cX13_expect 6 = .ok (.iconst 1, 1) := by decide +kernel
theorem dX13_expect_7 : decode cX13_expect 7 = .ok (.invokevirtual 516, 3) := by decide +kernel
theorem dX13_expect_10 : decode cX13_expect 10 = .ok (.aload_n 0, 1) := by decide +kernel
theorem dX13_expect_11 : decode cX13_expect 11 = .ok (.invokevirtual 520, 3) := by decide +kernel
theorem dX13_expect_14 : decode cX13_expect 14 = .ok (.return_, 1) := by decide +kernel
theorem dX13_value_0 : decode cX13_value 0 = .ok (.iconst 0, 1) := by decide +kernel
theorem dX13_value_1 : decode cX13_value 1 = .ok (.istore_n 1, 1) := by decide +kernel
theorem dX13_value_2 : decode cX13_value 2 = .ok (.aload_n 0, 1) := by decide +kernel
theorem dX13_value_3 : decode cX13_value 3 = .ok (.getfield 478, 3) := by decide +kernel
theorem dX13_value_6 : decode cX13_value 6 = .ok (.istore_n 2, 1) := by decide +kernel
theorem dX13_value_7 : decode cX13_value 7 = .ok (.iload_n 2, 1) := by decide +kernel
theorem dX13_value_8 : decode cX13_value 8 = .ok (.aload_n 0, 1) := by decide +kernel
theorem dX13_value_9 : decode cX13_value 9 = .ok (.getfield 475, 3) := by decide +kernel
theorem dX13_value_12 : decode cX13_value 12 = .ok (.if_icmp .ge 38, 3) := by decide +kernel
theorem dX13_value_15 : decode cX13_value 15 = .ok (.aload_n 0, 1) := by decide +kernel
theorem dX13_value_16 : decode cX13_value 16 = .ok (.getfield 481, 3) := by decide +kernel
theorem dX13_value_19 : decode cX13_value 19 = .ok (.iconst 2, 1) := by decide +kernel
theorem dX13_value_20 : decode cX13_value 20 = .ok (.if_icmp .ne 30, 3) := by decide +kernel
theorem dX13_value_23 : decode cX13_value 23 = .ok (.ldc_w 430, 3) := by decide +kernel
theorem dX13_value_26 : decode cX13_value 26 = .ok (.bipush 10, 2) := by decide +kernel
theorem dX13_value_28 : decode cX13_value 28 = .ok (.iload_n 1, 1) := by decide +kernel
theorem dX13_value_29 : decode cX13_value 29 = .ok (.imul, 1) := by decide +kernel
theorem dX13_value_30 : decode cX13_value 30 = .ok (.aload_n 0, 1) := by decide +kernel
theorem dX13_value_31 : decode cX13_value 31 = .ok (.getfield 50, 3) := by decide +kernel
theorem dX13_value_34 : decode cX13_value 34 = .ok (.iload_n 2, 1) := by decide +kernel
theorem dX13_value_35 : decode cX13_value 35 = .ok (.iaload, 1) := by decide +kernel
theorem dX13_value_36 : decode cX13_value 36 = .ok (.iadd, 1) := by decide +kernel
theorem dX13_value_37 : decode cX13_value 37 = .ok (.bipush 48, 2) := by decide +kernel
theorem dX13_value_39 : decode cX13_value 39 = .ok (.isub, 1) := by decide +kernel
theorem dX13_value_40 : decode cX13_value 40 = .ok (.invokestatic 387, 3) := by decide +kernel
theorem dX13_value_43 : decode cX13_value 43 = .ok (.istore_n 1, 1) := by decide +kernel
theorem dX13_value_44 : decode cX13_value 44 = .ok (.iinc 2 1, 3) := by decide +kernel
theorem dX13_value_47 : decode cX13_value 47 = .ok (.goto (-40), 3) := by decide +kernel
theorem dX13_value_50 : decode cX13_value 50 = .ok (.iload_n 1, 1) := by decide +kernel
theorem dX13_value_51 : decode cX13_value 51 = .ok (.ireturn, 1) := by decide +kernel
theorem dX13_number_0 : decode cX13_number 0 = .ok (.aload_n 0, 1) := by decide +kernel
theorem dX13_number_1 : decode cX13_number 1 = .ok (.aload_n 0, 1) := by decide +kernel
theorem dX13_number_2 : decode cX13_number 2 = .ok (.getfield 490, 3) := by decide +kernel
theorem dX13_number_5 : decode cX13_number 5 = .ok (.ifCond .ne 11, 3) := by decide +kernel
theorem dX13_number_8 : decode cX13_number 8 = .ok (.aload_n 0, 1) := by decide +kernel
theorem dX13_number_9 : decode cX13_number 9 = .ok (.getfield 481, 3) := by decide +kernel
theorem dX13_number_12 : decode cX13_number 12 = .ok (.iconst 2, 1) := by decide +kernel
theorem dX13_number_13 : decode cX13_number 13 = .ok (.if_icmp .ne 7, 3) := by decide +kernel
theorem dX13_number_16 : decode cX13_number 16 = .ok (.iconst 1, 1) := by decide +kernel
theorem dX13_number_17 : decode cX13_number 17 = .ok (.goto 4, 3) := by decide +kernel
theorem dX13_number_20 : decode cX13_number 20 = .ok (.iconst 0, 1) := by decide +kernel
theorem dX13_number_21 : decode cX13_number 21 = .ok (.iconst 1, 1) := by decide +kernel
theorem dX13_number_22 : decode cX13_number 22 = .ok (.invokevirtual 516, 3) := by decide +kernel
theorem dX13_number_25 : decode cX13_number 25 = .ok (.aload_n 0, 1) := by decide +kernel
theorem dX13_number_26 : decode cX13_number 26 = .ok (.invokevirtual 526, 3) := by decide +kernel
theorem dX13_number_29 : decode cX13_number 29 = .ok (.istore_n 3, 1) := by decide +kernel
theorem dX13_number_30 : decode cX13_number 30 = .ok (.aload_n 0, 1) := by decide +kernel
theorem dX13_number_31 : decode cX13_number 31 = .ok (.aload_n 0, 1) := by decide +kernel
theorem dX13_number_32 : decode cX13_number 32 = .ok (.getfield 490, 3) := by decide +kernel
theorem dX13_number_35 : decode cX13_number 35 = .ok (.ifCond .ne 12, 3) := by decide +kernel
theorem dX13_number_38 : decode cX13_number 38 = .ok (.iload_n 3, 1) := by decide +kernel
theorem dX13_number_39 : decode cX13_number 39 = .ok (.iload_n 1, 1) := by decide +kernel
theorem dX13_number_40 : decode cX13_number 40 = .ok (.iload_n 2, 1) := by decide +kernel
theorem dX13_number_41 : decode cX13_number 41 = .ok (.invokestatic 245, 3) := by decide +kernel
theorem dX13_number_44 : decode cX13_number 44 = .ok (.ifCond .eq 7, 3) := by decide +kernel
theorem dX13_number_47 : decode cX13_number 47 = .ok (.iconst 1, 1) := by decide +kernel
theorem dX13_number_48 : decode cX13_number 48 = .ok (.goto 4, 3) := by decide +kernel
theorem dX13_number_51 : decode cX13_number 51 = .ok (.iconst 0, 1) := by decide +kernel
theorem dX13_number_52 : decode cX13_number 52 = .ok (.iconst 2, 1) := by decide +kernel
theorem dX13_number_53 : decode cX13_number 53 = .ok (.invokevirtual 516, 3) := by decide +kernel
theorem dX13_number_56 : decode cX13_number 56 = .ok (.aload_n 0, 1) := by decide +kernel
theorem dX13_number_57 : decode cX13_number 57 = .ok (.invokevirtual 520, 3) := by decide +kernel
theorem dX13_number_60 : decode cX13_number 60 = .ok (.aload_n 0, 1) := by decide +kernel
theorem dX13_number_61 : decode cX13_number 61 = .ok (.getfield 490, 3) := by decide +kernel
theorem dX13_number_64 : decode cX13_number 64 = .ok (.ifCond .ne 7, 3) := by decide +kernel
theorem dX13_number_67 : decode cX13_number 67 = .ok (.iload_n 3, 1) := by decide +kernel
theorem dX13_number_68 : decode cX13_number 68 = .ok (.goto 4, 3) := by decide +kernel
theorem dX13_number_71 : decode cX13_number 71 = .ok (.iload_n 1, 1) := by decide +kernel
theorem dX13_number_72 : decode cX13_number 72 = .ok (.ireturn, 1) := by decide +kernel
theorem dX13_indexIn_0 : decode cX13_indexIn 0 = .ok (.iconst 0, 1) := by decide +kernel
theorem dX13_indexIn_1 : decode cX13_indexIn 1 = .ok (.istore_n 2, 1) := by decide +kernel
theorem dX13_indexIn_2 : decode cX13_indexIn 2 = .ok (.iload_n 2, 1) := by decide +kernel
theorem dX13_indexIn_3 : decode cX13_indexIn 3 = .ok (.aload_n 1, 1) := by decide +kernel
theorem dX13_indexIn_4 : decode cX13_indexIn 4 = .ok (.arraylength, 1) := by decide +kernel
theorem dX13_indexIn_5 : decode cX13_indexIn 5 = .ok (.if_icmp .ge 21, 3) := by decide +kernel
theorem dX13_indexIn_8 : decode cX13_indexIn 8 = .ok (.aload_n 0, 1) := by decide +kernel
theorem dX13_indexIn_9 : decode cX13_indexIn 9 = .ok (.aload_n 1, 1) := by decide +kernel
theorem dX13_indexIn_10 : decode cX13_indexIn 10 = .ok (.iload_n 2, 1) := by decide +kernel
theorem dX13_indexIn_11 : decode cX13_indexIn 11 = .ok (.aaload, 1) := by decide +kernel
theorem dX13_indexIn_12 : decode cX13_indexIn 12 = .ok (.invokevirtual 512, 3) := by decide +kernel
theorem dX13_indexIn_15 : decode cX13_indexIn 15 = .ok (.ifCond .eq 5, 3) := by decide +kernel
theorem dX13_indexIn_18 : decode cX13_indexIn 18 = .ok (.iload_n 2, 1) := by decide +kernel
theorem dX13_indexIn_19 : decode cX13_indexIn 19 = .ok (.ireturn, 1) := by decide +kernel
theorem dX13_indexIn_20 : decode cX13_indexIn 20 = .ok (.iinc 2 1, 3) := by decide +kernel
theorem dX13_indexIn_23 : decode cX13_indexIn 23 = .ok (.goto (-21), 3) := by decide +kernel
theorem dX13_indexIn_26 : decode cX13_indexIn 26 = .ok (.iconst (-1), 1) := by decide +kernel
theorem dX13_indexIn_27 : decode cX13_indexIn 27 = .ok (.ireturn, 1) := by decide +kernel
theorem dX13_isName_0 : decode cX13_isName 0 = .ok (.aload_n 0, 1) := by decide +kernel
theorem dX13_isName_1 : decode cX13_isName 1 = .ok (.getfield 490, 3) := by decide +kernel
theorem dX13_isName_4 : decode cX13_isName 4 = .ok (.ifCond .ne 63, 3) := by decide +kernel
theorem dX13_isName_7 : decode cX13_isName 7 = .ok (.aload_n 0, 1) := by decide +kernel
theorem dX13_isName_8 : decode cX13_isName 8 = .ok (.getfield 481, 3) := by decide +kernel
theorem dX13_isName_11 : decode cX13_isName 11 = .ok (.iconst 1, 1) := by decide +kernel
theorem dX13_isName_12 : decode cX13_isName 12 = .ok (.if_icmp .ne 55, 3) := by decide +kernel
theorem dX13_isName_15 : decode cX13_isName 15 = .ok (.aload_n 0, 1) := by decide +kernel
theorem dX13_isName_16 : decode cX13_isName 16 = .ok (.aload_n 0, 1) := by decide +kernel
theorem dX13_isName_17 : decode cX13_isName 17 = .ok (.getfield 85, 3) := by decide +kernel
theorem dX13_isName_20 : decode cX13_isName 20 = .ok (.invokevirtual 529, 3) := by decide +kernel
theorem dX13_isName_23 : decode cX13_isName 23 = .ok (.iconst (-1), 1) := by decide +kernel
theorem dX13_isName_24 : decode cX13_isName 24 = .ok (.if_icmp .ne 43, 3) := by decide +kernel
theorem dX13_isName_27 : decode cX13_isName 27 = .ok (.aload_n 0, 1) := by decide +kernel
theorem dX13_isName_28 : decode cX13_isName 28 = .ok (.aload_n 0, 1) := by decide +kernel
theorem dX13_isName_29 : decode cX13_isName 29 = .ok (.getfield 105, 3) := by decide +kernel
theorem dX13_isName_32 : decode cX13_isName 32 = .ok (.invokevirtual 529, 3) := by decide +kernel
theorem dX13_isName_35 : decode cX13_isName 35 = .ok (.iconst (-1), 1) := by decide +kernel
theorem dX13_isName_36 : decode cX13_isName 36 = .ok (.if_icmp .ne 31, 3) := by decide +kernel
theorem dX13_isName_39 : decode cX13_isName 39 = .ok (.aload_n 0, 1) := by decide +kernel
theorem dX13_isName_40 : decode cX13_isName 40 = .ok (.aload_n 0, 1) := by decide +kernel
theorem dX13_isName_41 : decode cX13_isName 41 = .ok (.getfield 126, 3) := by decide +kernel
theorem dX13_isName_44 : decode cX13_isName 44 = .ok (.invokevirtual 529, 3) := by decide +kernel
theorem dX13_isName_47 : decode cX13_isName 47 = .ok (.iconst (-1), 1) := by decide +kernel
theorem dX13_isName_48 : decode cX13_isName 48 = .ok (.if_icmp .ne 19, 3) := by decide +kernel
theorem dX13_isName_51 : decode cX13_isName 51 = .ok (.aload_n 0, 1) := by decide +kernel
theorem dX13_isName_52 : decode cX13_isName 52 = .ok (.aload_n 0, 1) := by decide +kernel
theorem dX13_isName_53 : decode cX13_isName 53 = .ok (.getfield 195, 3) := by decide +kernel
theorem dX13_isName_56 : decode cX13_isName 56 = .ok (.invokevirtual 529, 3) := by decide +kernel
theorem dX13_isName_59 : decode cX13_isName 59 = .ok (.iconst (-1), 1) := by decide +kernel
theorem dX13_isName_60 : decode cX13_isName 60 = .ok (.if_icmp .ne 7, 3) := by decide +kernel
theorem dX13_isName_63 : decode cX13_isName 63 = .ok (.iconst 1, 1) := by decide +kernel
theorem dX13_isName_64 : decode cX13_isName 64 = .ok (.goto 4, 3) := by decide +kernel
theorem dX13_isName_67 : decode cX13_isName 67 = .ok (.iconst 0, 1) := by decide +kernel
theorem dX13_isName_68 : decode cX13_isName 68 = .ok (.ireturn, 1) := by decide +kernel
theorem dX13_isSame_0 : decode cX13_isSame 0 = .ok (.iconst 0, 1) := by decide +kernel
theorem dX13_isSame_1 : decode cX13_isSame 1 = .ok (.istore 4, 2) := by decide +kernel
theorem dX13_isSame_3 : decode cX13_isSame 3 = .ok (.iload 4, 2) := by decide +kernel
theorem dX13_isSame_5 : decode cX13_isSame 5 = .ok (.iload_n 3, 1) := by decide +kernel
theorem dX13_isSame_6 : decode cX13_isSame 6 = .ok (.if_icmp .ge 32, 3) := by decide +kernel
theorem dX13_isSame_9 : decode cX13_isSame 9 = .ok (.aload_n 0, 1) := by decide +kernel
theorem dX13_isSame_10 : decode cX13_isSame 10 = .ok (.getfield 50, 3) := by decide +kernel
theorem dX13_isSame_13 : decode cX13_isSame 13 = .ok (.iload_n 1, 1) := by decide +kernel
theorem dX13_isSame_14 : decode cX13_isSame 14 = .ok (.iload 4, 2) := by decide +kernel
theorem dX13_isSame_16 : decode cX13_isSame 16 = .ok (.iadd, 1) := by decide +kernel
theorem dX13_isSame_17 : decode cX13_isSame 17 = .ok (.iaload, 1) := by decide +kernel
theorem dX13_isSame_18 : decode cX13_isSame 18 = .ok (.aload_n 0, 1) := by decide +kernel
theorem dX13_isSame_19 : decode cX13_isSame 19 = .ok (.getfield 50, 3) := by decide +kernel
theorem dX13_isSame_22 : decode cX13_isSame 22 = .ok (.iload_n 2, 1) := by decide +kernel
theorem dX13_isSame_23 : decode cX13_isSame 23 = .ok (.iload 4, 2) := by decide +kernel
theorem dX13_isSame_25 : decode cX13_isSame 25 = .ok (.iadd, 1) := by decide +kernel
theorem dX13_isSame_26 : decode cX13_isSame 26 = .ok (.iaload, 1) := by decide +kernel
theorem dX13_isSame_27 : decode cX13_isSame 27 = .ok (.if_icmp .eq 5, 3) := by decide +kernel
theorem dX13_isSame_30 : decode cX13_isSame 30 = .ok (.iconst 0, 1) := by decide +kernel
theorem dX13_isSame_31 : decode cX13_isSame 31 = .ok (.ireturn, 1) := by decide +kernel
theorem dX13_isSame_32 : decode cX13_isSame 32 = .ok (.iinc 4 1, 3) := by decide +kernel
theorem dX13_isSame_35 : decode cX13_isSame 35 = .ok (.goto (-32), 3) := by decide +kernel
theorem dX13_isSame_38 : decode cX13_isSame 38 = .ok (.iconst 1, 1) := by decide +kernel
theorem dX13_isSame_39 : decode cX13_isSame 39 = .ok (.ireturn, 1) := by decide +kernel
theorem dX13_labelled_0 : decode cX13_labelled 0 = .ok (.iconst 0, 1) := by decide +kernel
theorem dX13_labelled_1 : decode cX13_labelled 1 = .ok (.istore 4, 2) := by decide +kernel
theorem dX13_labelled_3 : decode cX13_labelled 3 = .ok (.iload 4, 2) := by decide +kernel
theorem dX13_labelled_5 : decode cX13_labelled 5 = .ok (.iload_n 3, 1) := by decide +kernel
theorem dX13_labelled_6 : decode cX13_labelled 6 = .ok (.if_icmp .ge 39, 3) := by decide +kernel
theorem dX13_labelled_9 : decode cX13_labelled 9 = .ok (.aload_n 0, 1) := by decide +kernel
theorem dX13_labelled_10 : decode cX13_labelled 10 = .ok (.getfield 201, 3) := by decide +kernel
theorem dX13_labelled_13 : decode cX13_labelled 13 = .ok (.iload 4, 2) := by decide +kernel
theorem dX13_labelled_15 : decode cX13_labelled 15 = .ok (.iaload, 1) := by decide +kernel
theorem dX13_labelled_16 : decode cX13_labelled 16 = .ok (.iload_n 2, 1) := by decide +kernel
theorem dX13_labelled_17 : decode cX13_labelled 17 = .ok (.if_icmp .ne 22, 3) := by decide +kernel
theorem dX13_labelled_20 : decode cX13_labelled 20 = .ok (.aload_n 0, 1) := by decide +kernel
theorem dX13_labelled_21 : decode cX13_labelled 21 = .ok (.iload_n 1, 1) := by decide +kernel
theorem dX13_labelled_22 : decode cX13_labelled 22 = .ok (.aload_n 0, 1) := by decide +kernel
theorem dX13_labelled_23 : decode cX13_labelled 23 = .ok (.getfield 198, 3) := by decide +kernel
theorem dX13_labelled_26 : decode cX13_labelled 26 = .ok (.iload 4, 2) := by decide +kernel
theorem dX13_labelled_28 : decode cX13_labelled 28 = .ok (.iaload, 1) := by decide +kernel
theorem dX13_labelled_29 : decode cX13_labelled 29 = .ok (.iload_n 2, 1) := by decide +kernel
theorem dX13_labelled_30 : decode cX13_labelled 30 = .ok (.invokevirtual 533, 3) := by decide +kernel
theorem dX13_labelled_33 : decode cX13_labelled 33 = .ok (.ifCond .eq 6, 3) := by decide +kernel
theorem dX13_labelled_36 : decode cX13_labelled 36 = .ok (.iload 4, 2) := by decide +kernel
theorem dX13_labelled_38 : decode cX13_labelled 38 = .ok (.ireturn, 1) := by decide +kernel
theorem dX13_labelled_39 : decode cX13_labelled 39 = .ok (.iinc 4 1, 3) := by decide +kernel
theorem dX13_labelled_42 : decode cX13_labelled 42 = .ok (.goto (-39), 3) := by decide +kernel
theorem dX13_labelled_45 : decode cX13_labelled 45 = .ok (.iconst (-1), 1) := by decide +kernel
theorem dX13_labelled_46 : decode cX13_labelled 46 = .ok (.ireturn, 1) := by decide +kernel
theorem dX13_readName_0 : decode cX13_readName 0 = .ok (.aload_n 0, 1) := by decide +kernel
theorem dX13_readName_1 : decode cX13_readName 1 = .ok (.aload_n 0, 1) := by decide +kernel
theorem dX13_readName_2 : decode cX13_readName 2 = .ok (.getfield 490, 3) := by decide +kernel
theorem dX13_readName_5 : decode cX13_readName 5 = .ok (.ifCond .ne 10, 3) := by decide +kernel
theorem dX13_readName_8 : decode cX13_readName 8 = .ok (.aload_n 0, 1) := by decide +kernel
theorem dX13_readName_9 : decode cX13_readName 9 = .ok (.invokevirtual 536, 3) := by decide +kernel
theorem dX13_readName_12 : decode cX13_readName 12 = .ok (.ifCond .eq 7, 3) := by decide +kernel
theorem dX13_readName_15 : decode cX13_readName 15 = .ok (.iconst 1, 1) := by decide +kernel
theorem dX13_readName_16 : decode cX13_readName 16 = .ok (.goto 4, 3) := by decide +kernel
theorem dX13_readName_19 : decode cX13_readName 19 = .ok (.iconst 0, 1) := by decide +kernel
theorem dX13_readName_20 : decode cX13_readName 20 = .ok (.iconst 1, 1) := by decide +kernel
theorem dX13_readName_21 : decode cX13_readName 21 = .ok (.invokevirtual 516, 3) := by decide +kernel
theorem dX13_readName_24 : decode cX13_readName 24 = .ok (.aload_n 0, 1) := by decide +kernel
theorem dX13_readName_25 : decode cX13_readName 25 = .ok (.getfield 490, 3) := by decide +kernel
theorem dX13_readName_28 : decode cX13_readName 28 = .ok (.ifCond .ne 54, 3) := by decide +kernel
theorem dX13_readName_31 : decode cX13_readName 31 = .ok (.aload_n 0, 1) := by decide +kernel
theorem dX13_readName_32 : decode cX13_readName 32 = .ok (.getfield 204, 3) := by decide +kernel
theorem dX13_readName_35 : decode cX13_readName 35 = .ok (.aload_n 0, 1) := by decide +kernel
theorem dX13_readName_36 : decode cX13_readName 36 = .ok (.getfield 540, 3) := by decide +kernel
theorem dX13_readName_39 : decode cX13_readName 39 = .ok (.aload_n 0, 1) := by decide +kernel
theorem dX13_readName_40 : decode cX13_readName 40 = .ok (.getfield 478, 3) := by decide +kernel
theorem dX13_readName_43 : decode cX13_readName 43 = .ok (.iastore, 1) := by decide +kernel
theorem dX13_readName_44 : decode cX13_readName 44 = .ok (.aload_n 0, 1) := by decide +kernel
theorem dX13_readName_45 : decode cX13_readName 45 = .ok (.getfield 207, 3) := by decide +kernel
theorem dX13_readName_48 : decode cX13_readName 48 = .ok (.aload_n 0, 1) := by decide +kernel
theorem dX13_readName_49 : decode cX13_readName 49 = .ok (.getfield 540, 3) := by decide +kernel
theorem dX13_readName_52 : decode cX13_readName 52 = .ok (.aload_n 0, 1) := by decide +kernel
theorem dX13_readName_53 : decode cX13_readName 53 = .ok (.getfield 475, 3) := by decide +kernel
theorem dX13_readName_56 : decode cX13_readName 56 = .ok (.aload_n 0, 1) := by decide +kernel
theorem dX13_readName_57 : decode cX13_readName 57 = .ok (.getfield 478, 3) := by decide +kernel
theorem dX13_readName_60 : decode cX13_readName 60 = .ok (.isub, 1) := by decide +kernel
theorem dX13_readName_61 : decode cX13_readName 61 = .ok (.iastore, 1) := by decide +kernel
theorem dX13_readName_62 : decode cX13_readName 62 = .ok (.aload_n 0, 1) := by decide +kernel
theorem dX13_readName_63 : decode cX13_readName 63 = .ok (.getfield 210, 3) := by decide +kernel
theorem dX13_readName_66 : decode cX13_readName 66 = .ok (.aload_n 0, 1) := by decide +kernel
theorem dX13_readName_67 : decode cX13_readName 67 = .ok (.getfield 540, 3) := by decide +kernel
theorem dX13_readName_70 : decode cX13_readName 70 = .ok (.iload_n 1, 1) := by decide +kernel
theorem dX13_readName_71 : decode cX13_readName 71 = .ok (.iastore, 1) := by decide +kernel
theorem dX13_readName_72 : decode cX13_readName 72 = .ok (.aload_n 0, 1) := by decide +kernel
theorem dX13_readName_73 : decode cX13_readName 73 = .ok (.dup, 1) := by decide +kernel
theorem dX13_readName_74 : decode cX13_readName 74 = .ok (.getfield 540, 3) := by decide +kernel
theorem dX13_readName_77 : decode cX13_readName 77 = .ok (.iconst 1, 1) := by decide +kernel
theorem dX13_readName_78 : decode cX13_readName 78 = .ok (.iadd, 1) := by decide +kernel
theorem dX13_readName_79 : decode cX13_readName 79 = .ok (.putfield 540, 3) := by decide +kernel
theorem dX13_readName_82 : decode cX13_readName 82 = .ok (.aload_n 0, 1) := by decide +kernel
theorem dX13_readName_83 : decode cX13_readName 83 = .ok (.invokevirtual 520, 3) := by decide +kernel
theorem dX13_readName_86 : decode cX13_readName 86 = .ok (.return_, 1) := by decide +kernel
theorem dX13_layNames_0 : decode cX13_layNames 0 = .ok (.iconst 0, 1) := by decide +kernel
theorem dX13_layNames_1 : decode cX13_layNames 1 = .ok (.istore_n 1, 1) := by decide +kernel
theorem dX13_layNames_2 : decode cX13_layNames 2 = .ok (.iload_n 1, 1) := by decide +kernel
theorem dX13_layNames_3 : decode cX13_layNames 3 = .ok (.aload_n 0, 1) := by decide +kernel
theorem dX13_layNames_4 : decode cX13_layNames 4 = .ok (.getfield 540, 3) := by decide +kernel
theorem dX13_layNames_7 : decode cX13_layNames 7 = .ok (.if_icmp .ge 74, 3) := by decide +kernel
theorem dX13_layNames_10 : decode cX13_layNames 10 = .ok (.aload_n 0, 1) := by decide +kernel
theorem dX13_layNames_11 : decode cX13_layNames 11 = .ok (.getfield 490, 3) := by decide +kernel
theorem dX13_layNames_14 : decode cX13_layNames 14 = .ok (.ifCond .ne 67, 3) := by decide +kernel
theorem dX13_layNames_17 : decode cX13_layNames 17 = .ok (.aload_n 0, 1) := by decide +kernel
theorem dX13_layNames_18 : decode cX13_layNames 18 = .ok (.aload_n 0, 1) := by decide +kernel
theorem dX13_layNames_19 : decode cX13_layNames 19 = .ok (.getfield 204, 3) := by decide +kernel
theorem dX13_layNames_22 : decode cX13_layNames 22 = .ok (.iload_n 1, 1) := by decide +kernel
theorem dX13_layNames_23 : decode cX13_layNames 23 = .ok (.iaload, 1) := by decide +kernel
theorem dX13_layNames_24 : decode cX13_layNames 24 = .ok (.aload_n 0, 1) := by decide +kernel
theorem dX13_layNames_25 : decode cX13_layNames 25 = .ok (.getfield 207, 3) := by decide +kernel
theorem dX13_layNames_28 : decode cX13_layNames 28 = .ok (.iload_n 1, 1) := by decide +kernel
theorem dX13_layNames_29 : decode cX13_layNames 29 = .ok (.iaload, 1) := by decide +kernel
theorem dX13_layNames_30 : decode cX13_layNames 30 = .ok (.aload_n 0, 1) := by decide +kernel
theorem dX13_layNames_31 : decode cX13_layNames 31 = .ok (.getfield 13, 3) := by decide +kernel
theorem dX13_layNames_34 : decode cX13_layNames 34 = .ok (.iconst 0, 1) := by decide +kernel
theorem dX13_layNames_35 : decode cX13_layNames 35 = .ok (.iaload, 1) := by decide +kernel
theorem dX13_layNames_36 : decode cX13_layNames 36 = .ok (.invokevirtual 543, 3) := by decide +kernel
theorem dX13_layNames_39 : decode cX13_layNames 39 = .ok (.istore_n 2, 1) := by decide +kernel
theorem dX13_layNames_40 : decode cX13_layNames 40 = .ok (.iload_n 2, 1) := by decide +kernel
theorem dX13_layNames_41 : decode cX13_layNames 41 = .ok (.iconst (-1), 1) := by decide +kernel
theorem dX13_layNames_42 : decode cX13_layNames 42 = .ok (.if_icmp .ne 21, 3) := by decide +kernel
theorem dX13_layNames_45 : decode cX13_layNames 45 = .ok (.aload_n 0, 1) := by decide +kernel
theorem dX13_layNames_46 : decode cX13_layNames 46 = .ok (.iconst 5, 1) := by decide +kernel
theorem dX13_layNames_47 : decode cX13_layNames 47 = .ok (.putfield 490, 3) := by decide +kernel
theorem dX13_layNames_50 : decode cX13_layNames 50 = .ok (.aload_n 0, 1) := by decide +kernel
theorem dX13_layNames_51 : decode cX13_layNames 51 = .ok (.aload_n 0, 1) := by decide +kernel
theorem dX13_layNames_52 : decode cX13_layNames 52 = .ok (.getfield 204, 3) := by decide +kernel
theorem dX13_layNames_55 : decode cX13_layNames 55 = .ok (.iload_n 1, 1) := by decide +kernel
theorem dX13_layNames_56 : decode cX13_layNames 56 = .ok (.iaload, 1) := by decide +kernel
theorem dX13_layNames_57 : decode cX13_layNames 57 = .ok (.putfield 499, 3) := by decide +kernel
theorem dX13_layNames_60 : decode cX13_layNames 60 = .ok (.goto 15, 3) := by decide +kernel
theorem dX13_layNames_63 : decode cX13_layNames 63 = .ok (.aload_n 0, 1) := by decide +kernel
theorem dX13_layNames_64 : decode cX13_layNames 64 = .ok (.getfield 13, 3) := by decide +kernel
theorem dX13_layNames_67 : decode cX13_layNames 67 = .ok (.aload_n 0, 1) := by decide +kernel
theorem dX13_layNames_68 : decode cX13_layNames 68 = .ok (.getfield 210, 3) := by decide +kernel
theorem dX13_layNames_71 : decode cX13_layNames 71 = .ok (.iload_n 1, 1) := by decide +kernel
theorem dX13_layNames_72 : decode cX13_layNames 72 = .ok (.iaload, 1) := by decide +kernel
theorem dX13_layNames_73 : decode cX13_layNames 73 = .ok (.iload_n 2, 1) := by decide +kernel
theorem dX13_layNames_74 : decode cX13_layNames 74 = .ok (.iastore, 1) := by decide +kernel
theorem dX13_layNames_75 : decode cX13_layNames 75 = .ok (.iinc 1 1, 3) := by decide +kernel
theorem dX13_layNames_78 : decode cX13_layNames 78 = .ok (.goto (-76), 3) := by decide +kernel
theorem dX13_layNames_81 : decode cX13_layNames 81 = .ok (.return_, 1) := by decide +kernel
theorem dX13_putNumber_0 : decode cX13_putNumber 0 = .ok (.aload_n 0, 1) := by decide +kernel
theorem dX13_putNumber_1 : decode cX13_putNumber 1 = .ok (.iload_n 2, 1) := by decide +kernel
theorem dX13_putNumber_2 : decode cX13_putNumber 2 = .ok (.iload_n 3, 1) := by decide +kernel
theorem dX13_putNumber_3 : decode cX13_putNumber 3 = .ok (.invokevirtual 546, 3) := by decide +kernel
theorem dX13_putNumber_6 : decode cX13_putNumber 6 = .ok (.istore 4, 2) := by decide +kernel
theorem dX13_putNumber_8 : decode cX13_putNumber 8 = .ok (.aload_n 0, 1) := by decide +kernel
theorem dX13_putNumber_9 : decode cX13_putNumber 9 = .ok (.getfield 490, 3) := by decide +kernel
theorem dX13_putNumber_12 : decode cX13_putNumber 12 = .ok (.ifCond .ne 11, 3) := by decide +kernel
theorem dX13_putNumber_15 : decode cX13_putNumber 15 = .ok (.aload_n 0, 1) := by decide +kernel
theorem dX13_putNumber_16 : decode cX13_putNumber 16 = .ok (.getfield 13, 3) := by decide +kernel
theorem dX13_putNumber_19 : decode cX13_putNumber 19 = .ok (.iload_n 1, 1) := by decide +kernel
theorem dX13_putNumber_20 : decode cX13_putNumber 20 = .ok (.iload 4, 2) := by decide +kernel
theorem dX13_putNumber_22 : decode cX13_putNumber 22 = .ok (.iastore, 1) := by decide +kernel
theorem dX13_putNumber_23 : decode cX13_putNumber 23 = .ok (.return_, 1) := by decide +kernel
theorem dX13_readGroup_0 : decode cX13_readGroup 0 = .ok (.aload_n 0, 1) := by decide +kernel
theorem dX13_readGroup_1 : decode cX13_readGroup 1 = .ok (.invokevirtual 496, 3) := by decide +kernel
theorem dX13_readGroup_4 : decode cX13_readGroup 4 = .ok (.aload_n 0, 1) := by decide +kernel
theorem dX13_readGroup_5 : decode cX13_readGroup 5 = .ok (.iload_n 1, 1) := by decide +kernel
theorem dX13_readGroup_6 : decode cX13_readGroup 6 = .ok (.iconst 0, 1) := by decide +kernel
theorem dX13_readGroup_7 : decode cX13_readGroup 7 = .ok (.bipush 15, 2) := by decide +kernel
theorem dX13_readGroup_9 : decode cX13_readGroup 9 = .ok (.invokevirtual 549, 3) := by decide +kernel
theorem dX13_readGroup_12 : decode cX13_readGroup 12 = .ok (.aload_n 0, 1) := by decide +kernel
theorem dX13_readGroup_13 : decode cX13_readGroup 13 = .ok (.iload_n 1, 1) := by decide +kernel
theorem dX13_readGroup_14 : decode cX13_readGroup 14 = .ok (.iconst 1, 1) := by decide +kernel
theorem dX13_readGroup_15 : decode cX13_readGroup 15 = .ok (.iadd, 1) := by decide +kernel
theorem dX13_readGroup_16 : decode cX13_readGroup 16 = .ok (.iconst 1, 1) := by decide +kernel
theorem dX13_readGroup_17 : decode cX13_readGroup 17 = .ok (.iload_n 2, 1) := by decide +kernel
theorem dX13_readGroup_18 : decode cX13_readGroup 18 = .ok (.invokevirtual 549, 3) := by decide +kernel
theorem dX13_readGroup_21 : decode cX13_readGroup 21 = .ok (.return_, 1) := by decide +kernel
theorem dX13_readLimit_0 : decode cX13_readLimit 0 = .ok (.aload_n 0, 1) := by decide +kernel
theorem dX13_readLimit_1 : decode cX13_readLimit 1 = .ok (.invokevirtual 496, 3) := by decide +kernel
theorem dX13_readLimit_4 : decode cX13_readLimit 4 = .ok (.aload_n 0, 1) := by decide +kernel
theorem dX13_readLimit_5 : decode cX13_readLimit 5 = .ok (.iload_n 1, 1) := by decide +kernel
theorem dX13_readLimit_6 : decode cX13_readLimit 6 = .ok (.iconst 1, 1) := by decide +kernel
theorem dX13_readLimit_7 : decode cX13_readLimit 7 = .ok (.bipush 32, 2) := by decide +kernel
theorem dX13_readLimit_9 : decode cX13_readLimit 9 = .ok (.invokevirtual 549, 3) := by decide +kernel
theorem dX13_readLimit_12 : decode cX13_readLimit 12 = .ok (.aload_n 0, 1) := by decide +kernel
theorem dX13_readLimit_13 : decode cX13_readLimit 13 = .ok (.getfield 13, 3) := by decide +kernel
theorem dX13_readLimit_16 : decode cX13_readLimit 16 = .ok (.iload_n 1, 1) := by decide +kernel
theorem dX13_readLimit_17 : decode cX13_readLimit 17 = .ok (.iconst 1, 1) := by decide +kernel
theorem dX13_readLimit_18 : decode cX13_readLimit 18 = .ok (.iadd, 1) := by decide +kernel
theorem dX13_readLimit_19 : decode cX13_readLimit 19 = .ok (.iconst 1, 1) := by decide +kernel
theorem dX13_readLimit_20 : decode cX13_readLimit 20 = .ok (.iastore, 1) := by decide +kernel
theorem dX13_readLimit_21 : decode cX13_readLimit 21 = .ok (.return_, 1) := by decide +kernel
theorem dX13_join_0 : decode cX13_join 0 = .ok (.aload_n 0, 1) := by decide +kernel
theorem dX13_join_1 : decode cX13_join 1 = .ok (.invokevirtual 496, 3) := by decide +kernel
theorem dX13_join_4 : decode cX13_join 4 = .ok (.aload_n 0, 1) := by decide +kernel
theorem dX13_join_5 : decode cX13_join 5 = .ok (.getfield 13, 3) := by decide +kernel
theorem dX13_join_8 : decode cX13_join 8 = .ok (.iload_n 1, 1) := by decide +kernel
theorem dX13_join_9 : decode cX13_join 9 = .ok (.bipush 19, 2) := by decide +kernel
theorem dX13_join_11 : decode cX13_join 11 = .ok (.iadd, 1) := by decide +kernel
theorem dX13_join_12 : decode cX13_join 12 = .ok (.iload_n 2, 1) := by decide +kernel
theorem dX13_join_13 : decode cX13_join 13 = .ok (.iastore, 1) := by decide +kernel
theorem dX13_join_14 : decode cX13_join 14 = .ok (.aload_n 0, 1) := by decide +kernel
theorem dX13_join_15 : decode cX13_join 15 = .ok (.getfield 13, 3) := by decide +kernel
theorem dX13_join_18 : decode cX13_join 18 = .ok (.iload_n 1, 1) := by decide +kernel
theorem dX13_join_19 : decode cX13_join 19 = .ok (.bipush 20, 2) := by decide +kernel
theorem dX13_join_21 : decode cX13_join 21 = .ok (.iadd, 1) := by decide +kernel
theorem dX13_join_22 : decode cX13_join 22 = .ok (.bipush 8, 2) := by decide +kernel
theorem dX13_join_24 : decode cX13_join 24 = .ok (.iload_n 2, 1) := by decide +kernel
theorem dX13_join_25 : decode cX13_join 25 = .ok (.isub, 1) := by decide +kernel
theorem dX13_join_26 : decode cX13_join 26 = .ok (.iastore, 1) := by decide +kernel
theorem dX13_join_27 : decode cX13_join 27 = .ok (.return_, 1) := by decide +kernel
theorem dX13_readClock_0 : decode cX13_readClock 0 = .ok (.aload_n 0, 1) := by decide +kernel
theorem dX13_readClock_1 : decode cX13_readClock 1 = .ok (.iconst 1, 1) := by decide +kernel
theorem dX13_readClock_2 : decode cX13_readClock 2 = .ok (.sipush 255, 3) := by decide +kernel
theorem dX13_readClock_5 : decode cX13_readClock 5 = .ok (.invokevirtual 546, 3) := by decide +kernel
theorem dX13_readClock_8 : decode cX13_readClock 8 = .ok (.istore_n 2, 1) := by decide +kernel
theorem dX13_readClock_9 : decode cX13_readClock 9 = .ok (.aload_n 0, 1) := by decide +kernel
theorem dX13_readClock_10 : decode cX13_readClock 10 = .ok (.iconst 0, 1) := by decide +kernel
theorem dX13_readClock_11 : decode cX13_readClock 11 = .ok (.sipush 255, 3) := by decide +kernel
theorem dX13_readClock_14 : decode cX13_readClock 14 = .ok (.invokevirtual 546, 3) := by decide +kernel
