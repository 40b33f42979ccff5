theorem dX9_placeOf_4 : decode cX9_placeOf 4 = .ok (.getstatic 323, 3) := by decide +kernel
theorem dX9_placeOf_7 : decode cX9_placeOf 7 = .ok (.if_acmp .ne 11, 3) := by decide +kernel
theorem dX9_placeOf_10 : decode cX9_placeOf 10 = .ok (.aload_n 1, 1) := by decide +kernel
theorem dX9_placeOf_11 : decode cX9_placeOf 11 = .ok (.getfield 195, 3) := by decide +kernel
theorem dX9_placeOf_14 : decode cX9_placeOf 14 = .ok (.bipush 15, 2) := by decide +kernel
theorem dX9_placeOf_16 : decode cX9_placeOf 16 = .ok (.iand, 1) := by decide +kernel
theorem dX9_placeOf_17 : decode cX9_placeOf 17 = .ok (.ireturn, 1) := by decide +kernel
theorem dX9_placeOf_18 : decode cX9_placeOf 18 = .ok (.aload_n 0, 1) := by decide +kernel
theorem dX9_placeOf_19 : decode cX9_placeOf 19 = .ok (.getfield 282, 3) := by decide +kernel
theorem dX9_placeOf_22 : decode cX9_placeOf 22 = .ok (.getstatic 326, 3) := by decide +kernel
theorem dX9_placeOf_25 : decode cX9_placeOf 25 = .ok (.if_acmp .ne 11, 3) := by decide +kernel
theorem dX9_placeOf_28 : decode cX9_placeOf 28 = .ok (.aload_n 1, 1) := by decide +kernel
theorem dX9_placeOf_29 : decode cX9_placeOf 29 = .ok (.getfield 198, 3) := by decide +kernel
theorem dX9_placeOf_32 : decode cX9_placeOf 32 = .ok (.bipush 15, 2) := by decide +kernel
theorem dX9_placeOf_34 : decode cX9_placeOf 34 = .ok (.iand, 1) := by decide +kernel
theorem dX9_placeOf_35 : decode cX9_placeOf 35 = .ok (.ireturn, 1) := by decide +kernel
theorem dX9_placeOf_36 : decode cX9_placeOf 36 = .ok (.aload_n 0, 1) := by decide +kernel
theorem dX9_placeOf_37 : decode cX9_placeOf 37 = .ok (.getfield 161, 3) := by decide +kernel
theorem dX9_placeOf_40 : decode cX9_placeOf 40 = .ok (.bipush 15, 2) := by decide +kernel
theorem dX9_placeOf_42 : decode cX9_placeOf 42 = .ok (.iand, 1) := by decide +kernel
theorem dX9_placeOf_43 : decode cX9_placeOf 43 = .ok (.ireturn, 1) := by decide +kernel
theorem dX9_storedWord_0 : decode cX9_storedWord 0 = .ok (.aload_n 0, 1) := by decide +kernel
theorem dX9_storedWord_1 : decode cX9_storedWord 1 = .ok (.getstatic 323, 3) := by decide +kernel
theorem dX9_storedWord_4 : decode cX9_storedWord 4 = .ok (.if_acmp .ne 8, 3) := by decide +kernel
theorem dX9_storedWord_7 : decode cX9_storedWord 7 = .ok (.aload_n 1, 1) := by decide +kernel
theorem dX9_storedWord_8 : decode cX9_storedWord 8 = .ok (.getfield 195, 3) := by decide +kernel
theorem dX9_storedWord_11 : decode cX9_storedWord 11 = .ok (.ireturn, 1) := by decide +kernel
theorem dX9_storedWord_12 : decode cX9_storedWord 12 = .ok (.aload_n 0, 1) := by decide +kernel
theorem dX9_storedWord_13 : decode cX9_storedWord 13 = .ok (.getstatic 326, 3) := by decide +kernel
theorem dX9_storedWord_16 : decode cX9_storedWord 16 = .ok (.if_acmp .ne 10, 3) := by decide +kernel
theorem dX9_storedWord_19 : decode cX9_storedWord 19 = .ok (.aload_n 1, 1) := by decide +kernel
theorem dX9_storedWord_20 : decode cX9_storedWord 20 = .ok (.getfield 198, 3) := by decide +kernel
theorem dX9_storedWord_23 : decode cX9_storedWord 23 = .ok (.goto 7, 3) := by decide +kernel
theorem dX9_storedWord_26 : decode cX9_storedWord 26 = .ok (.aload_n 1, 1) := by decide +kernel
theorem dX9_storedWord_27 : decode cX9_storedWord 27 = .ok (.getfield 252, 3) := by decide +kernel
theorem dX9_storedWord_30 : decode cX9_storedWord 30 = .ok (.ireturn, 1) := by decide +kernel
theorem dX9_moved_0 : decode cX9_moved 0 = .ok (.aload_n 0, 1) := by decide +kernel
theorem dX9_moved_1 : decode cX9_moved 1 = .ok (.aload_n 1, 1) := by decide +kernel
theorem dX9_moved_2 : decode cX9_moved 2 = .ok (.getfield 282, 3) := by decide +kernel
theorem dX9_moved_5 : decode cX9_moved 5 = .ok (.aload_n 2, 1) := by decide +kernel
theorem dX9_moved_6 : decode cX9_moved 6 = .ok (.aload_n 3, 1) := by decide +kernel
theorem dX9_moved_7 : decode cX9_moved 7 = .ok (.invokevirtual 219, 3) := by decide +kernel
theorem dX9_moved_10 : decode cX9_moved 10 = .ok (.istore 4, 2) := by decide +kernel
theorem dX9_moved_12 : decode cX9_moved 12 = .ok (.aload_n 1, 1) := by decide +kernel
theorem dX9_moved_13 : decode cX9_moved 13 = .ok (.getfield 329, 3) := by decide +kernel
theorem dX9_moved_16 : decode cX9_moved 16 = .ok (.getstatic 332, 3) := by decide +kernel
theorem dX9_moved_19 : decode cX9_moved 19 = .ok (.if_acmp .ne 8, 3) := by decide +kernel
theorem dX9_moved_22 : decode cX9_moved 22 = .ok (.iload 4, 2) := by decide +kernel
theorem dX9_moved_24 : decode cX9_moved 24 = .ok (.iconst (-1), 1) := by decide +kernel
theorem dX9_moved_25 : decode cX9_moved 25 = .ok (.ixor, 1) := by decide +kernel
theorem dX9_moved_26 : decode cX9_moved 26 = .ok (.ireturn, 1) := by decide +kernel
theorem dX9_moved_27 : decode cX9_moved 27 = .ok (.aload_n 1, 1) := by decide +kernel
theorem dX9_moved_28 : decode cX9_moved 28 = .ok (.getfield 329, 3) := by decide +kernel
theorem dX9_moved_31 : decode cX9_moved 31 = .ok (.getstatic 335, 3) := by decide +kernel
theorem dX9_moved_34 : decode cX9_moved 34 = .ok (.if_acmp .ne 11, 3) := by decide +kernel
theorem dX9_moved_37 : decode cX9_moved 37 = .ok (.iload 4, 2) := by decide +kernel
theorem dX9_moved_39 : decode cX9_moved 39 = .ok (.invokestatic 338, 3) := by decide +kernel
theorem dX9_moved_42 : decode cX9_moved 42 = .ok (.goto 5, 3) := by decide +kernel
theorem dX9_moved_45 : decode cX9_moved 45 = .ok (.iload 4, 2) := by decide +kernel
theorem dX9_moved_47 : decode cX9_moved 47 = .ok (.ireturn, 1) := by decide +kernel
theorem dX9_sourceWord_0 : decode cX9_sourceWord 0 = .ok (.getstatic 140, 3) := by decide +kernel
theorem dX9_sourceWord_3 : decode cX9_sourceWord 3 = .ok (.aload_n 1, 1) := by decide +kernel
theorem dX9_sourceWord_4 : decode cX9_sourceWord 4 = .ok (.invokevirtual 149, 3) := by decide +kernel
theorem dX9_sourceWord_7 : decode cX9_sourceWord 7 = .ok (.iaload, 1) := by decide +kernel
theorem dX9_sourceWord_8 : decode cX9_sourceWord 8 = .ok (.tableswitch 91 19 24 #[40, 55, 60, 65, 70, 75], 40) := by decide +kernel
theorem dX9_sourceWord_48 : decode cX9_sourceWord 48 = .ok (.aload_n 0, 1) := by decide +kernel
theorem dX9_sourceWord_49 : decode cX9_sourceWord 49 = .ok (.getfield 28, 3) := by decide +kernel
theorem dX9_sourceWord_52 : decode cX9_sourceWord 52 = .ok (.bipush 16, 2) := by decide +kernel
theorem dX9_sourceWord_54 : decode cX9_sourceWord 54 = .ok (.aload_n 3, 1) := by decide +kernel
theorem dX9_sourceWord_55 : decode cX9_sourceWord 55 = .ok (.getfield 213, 3) := by decide +kernel
theorem dX9_sourceWord_58 : decode cX9_sourceWord 58 = .ok (.isub, 1) := by decide +kernel
theorem dX9_sourceWord_59 : decode cX9_sourceWord 59 = .ok (.invokestatic 131, 3) := by decide +kernel
theorem dX9_sourceWord_62 : decode cX9_sourceWord 62 = .ok (.ireturn, 1) := by decide +kernel
theorem dX9_sourceWord_63 : decode cX9_sourceWord 63 = .ok (.aload_n 2, 1) := by decide +kernel
theorem dX9_sourceWord_64 : decode cX9_sourceWord 64 = .ok (.getfield 195, 3) := by decide +kernel
theorem dX9_sourceWord_67 : decode cX9_sourceWord 67 = .ok (.ireturn, 1) := by decide +kernel
theorem dX9_sourceWord_68 : decode cX9_sourceWord 68 = .ok (.aload_n 2, 1) := by decide +kernel
theorem dX9_sourceWord_69 : decode cX9_sourceWord 69 = .ok (.getfield 198, 3) := by decide +kernel
theorem dX9_sourceWord_72 : decode cX9_sourceWord 72 = .ok (.ireturn, 1) := by decide +kernel
theorem dX9_sourceWord_73 : decode cX9_sourceWord 73 = .ok (.aload_n 2, 1) := by decide +kernel
theorem dX9_sourceWord_74 : decode cX9_sourceWord 74 = .ok (.getfield 252, 3) := by decide +kernel
theorem dX9_sourceWord_77 : decode cX9_sourceWord 77 = .ok (.ireturn, 1) := by decide +kernel
theorem dX9_sourceWord_78 : decode cX9_sourceWord 78 = .ok (.aload_n 2, 1) := by decide +kernel
theorem dX9_sourceWord_79 : decode cX9_sourceWord 79 = .ok (.getfield 270, 3) := by decide +kernel
theorem dX9_sourceWord_82 : decode cX9_sourceWord 82 = .ok (.ireturn, 1) := by decide +kernel
theorem dX9_sourceWord_83 : decode cX9_sourceWord 83 = .ok (.aload_n 2, 1) := by decide +kernel
theorem dX9_sourceWord_84 : decode cX9_sourceWord 84 = .ok (.getfield 261, 3) := by decide +kernel
theorem dX9_sourceWord_87 : decode cX9_sourceWord 87 = .ok (.getfield 264, 3) := by decide +kernel
theorem dX9_sourceWord_90 : decode cX9_sourceWord 90 = .ok (.ifCond .ne 7, 3) := by decide +kernel
theorem dX9_sourceWord_93 : decode cX9_sourceWord 93 = .ok (.iconst (-1), 1) := by decide +kernel
theorem dX9_sourceWord_94 : decode cX9_sourceWord 94 = .ok (.goto 4, 3) := by decide +kernel
theorem dX9_sourceWord_97 : decode cX9_sourceWord 97 = .ok (.iconst 0, 1) := by decide +kernel
theorem dX9_sourceWord_98 : decode cX9_sourceWord 98 = .ok (.ireturn, 1) := by decide +kernel
theorem dX9_sourceWord_99 : decode cX9_sourceWord 99 = .ok (.iconst 0, 1) := by decide +kernel
theorem dX9_sourceWord_100 : decode cX9_sourceWord 100 = .ok (.ireturn, 1) := by decide +kernel
theorem dX9_deliver_0 : decode cX9_deliver 0 = .ok (.getstatic 140, 3) := by decide +kernel
theorem dX9_deliver_3 : decode cX9_deliver 3 = .ok (.aload_n 1, 1) := by decide +kernel
theorem dX9_deliver_4 : decode cX9_deliver 4 = .ok (.invokevirtual 149, 3) := by decide +kernel
theorem dX9_deliver_7 : decode cX9_deliver 7 = .ok (.iaload, 1) := by decide +kernel
theorem dX9_deliver_8 : decode cX9_deliver 8 = .ok (.tableswitch 144 19 26 #[48, 96, 104, 127, 136, 144, 72, 112], 48) := by decide +kernel
theorem dX9_deliver_56 : decode cX9_deliver 56 = .ok (.aload_n 0, 1) := by decide +kernel
theorem dX9_deliver_57 : decode cX9_deliver 57 = .ok (.getfield 15, 3) := by decide +kernel
theorem dX9_deliver_60 : decode cX9_deliver 60 = .ok (.aload 4, 2) := by decide +kernel
theorem dX9_deliver_62 : decode cX9_deliver 62 = .ok (.getfield 343, 3) := by decide +kernel
theorem dX9_deliver_65 : decode cX9_deliver 65 = .ok (.iload_n 2, 1) := by decide +kernel
theorem dX9_deliver_66 : decode cX9_deliver 66 = .ok (.aload 4, 2) := by decide +kernel
theorem dX9_deliver_68 : decode cX9_deliver 68 = .ok (.getfield 346, 3) := by decide +kernel
theorem dX9_deliver_71 : decode cX9_deliver 71 = .ok (.invokestatic 131, 3) := by decide +kernel
theorem dX9_deliver_74 : decode cX9_deliver 74 = .ok (.invokevirtual 135, 3) := by decide +kernel
theorem dX9_deliver_77 : decode cX9_deliver 77 = .ok (.goto 75, 3) := by decide +kernel
theorem dX9_deliver_80 : decode cX9_deliver 80 = .ok (.aload_n 0, 1) := by decide +kernel
theorem dX9_deliver_81 : decode cX9_deliver 81 = .ok (.getfield 15, 3) := by decide +kernel
theorem dX9_deliver_84 : decode cX9_deliver 84 = .ok (.aload 4, 2) := by decide +kernel
theorem dX9_deliver_86 : decode cX9_deliver 86 = .ok (.getfield 343, 3) := by decide +kernel
theorem dX9_deliver_89 : decode cX9_deliver 89 = .ok (.iload_n 2, 1) := by decide +kernel
theorem dX9_deliver_90 : decode cX9_deliver 90 = .ok (.aload 4, 2) := by decide +kernel
theorem dX9_deliver_92 : decode cX9_deliver 92 = .ok (.getfield 346, 3) := by decide +kernel
theorem dX9_deliver_95 : decode cX9_deliver 95 = .ok (.invokestatic 131, 3) := by decide +kernel
theorem dX9_deliver_98 : decode cX9_deliver 98 = .ok (.invokevirtual 307, 3) := by decide +kernel
theorem dX9_deliver_101 : decode cX9_deliver 101 = .ok (.goto 51, 3) := by decide +kernel
theorem dX9_deliver_104 : decode cX9_deliver 104 = .ok (.aload_n 3, 1) := by decide +kernel
theorem dX9_deliver_105 : decode cX9_deliver 105 = .ok (.iload_n 2, 1) := by decide +kernel
theorem dX9_deliver_106 : decode cX9_deliver 106 = .ok (.putfield 195, 3) := by decide +kernel
theorem dX9_deliver_109 : decode cX9_deliver 109 = .ok (.goto 43, 3) := by decide +kernel
theorem dX9_deliver_112 : decode cX9_deliver 112 = .ok (.aload_n 3, 1) := by decide +kernel
theorem dX9_deliver_113 : decode cX9_deliver 113 = .ok (.iload_n 2, 1) := by decide +kernel
theorem dX9_deliver_114 : decode cX9_deliver 114 = .ok (.putfield 198, 3) := by decide +kernel
theorem dX9_deliver_117 : decode cX9_deliver 117 = .ok (.goto 35, 3) := by decide +kernel
theorem dX9_deliver_120 : decode cX9_deliver 120 = .ok (.aload_n 0, 1) := by decide +kernel
theorem dX9_deliver_121 : decode cX9_deliver 121 = .ok (.aload_n 0, 1) := by decide +kernel
theorem dX9_deliver_122 : decode cX9_deliver 122 = .ok (.getfield 9, 3) := by decide +kernel
theorem dX9_deliver_125 : decode cX9_deliver 125 = .ok (.iload_n 2, 1) := by decide +kernel
theorem dX9_deliver_126 : decode cX9_deliver 126 = .ok (.invokevirtual 349, 3) := by decide +kernel
theorem dX9_deliver_129 : decode cX9_deliver 129 = .ok (.putfield 111, 3) := by decide +kernel
theorem dX9_deliver_132 : decode cX9_deliver 132 = .ok (.goto 20, 3) := by decide +kernel
theorem dX9_deliver_135 : decode cX9_deliver 135 = .ok (.aload_n 3, 1) := by decide +kernel
theorem dX9_deliver_136 : decode cX9_deliver 136 = .ok (.iload_n 2, 1) := by decide +kernel
theorem dX9_deliver_137 : decode cX9_deliver 137 = .ok (.iconst 0, 1) := by decide +kernel
theorem dX9_deliver_138 : decode cX9_deliver 138 = .ok (.invokevirtual 246, 3) := by decide +kernel
theorem dX9_deliver_141 : decode cX9_deliver 141 = .ok (.goto 11, 3) := by decide +kernel
theorem dX9_deliver_144 : decode cX9_deliver 144 = .ok (.aload_n 3, 1) := by decide +kernel
theorem dX9_deliver_145 : decode cX9_deliver 145 = .ok (.iload_n 2, 1) := by decide +kernel
theorem dX9_deliver_146 : decode cX9_deliver 146 = .ok (.invokevirtual 291, 3) := by decide +kernel
theorem dX9_deliver_149 : decode cX9_deliver 149 = .ok (.goto 3, 3) := by decide +kernel
theorem dX9_deliver_152 : decode cX9_deliver 152 = .ok (.return_, 1) := by decide +kernel
theorem dX10_spelled_0 : decode cX10_spelled 0 = .ok (.iconst 0, 1) := by decide +kernel
theorem dX10_spelled_1 : decode cX10_spelled 1 = .ok (.istore 4, 2) := by decide +kernel
theorem dX10_spelled_3 : decode cX10_spelled 3 = .ok (.iload 4, 2) := by decide +kernel
theorem dX10_spelled_5 : decode cX10_spelled 5 = .ok (.getstatic 255, 3) := by decide +kernel
theorem dX10_spelled_8 : decode cX10_spelled 8 = .ok (.arraylength, 1) := by decide +kernel
theorem dX10_spelled_9 : decode cX10_spelled 9 = .ok (.if_icmp .ge 31, 3) := by decide +kernel
theorem dX10_spelled_12 : decode cX10_spelled 12 = .ok (.getstatic 255, 3) := by decide +kernel
theorem dX10_spelled_15 : decode cX10_spelled 15 = .ok (.iload 4, 2) := by decide +kernel
theorem dX10_spelled_17 : decode cX10_spelled 17 = .ok (.aaload, 1) := by decide +kernel
theorem dX10_spelled_18 : decode cX10_spelled 18 = .ok (.aload_n 0, 1) := by decide +kernel
theorem dX10_spelled_19 : decode cX10_spelled 19 = .ok (.iload_n 1, 1) := by decide +kernel
theorem dX10_spelled_20 : decode cX10_spelled 20 = .ok (.iload_n 2, 1) := by decide +kernel
theorem dX10_spelled_21 : decode cX10_spelled 21 = .ok (.invokevirtual 258, 3) := by decide +kernel
theorem dX10_spelled_24 : decode cX10_spelled 24 = .ok (.ifCond .eq 10, 3) := by decide +kernel
theorem dX10_spelled_27 : decode cX10_spelled 27 = .ok (.getstatic 255, 3) := by decide +kernel
theorem dX10_spelled_30 : decode cX10_spelled 30 = .ok (.iload 4, 2) := by decide +kernel
theorem dX10_spelled_32 : decode cX10_spelled 32 = .ok (.aaload, 1) := by decide +kernel
theorem dX10_spelled_33 : decode cX10_spelled 33 = .ok (.areturn, 1) := by decide +kernel
theorem dX10_spelled_34 : decode cX10_spelled 34 = .ok (.iinc 4 1, 3) := by decide +kernel
theorem dX10_spelled_37 : decode cX10_spelled 37 = .ok (.goto (-34), 3) := by decide +kernel
theorem dX10_spelled_40 : decode cX10_spelled 40 = .ok (.aload_n 3, 1) := by decide +kernel
theorem dX10_spelled_41 : decode cX10_spelled 41 = .ok (.areturn, 1) := by decide +kernel
theorem dX10_isSpelled_0 : decode cX10_isSpelled 0 = .ok (.iload_n 2, 1) := by decide +kernel
theorem dX10_isSpelled_1 : decode cX10_isSpelled 1 = .ok (.ifCond .lt 22, 3) := by decide +kernel
theorem dX10_isSpelled_4 : decode cX10_isSpelled 4 = .ok (.iload_n 3, 1) := by decide +kernel
theorem dX10_isSpelled_5 : decode cX10_isSpelled 5 = .ok (.aload_n 1, 1) := by decide +kernel
theorem dX10_isSpelled_6 : decode cX10_isSpelled 6 = .ok (.arraylength, 1) := by decide +kernel
theorem dX10_isSpelled_7 : decode cX10_isSpelled 7 = .ok (.if_icmp .gt 16, 3) := by decide +kernel
theorem dX10_isSpelled_10 : decode cX10_isSpelled 10 = .ok (.aload_n 0, 1) := by decide +kernel
theorem dX10_isSpelled_11 : decode cX10_isSpelled 11 = .ok (.getfield 247, 3) := by decide +kernel
theorem dX10_isSpelled_14 : decode cX10_isSpelled 14 = .ok (.invokevirtual 262, 3) := by decide +kernel
theorem dX10_isSpelled_17 : decode cX10_isSpelled 17 = .ok (.iload_n 3, 1) := by decide +kernel
theorem dX10_isSpelled_18 : decode cX10_isSpelled 18 = .ok (.iload_n 2, 1) := by decide +kernel
theorem dX10_isSpelled_19 : decode cX10_isSpelled 19 = .ok (.isub, 1) := by decide +kernel
theorem dX10_isSpelled_20 : decode cX10_isSpelled 20 = .ok (.if_icmp .eq 5, 3) := by decide +kernel
theorem dX10_isSpelled_23 : decode cX10_isSpelled 23 = .ok (.iconst 0, 1) := by decide +kernel
theorem dX10_isSpelled_24 : decode cX10_isSpelled 24 = .ok (.ireturn, 1) := by decide +kernel
theorem dX10_isSpelled_25 : decode cX10_isSpelled 25 = .ok (.iconst 0, 1) := by decide +kernel
theorem dX10_isSpelled_26 : decode cX10_isSpelled 26 = .ok (.istore 4, 2) := by decide +kernel
theorem dX10_isSpelled_28 : decode cX10_isSpelled 28 = .ok (.iload 4, 2) := by decide +kernel
theorem dX10_isSpelled_30 : decode cX10_isSpelled 30 = .ok (.aload_n 0, 1) := by decide +kernel
theorem dX10_isSpelled_31 : decode cX10_isSpelled 31 = .ok (.getfield 247, 3) := by decide +kernel
theorem dX10_isSpelled_34 : decode cX10_isSpelled 34 = .ok (.invokevirtual 262, 3) := by decide +kernel
theorem dX10_isSpelled_37 : decode cX10_isSpelled 37 = .ok (.if_icmp .ge 29, 3) := by decide +kernel
theorem dX10_isSpelled_40 : decode cX10_isSpelled 40 = .ok (.aload_n 0, 1) := by decide +kernel
theorem dX10_isSpelled_41 : decode cX10_isSpelled 41 = .ok (.getfield 247, 3) := by decide +kernel
theorem dX10_isSpelled_44 : decode cX10_isSpelled 44 = .ok (.iload 4, 2) := by decide +kernel
theorem dX10_isSpelled_46 : decode cX10_isSpelled 46 = .ok (.invokevirtual 268, 3) := by decide +kernel
theorem dX10_isSpelled_49 : decode cX10_isSpelled 49 = .ok (.aload_n 1, 1) := by decide +kernel
theorem dX10_isSpelled_50 : decode cX10_isSpelled 50 = .ok (.iload_n 2, 1) := by decide +kernel
theorem dX10_isSpelled_51 : decode cX10_isSpelled 51 = .ok (.iload 4, 2) := by decide +kernel
theorem dX10_isSpelled_53 : decode cX10_isSpelled 53 = .ok (.iadd, 1) := by decide +kernel
theorem dX10_isSpelled_54 : decode cX10_isSpelled 54 = .ok (.baload, 1) := by decide +kernel
theorem dX10_isSpelled_55 : decode cX10_isSpelled 55 = .ok (.if_icmp .eq 5, 3) := by decide +kernel
theorem dX10_isSpelled_58 : decode cX10_isSpelled 58 = .ok (.iconst 0, 1) := by decide +kernel
theorem dX10_isSpelled_59 : decode cX10_isSpelled 59 = .ok (.ireturn, 1) := by decide +kernel
theorem dX10_isSpelled_60 : decode cX10_isSpelled 60 = .ok (.iinc 4 1, 3) := by decide +kernel
theorem dX10_isSpelled_63 : decode cX10_isSpelled 63 = .ok (.goto (-35), 3) := by decide +kernel
theorem dX10_isSpelled_66 : decode cX10_isSpelled 66 = .ok (.iconst 1, 1) := by decide +kernel
theorem dX10_isSpelled_67 : decode cX10_isSpelled 67 = .ok (.ireturn, 1) := by decide +kernel
theorem dX11_init_0 : decode cX11_init 0 = .ok (.aload_n 0, 1) := by decide +kernel
theorem dX11_init_1 : decode cX11_init 1 = .ok (.invokespecial 3, 3) := by decide +kernel
theorem dX11_init_4 : decode cX11_init 4 = .ok (.aload_n 0, 1) := by decide +kernel
theorem dX11_init_5 : decode cX11_init 5 = .ok (.sipush 1001, 3) := by decide +kernel
theorem dX11_init_8 : decode cX11_init 8 = .ok (.anewarray 9, 3) := by decide +kernel
theorem dX11_init_11 : decode cX11_init 11 = .ok (.putfield 11, 3) := by decide +kernel
theorem dX11_init_14 : decode cX11_init 14 = .ok (.aload_n 0, 1) := by decide +kernel
theorem dX11_init_15 : decode cX11_init 15 = .ok (.sipush 1001, 3) := by decide +kernel
theorem dX11_init_18 : decode cX11_init 18 = .ok (.newarray .int, 2) := by decide +kernel
theorem dX11_init_20 : decode cX11_init 20 = .ok (.putfield 17, 3) := by decide +kernel
theorem dX11_init_23 : decode cX11_init 23 = .ok (.aload_n 0, 1) := by decide +kernel
theorem dX11_init_24 : decode cX11_init 24 = .ok (.sipush 1001, 3) := by decide +kernel
theorem dX11_init_27 : decode cX11_init 27 = .ok (.newarray .int, 2) := by decide +kernel
theorem dX11_init_29 : decode cX11_init 29 = .ok (.putfield 21, 3) := by decide +kernel
theorem dX11_init_32 : decode cX11_init 32 = .ok (.aload_n 0, 1) := by decide +kernel
theorem dX11_init_33 : decode cX11_init 33 = .ok (.sipush 1001, 3) := by decide +kernel
theorem dX11_init_36 : decode cX11_init 36 = .ok (.newarray .int, 2) := by decide +kernel
theorem dX11_init_38 : decode cX11_init 38 = .ok (.putfield 24, 3) := by decide +kernel
theorem dX11_init_41 : decode cX11_init 41 = .ok (.aload_n 0, 1) := by decide +kernel
theorem dX11_init_42 : decode cX11_init 42 = .ok (.iconst 0, 1) := by decide +kernel
theorem dX11_init_43 : decode cX11_init 43 = .ok (.putfield 27, 3) := by decide +kernel
theorem dX11_init_46 : decode cX11_init 46 = .ok (.aload_n 0, 1) := by decide +kernel
theorem dX11_init_47 : decode cX11_init 47 = .ok (.iconst 0, 1) := by decide +kernel
theorem dX11_init_48 : decode cX11_init 48 = .ok (.putfield 31, 3) := by decide +kernel
theorem dX11_init_51 : decode cX11_init 51 = .ok (.aload_n 0, 1) := by decide +kernel
theorem dX11_init_52 : decode cX11_init 52 = .ok (.iconst 0, 1) := by decide +kernel
theorem dX11_init_53 : decode cX11_init 53 = .ok (.putfield 34, 3) := by decide +kernel
theorem dX11_init_56 : decode cX11_init 56 = .ok (.aload_n 0, 1) := by decide +kernel
theorem dX11_init_57 : decode cX11_init 57 = .ok (.iconst (-1), 1) := by decide +kernel
theorem dX11_init_58 : decode cX11_init 58 = .ok (.putfield 37, 3) := by decide +kernel
theorem dX11_init_61 : decode cX11_init 61 = .ok (.aload_n 0, 1) := by decide +kernel
theorem dX11_init_62 : decode cX11_init 62 = .ok (.aload_n 1, 1) := by decide +kernel
theorem dX11_init_63 : decode cX11_init 63 = .ok (.putfield 40, 3) := by decide +kernel
theorem dX11_init_66 : decode cX11_init 66 = .ok (.iconst 0, 1) := by decide +kernel
theorem dX11_init_67 : decode cX11_init 67 = .ok (.istore_n 2, 1) := by decide +kernel
theorem dX11_init_68 : decode cX11_init 68 = .ok (.iload_n 2, 1) := by decide +kernel
theorem dX11_init_69 : decode cX11_init 69 = .ok (.sipush 1000, 3) := by decide +kernel
theorem dX11_init_72 : decode cX11_init 72 = .ok (.if_icmp .gt 18, 3) := by decide +kernel
theorem dX11_init_75 : decode cX11_init 75 = .ok (.aload_n 0, 1) := by decide +kernel
theorem dX11_init_76 : decode cX11_init 76 = .ok (.getfield 11, 3) := by decide +kernel
theorem dX11_init_79 : decode cX11_init 79 = .ok (.iload_n 2, 1) := by decide +kernel
theorem dX11_init_80 : decode cX11_init 80 = .ok (.getstatic 44, 3) := by decide +kernel
theorem dX11_init_83 : decode cX11_init 83 = .ok (.aastore, 1) := by decide +kernel
theorem dX11_init_84 : decode cX11_init 84 = .ok (.iinc 2 1, 3) := by decide +kernel
theorem dX11_init_87 : decode cX11_init 87 = .ok (.goto (-19), 3) := by decide +kernel
theorem dX11_init_90 : decode cX11_init 90 = .ok (.return_, 1) := by decide +kernel
theorem dX11_scan_0 : decode cX11_scan 0 = .ok (.iload_n 1, 1) := by decide +kernel
theorem dX11_scan_1 : decode cX11_scan 1 = .ok (.aload_n 0, 1) := by decide +kernel
theorem dX11_scan_2 : decode cX11_scan 2 = .ok (.getfield 40, 3) := by decide +kernel
theorem dX11_scan_5 : decode cX11_scan 5 = .ok (.arraylength, 1) := by decide +kernel
theorem dX11_scan_6 : decode cX11_scan 6 = .ok (.sipush 1000, 3) := by decide +kernel
theorem dX11_scan_9 : decode cX11_scan 9 = .ok (.invokestatic 48, 3) := by decide +kernel
theorem dX11_scan_12 : decode cX11_scan 12 = .ok (.invokestatic 48, 3) := by decide +kernel
theorem dX11_scan_15 : decode cX11_scan 15 = .ok (.istore_n 2, 1) := by decide +kernel
theorem dX11_scan_16 : decode cX11_scan 16 = .ok (.aload_n 0, 1) := by decide +kernel
theorem dX11_scan_17 : decode cX11_scan 17 = .ok (.iconst 0, 1) := by decide +kernel
theorem dX11_scan_18 : decode cX11_scan 18 = .ok (.putfield 27, 3) := by decide +kernel
theorem dX11_scan_21 : decode cX11_scan 21 = .ok (.aload_n 0, 1) := by decide +kernel
theorem dX11_scan_22 : decode cX11_scan 22 = .ok (.iconst 0, 1) := by decide +kernel
theorem dX11_scan_23 : decode cX11_scan 23 = .ok (.putfield 34, 3) := by decide +kernel
theorem dX11_scan_26 : decode cX11_scan 26 = .ok (.aload_n 0, 1) := by decide +kernel
theorem dX11_scan_27 : decode cX11_scan 27 = .ok (.iconst (-1), 1) := by decide +kernel
theorem dX11_scan_28 : decode cX11_scan 28 = .ok (.putfield 37, 3) := by decide +kernel
theorem dX11_scan_31 : decode cX11_scan 31 = .ok (.iconst 0, 1) := by decide +kernel
theorem dX11_scan_32 : decode cX11_scan 32 = .ok (.istore_n 3, 1) := by decide +kernel
theorem dX11_scan_33 : decode cX11_scan 33 = .ok (.iconst 0, 1) := by decide +kernel
theorem dX11_scan_34 : decode cX11_scan 34 = .ok (.istore 4, 2) := by decide +kernel
theorem dX11_scan_36 : decode cX11_scan 36 = .ok (.iload 4, 2) := by decide +kernel
theorem dX11_scan_38 : decode cX11_scan 38 = .ok (.iload_n 2, 1) := by decide +kernel
theorem dX11_scan_39 : decode cX11_scan 39 = .ok (.if_icmp .ge 47, 3) := by decide +kernel
theorem dX11_scan_42 : decode cX11_scan 42 = .ok (.iload 4, 2) := by decide +kernel
theorem dX11_scan_44 : decode cX11_scan 44 = .ok (.iload_n 3, 1) := by decide +kernel
theorem dX11_scan_45 : decode cX11_scan 45 = .ok (.if_icmp .lt 35, 3) := by decide +kernel
theorem dX11_scan_48 : decode cX11_scan 48 = .ok (.aload_n 0, 1) := by decide +kernel
theorem dX11_scan_49 : decode cX11_scan 49 = .ok (.getfield 40, 3) := by decide +kernel
theorem dX11_scan_52 : decode cX11_scan 52 = .ok (.iload 4, 2) := by decide +kernel
theorem dX11_scan_54 : decode cX11_scan 54 = .ok (.baload, 1) := by decide +kernel
theorem dX11_scan_55 : decode cX11_scan 55 = .ok (.bipush 32, 2) := by decide +kernel
theorem dX11_scan_57 : decode cX11_scan 57 = .ok (.if_icmp .eq 23, 3) := by decide +kernel
theorem dX11_scan_60 : decode cX11_scan 60 = .ok (.aload_n 0, 1) := by decide +kernel
theorem dX11_scan_61 : decode cX11_scan 61 = .ok (.getfield 40, 3) := by decide +kernel
theorem dX11_scan_64 : decode cX11_scan 64 = .ok (.iload 4, 2) := by decide +kernel
theorem dX11_scan_66 : decode cX11_scan 66 = .ok (.baload, 1) := by decide +kernel
theorem dX11_scan_67 : decode cX11_scan 67 = .ok (.bipush 10, 2) := by decide +kernel
theorem dX11_scan_69 : decode cX11_scan 69 = .ok (.if_icmp .eq 11, 3) := by decide +kernel
theorem dX11_scan_72 : decode cX11_scan 72 = .ok (.aload_n 0, 1) := by decide +kernel
theorem dX11_scan_73 : decode cX11_scan 73 = .ok (.iload 4, 2) := by decide +kernel
theorem dX11_scan_75 : decode cX11_scan 75 = .ok (.iload_n 2, 1) := by decide +kernel
theorem dX11_scan_76 : decode cX11_scan 76 = .ok (.invokevirtual 54, 3) := by decide +kernel
theorem dX11_scan_79 : decode cX11_scan 79 = .ok (.istore_n 3, 1) := by decide +kernel
theorem dX11_scan_80 : decode cX11_scan 80 = .ok (.iinc 4 1, 3) := by decide +kernel
theorem dX11_scan_83 : decode cX11_scan 83 = .ok (.goto (-47), 3) := by decide +kernel
theorem dX11_scan_86 : decode cX11_scan 86 = .ok (.aload_n 0, 1) := by decide +kernel
theorem dX11_scan_87 : decode cX11_scan 87 = .ok (.getfield 11, 3) := by decide +kernel
theorem dX11_scan_90 : decode cX11_scan 90 = .ok (.aload_n 0, 1) := by decide +kernel
theorem dX11_scan_91 : decode cX11_scan 91 = .ok (.getfield 27, 3) := by decide +kernel
theorem dX11_scan_94 : decode cX11_scan 94 = .ok (.getstatic 44, 3) := by decide +kernel
theorem dX11_scan_97 : decode cX11_scan 97 = .ok (.aastore, 1) := by decide +kernel
theorem dX11_scan_98 : decode cX11_scan 98 = .ok (.aload_n 0, 1) := by decide +kernel
theorem dX11_scan_99 : decode cX11_scan 99 = .ok (.getfield 17, 3) := by decide +kernel
theorem dX11_scan_102 : decode cX11_scan 102 = .ok (.aload_n 0, 1) := by decide +kernel
theorem dX11_scan_103 : decode cX11_scan 103 = .ok (.getfield 27, 3) := by decide +kernel
theorem dX11_scan_106 : decode cX11_scan 106 = .ok (.iload_n 2, 1) := by decide +kernel
theorem dX11_scan_107 : decode cX11_scan 107 = .ok (.iastore, 1) := by decide +kernel
theorem dX11_scan_108 : decode cX11_scan 108 = .ok (.aload_n 0, 1) := by decide +kernel
theorem dX11_scan_109 : decode cX11_scan 109 = .ok (.getfield 21, 3) := by decide +kernel
theorem dX11_scan_112 : decode cX11_scan 112 = .ok (.aload_n 0, 1) := by decide +kernel
theorem dX11_scan_113 : decode cX11_scan 113 = .ok (.getfield 27, 3) := by decide +kernel
theorem dX11_scan_116 : decode cX11_scan 116 = .ok (.iload_n 2, 1) := by decide +kernel
theorem dX11_scan_117 : decode cX11_scan 117 = .ok (.iastore, 1) := by decide +kernel
theorem dX11_scan_118 : decode cX11_scan 118 = .ok (.aload_n 0, 1) := by decide +kernel
theorem dX11_scan_119 : decode cX11_scan 119 = .ok (.invokevirtual 57, 3) := by decide +kernel
theorem dX11_scan_122 : decode cX11_scan 122 = .ok (.return_, 1) := by decide +kernel
theorem dX11_rewind_0 : decode cX11_rewind 0 = .ok (.aload_n 0, 1) := by decide +kernel
theorem dX11_rewind_1 : decode cX11_rewind 1 = .ok (.iconst 0, 1) := by decide +kernel
theorem dX11_rewind_2 : decode cX11_rewind 2 = .ok (.putfield 31, 3) := by decide +kernel
theorem dX11_rewind_5 : decode cX11_rewind 5 = .ok (.return_, 1) := by decide +kernel
theorem dX11_fail_0 : decode cX11_fail 0 = .ok (.aload_n 0, 1) := by decide +kernel
theorem dX11_fail_1 : decode cX11_fail 1 = .ok (.getfield 34, 3) := by decide +kernel
theorem dX11_fail_4 : decode cX11_fail 4 = .ok (.ifCond .ne 21, 3) := by decide +kernel
theorem dX11_fail_7 : decode cX11_fail 7 = .ok (.aload_n 0, 1) := by decide +kernel
theorem dX11_fail_8 : decode cX11_fail 8 = .ok (.iload_n 1, 1) := by decide +kernel
theorem dX11_fail_9 : decode cX11_fail 9 = .ok (.putfield 34, 3) := by decide +kernel
theorem dX11_fail_12 : decode cX11_fail 12 = .ok (.aload_n 0, 1) := by decide +kernel
theorem dX11_fail_13 : decode cX11_fail 13 = .ok (.aload_n 0, 1) := by decide +kernel
theorem dX11_fail_14 : decode cX11_fail 14 = .ok (.getfield 17, 3) := by decide +kernel
theorem dX11_fail_17 : decode cX11_fail 17 = .ok (.aload_n 0, 1) := by decide +kernel
theorem dX11_fail_18 : decode cX11_fail 18 = .ok (.getfield 31, 3) := by decide +kernel
theorem dX11_fail_21 : decode cX11_fail 21 = .ok (.iaload, 1) := by decide +kernel
theorem dX11_fail_22 : decode cX11_fail 22 = .ok (.putfield 37, 3) := by decide +kernel
theorem dX11_fail_25 : decode cX11_fail 25 = .ok (.aload_n 0, 1) := by decide +kernel
theorem dX11_fail_26 : decode cX11_fail 26 = .ok (.aload_n 0, 1) := by decide +kernel
theorem dX11_fail_27 : decode cX11_fail 27 = .ok (.getfield 27, 3) := by decide +kernel
theorem dX11_fail_30 : decode cX11_fail 30 = .ok (.putfield 31, 3) := by decide +kernel
theorem dX11_fail_33 : decode cX11_fail 33 = .ok (.return_, 1) := by decide +kernel
theorem dX11_at_0 : decode cX11_at 0 = .ok (.aload_n 0, 1) := by decide +kernel
theorem dX11_at_1 : decode cX11_at 1 = .ok (.getfield 11, 3) := by decide +kernel
theorem dX11_at_4 : decode cX11_at 4 = .ok (.aload_n 0, 1) := by decide +kernel
theorem dX11_at_5 : decode cX11_at 5 = .ok (.getfield 31, 3) := by decide +kernel
theorem dX11_at_8 : decode cX11_at 8 = .ok (.aaload, 1) := by decide +kernel
theorem dX11_at_9 : decode cX11_at 9 = .ok (.aload_n 1, 1) := by decide +kernel
theorem dX11_at_10 : decode cX11_at 10 = .ok (.if_acmp .ne 7, 3) := by decide +kernel
theorem dX11_at_13 : decode cX11_at 13 = .ok (.iconst 1, 1) := by decide +kernel
theorem dX11_at_14 : decode cX11_at 14 = .ok (.goto 4, 3) := by decide +kernel
theorem dX11_at_17 : decode cX11_at 17 = .ok (.iconst 0, 1) := by decide +kernel
theorem dX11_at_18 : decode cX11_at 18 = .ok (.ireturn, 1) := by decide +kernel
theorem dX11_atRole_0 : decode cX11_atRole 0 = .ok (.aload_n 0, 1) := by decide +kernel
theorem dX11_atRole_1 : decode cX11_atRole 1 = .ok (.getfield 11, 3) := by decide +kernel
theorem dX11_atRole_4 : decode cX11_atRole 4 = .ok (.aload_n 0, 1) := by decide +kernel
theorem dX11_atRole_5 : decode cX11_atRole 5 = .ok (.getfield 31, 3) := by decide +kernel
theorem dX11_atRole_8 : decode cX11_atRole 8 = .ok (.aaload, 1) := by decide +kernel
theorem dX11_atRole_9 : decode cX11_atRole 9 = .ok (.getfield 60, 3) := by decide +kernel
theorem dX11_atRole_12 : decode cX11_atRole 12 = .ok (.iload_n 1, 1) := by decide +kernel
theorem dX11_atRole_13 : decode cX11_atRole 13 = .ok (.iand, 1) := by decide +kernel
theorem dX11_atRole_14 : decode cX11_atRole 14 = .ok (.ifCond .eq 7, 3) := by decide +kernel
theorem dX11_atRole_17 : decode cX11_atRole 17 = .ok (.iconst 1, 1) := by decide +kernel
theorem dX11_atRole_18 : decode cX11_atRole 18 = .ok (.goto 4, 3) := by decide +kernel
theorem dX11_atRole_21 : decode cX11_atRole 21 = .ok (.iconst 0, 1) := by decide +kernel
theorem dX11_atRole_22 : decode cX11_atRole 22 = .ok (.ireturn, 1) := by decide +kernel
theorem dX11_atNumberBelow_0 : decode cX11_atNumberBelow 0 = .ok (.aload_n 0, 1) := by decide +kernel
theorem dX11_atNumberBelow_1 : decode cX11_atNumberBelow 1 = .ok (.getstatic 63, 3) := by decide +kernel
theorem dX11_atNumberBelow_4 : decode cX11_atNumberBelow 4 = .ok (.invokevirtual 66, 3) := by decide +kernel
theorem dX11_atNumberBelow_7 : decode cX11_atNumberBelow 7 = .ok (.ifCond .eq 20, 3) := by decide +kernel
theorem dX11_atNumberBelow_10 : decode cX11_atNumberBelow 10 = .ok (.aload_n 0, 1) := by decide +kernel
theorem dX11_atNumberBelow_11 : decode cX11_atNumberBelow 11 = .ok (.getfield 24, 3) := by decide +kernel
theorem dX11_atNumberBelow_14 : decode cX11_atNumberBelow 14 = .ok (.aload_n 0, 1) := by decide +kernel
theorem dX11_atNumberBelow_15 : decode cX11_atNumberBelow 15 = .ok (.getfield 31, 3) := by decide +kernel
theorem dX11_atNumberBelow_18 : decode cX11_atNumberBelow 18 = .ok (.iaload, 1) := by decide +kernel
theorem dX11_atNumberBelow_19 : decode cX11_atNumberBelow 19 = .ok (.iload_n 1, 1) := by decide +kernel
theorem dX11_atNumberBelow_20 : decode cX11_atNumberBelow 20 = .ok (.if_icmp .ge 7, 3) := by decide +kernel
theorem dX11_atNumberBelow_23 : decode cX11_atNumberBelow 23 = .ok (.iconst 1, 1) := by decide +kernel
theorem dX11_atNumberBelow_24 : decode cX11_atNumberBelow 24 = .ok (.goto 4, 3) := by decide +kernel
theorem dX11_atNumberBelow_27 : decode cX11_atNumberBelow 27 = .ok (.iconst 0, 1) := by decide +kernel
theorem dX11_atNumberBelow_28 : decode cX11_atNumberBelow 28 = .ok (.ireturn, 1) := by decide +kernel
theorem dX11_number_0 : decode cX11_number 0 = .ok (.aload_n 0, 1) := by decide +kernel
theorem dX11_number_1 : decode cX11_number 1 = .ok (.getfield 24, 3) := by decide +kernel
theorem dX11_number_4 : decode cX11_number 4 = .ok (.aload_n 0, 1) := by decide +kernel
theorem dX11_number_5 : decode cX11_number 5 = .ok (.getfield 31, 3) := by decide +kernel
theorem dX11_number_8 : decode cX11_number 8 = .ok (.iaload, 1) := by decide +kernel
theorem dX11_number_9 : decode cX11_number 9 = .ok (.ireturn, 1) := by decide +kernel
theorem dX11_skip_0 : decode cX11_skip 0 = .ok (.aload_n 0, 1) := by decide +kernel
theorem dX11_skip_1 : decode cX11_skip 1 = .ok (.aload_n 1, 1) := by decide +kernel
theorem dX11_skip_2 : decode cX11_skip 2 = .ok (.invokevirtual 66, 3) := by decide +kernel
theorem dX11_skip_5 : decode cX11_skip 5 = .ok (.ifCond .eq 14, 3) := by decide +kernel
theorem dX11_skip_8 : decode cX11_skip 8 = .ok (.aload_n 0, 1) := by decide +kernel
theorem dX11_skip_9 : decode cX11_skip 9 = .ok (.getfield 31, 3) := by decide +kernel
theorem dX11_skip_12 : decode cX11_skip 12 = .ok (.aload_n 0, 1) := by decide +kernel
theorem dX11_skip_13 : decode cX11_skip 13 = .ok (.getfield 27, 3) := by decide +kernel
theorem dX11_skip_16 : decode cX11_skip 16 = .ok (.if_icmp .lt 5, 3) := by decide +kernel
theorem dX11_skip_19 : decode cX11_skip 19 = .ok (.iconst 0, 1) := by decide +kernel
theorem dX11_skip_20 : decode cX11_skip 20 = .ok (.ireturn, 1) := by decide +kernel
theorem dX11_skip_21 : decode cX11_skip 21 = .ok (.aload_n 0, 1) := by decide +kernel
theorem dX11_skip_22 : decode cX11_skip 22 = .ok (.dup, 1) := by decide +kernel
theorem dX11_skip_23 : decode cX11_skip 23 = .ok (.getfield 31, 3) := by decide +kernel
theorem dX11_skip_26 : decode cX11_skip 26 = .ok (.iconst 1, 1) := by decide +kernel
theorem dX11_skip_27 : decode cX11_skip 27 = .ok (.iadd, 1) := by decide +kernel
theorem dX11_skip_28 : decode cX11_skip 28 = .ok (.putfield 31, 3) := by decide +kernel
theorem dX11_skip_31 : decode cX11_skip 31 = .ok (.iconst 1, 1) := by decide +kernel
theorem dX11_skip_32 : decode cX11_skip 32 = .ok (.ireturn, 1) := by decide +kernel
theorem dX11_expect_0 : decode cX11_expect 0 = .ok (.aload_n 0, 1) := by decide +kernel
theorem dX11_expect_1 : decode cX11_expect 1 = .ok (.aload_n 1, 1) := by decide +kernel
theorem dX11_expect_2 : decode cX11_expect 2 = .ok (.invokevirtual 70, 3) := by decide +kernel
theorem dX11_expect_5 : decode cX11_expect 5 = .ok (.ifCond .ne 8, 3) := by decide +kernel
theorem dX11_expect_8 : decode cX11_expect 8 = .ok (.aload_n 0, 1) := by decide +kernel
theorem dX11_expect_9 : decode cX11_expect 9 = .ok (.iconst 1, 1) := by decide +kernel
theorem dX11_expect_10 : decode cX11_expect 10 = .ok (.invokevirtual 73, 3) := by decide +kernel
theorem dX11_expect_13 : decode cX11_expect 13 = .ok (.return_, 1) := by decide +kernel
theorem dX11_expectEnd_0 : decode cX11_expectEnd 0 = .ok (.aload_n 0, 1) := by decide +kernel
theorem dX11_expectEnd_1 : decode cX11_expectEnd 1 = .ok (.getstatic 44, 3) := by decide +kernel
theorem dX11_expectEnd_4 : decode cX11_expectEnd 4 = .ok (.invokevirtual 66, 3) := by decide +kernel
theorem dX11_expectEnd_7 : decode cX11_expectEnd 7 = .ok (.ifCond .ne 8, 3) := by decide +kernel
theorem dX11_expectEnd_10 : decode cX11_expectEnd 10 = .ok (.aload_n 0, 1) := by decide +kernel
theorem dX11_expectEnd_11 : decode cX11_expectEnd 11 = .ok (.iconst 1, 1) := by decide +kernel
theorem dX11_expectEnd_12 : decode cX11_expectEnd 12 = .ok (.invokevirtual 73, 3) := by decide +kernel
theorem dX11_expectEnd_15 : decode cX11_expectEnd 15 = .ok (.return_, 1) := by decide +kernel
theorem dX11_takeOptional_0 : decode cX11_takeOptional 0 = .ok (.aload_n 0, 1) := by decide +kernel
theorem dX11_takeOptional_1 : decode cX11_takeOptional 1 = .ok (.iload_n 1, 1) := by decide +kernel
theorem dX11_takeOptional_2 : decode cX11_takeOptional 2 = .ok (.invokevirtual 77, 3) := by decide +kernel
theorem dX11_takeOptional_5 : decode cX11_takeOptional 5 = .ok (.ifCond .eq 14, 3) := by decide +kernel
theorem dX11_takeOptional_8 : decode cX11_takeOptional 8 = .ok (.aload_n 0, 1) := by decide +kernel
theorem dX11_takeOptional_9 : decode cX11_takeOptional 9 = .ok (.getfield 31, 3) := by decide +kernel
theorem dX11_takeOptional_12 : decode cX11_takeOptional 12 = .ok (.aload_n 0, 1) := by decide +kernel
theorem dX11_takeOptional_13 : decode cX11_takeOptional 13 = .ok (.getfield 27, 3) := by decide +kernel
theorem dX11_takeOptional_16 : decode cX11_takeOptional 16 = .ok (.if_icmp .lt 7, 3) := by decide +kernel
theorem dX11_takeOptional_19 : decode cX11_takeOptional 19 = .ok (.getstatic 81, 3) := by decide +kernel
theorem dX11_takeOptional_22 : decode cX11_takeOptional 22 = .ok (.areturn, 1) := by decide +kernel
theorem dX11_takeOptional_23 : decode cX11_takeOptional 23 = .ok (.aload_n 0, 1) := by decide +kernel
theorem dX11_takeOptional_24 : decode cX11_takeOptional 24 = .ok (.dup, 1) := by decide +kernel
theorem dX11_takeOptional_25 : decode cX11_takeOptional 25 = .ok (.getfield 31, 3) := by decide +kernel
theorem dX11_takeOptional_28 : decode cX11_takeOptional 28 = .ok (.iconst 1, 1) := by decide +kernel
theorem dX11_takeOptional_29 : decode cX11_takeOptional 29 = .ok (.iadd, 1) := by decide +kernel
theorem dX11_takeOptional_30 : decode cX11_takeOptional 30 = .ok (.putfield 31, 3) := by decide +kernel
theorem dX11_takeOptional_33 : decode cX11_takeOptional 33 = .ok (.aload_n 0, 1) := by decide +kernel
theorem dX11_takeOptional_34 : decode cX11_takeOptional 34 = .ok (.getfield 11, 3) := by decide +kernel
theorem dX11_takeOptional_37 : decode cX11_takeOptional 37 = .ok (.aload_n 0, 1) := by decide +kernel
theorem dX11_takeOptional_38 : decode cX11_takeOptional 38 = .ok (.getfield 31, 3) := by decide +kernel
theorem dX11_takeOptional_41 : decode cX11_takeOptional 41 = .ok (.iconst 1, 1) := by decide +kernel
theorem dX11_takeOptional_42 : decode cX11_takeOptional 42 = .ok (.isub, 1) := by decide +kernel
theorem dX11_takeOptional_43 : decode cX11_takeOptional 43 = .ok (.aaload, 1) := by decide +kernel
theorem dX11_takeOptional_44 : decode cX11_takeOptional 44 = .ok (.areturn, 1) := by decide +kernel
theorem dX11_takeRole_0 : decode cX11_takeRole 0 = .ok (.aload_n 0, 1) := by decide +kernel
theorem dX11_takeRole_1 : decode cX11_takeRole 1 = .ok (.iload_n 1, 1) := by decide +kernel
theorem dX11_takeRole_2 : decode cX11_takeRole 2 = .ok (.invokevirtual 84, 3) := by decide +kernel
theorem dX11_takeRole_5 : decode cX11_takeRole 5 = .ok (.astore_n 2, 1) := by decide +kernel
theorem dX11_takeRole_6 : decode cX11_takeRole 6 = .ok (.aload_n 2, 1) := by decide +kernel
theorem dX11_takeRole_7 : decode cX11_takeRole 7 = .ok (.getstatic 81, 3) := by decide +kernel
theorem dX11_takeRole_10 : decode cX11_takeRole 10 = .ok (.if_acmp .ne 8, 3) := by decide +kernel
theorem dX11_takeRole_13 : decode cX11_takeRole 13 = .ok (.aload_n 0, 1) := by decide +kernel
theorem dX11_takeRole_14 : decode cX11_takeRole 14 = .ok (.iconst 1, 1) := by decide +kernel
theorem dX11_takeRole_15 : decode cX11_takeRole 15 = .ok (.invokevirtual 73, 3) := by decide +kernel
theorem dX11_takeRole_18 : decode cX11_takeRole 18 = .ok (.aload_n 2, 1) := by decide +kernel
theorem dX11_takeRole_19 : decode cX11_takeRole 19 = .ok (.areturn, 1) := by decide +kernel
theorem dX11_takeNumber_0 : decode cX11_takeNumber 0 = .ok (.aload_n 0, 1) := by decide +kernel
theorem dX11_takeNumber_1 : decode cX11_takeNumber 1 = .ok (.getstatic 63, 3) := by decide +kernel
theorem dX11_takeNumber_4 : decode cX11_takeNumber 4 = .ok (.invokevirtual 66, 3) := by decide +kernel
theorem dX11_takeNumber_7 : decode cX11_takeNumber 7 = .ok (.ifCond .ne 10, 3) := by decide +kernel
theorem dX11_takeNumber_10 : decode cX11_takeNumber 10 = .ok (.aload_n 0, 1) := by decide +kernel
theorem dX11_takeNumber_11 : decode cX11_takeNumber 11 = .ok (.iconst 1, 1) := by decide +kernel
theorem dX11_takeNumber_12 : decode cX11_takeNumber 12 = .ok (.invokevirtual 73, 3) := by decide +kernel
theorem dX11_takeNumber_15 : decode cX11_takeNumber 15 = .ok (.iload_n 1, 1) := by decide +kernel
theorem dX11_takeNumber_16 : decode cX11_takeNumber 16 = .ok (.ireturn, 1) := by decide +kernel
theorem dX11_takeNumber_17 : decode cX11_takeNumber 17 = .ok (.aload_n 0, 1) := by decide +kernel
theorem dX11_takeNumber_18 : decode cX11_takeNumber 18 = .ok (.getfield 24, 3) := by decide +kernel
theorem dX11_takeNumber_21 : decode cX11_takeNumber 21 = .ok (.aload_n 0, 1) := by decide +kernel
theorem dX11_takeNumber_22 : decode cX11_takeNumber 22 = .ok (.getfield 31, 3) := by decide +kernel
theorem dX11_takeNumber_25 : decode cX11_takeNumber 25 = .ok (.iaload, 1) := by decide +kernel
theorem dX11_takeNumber_26 : decode cX11_takeNumber 26 = .ok (.istore_n 3, 1) := by decide +kernel
theorem dX11_takeNumber_27 : decode cX11_takeNumber 27 = .ok (.iload_n 3, 1) := by decide +kernel
theorem dX11_takeNumber_28 : decode cX11_takeNumber 28 = .ok (.iload_n 1, 1) := by decide +kernel
theorem dX11_takeNumber_29 : decode cX11_takeNumber 29 = .ok (.if_icmp .lt 8, 3) := by decide +kernel
theorem dX11_takeNumber_32 : decode cX11_takeNumber 32 = .ok (.iload_n 3, 1) := by decide +kernel
theorem dX11_takeNumber_33 : decode cX11_takeNumber 33 = .ok (.iload_n 2, 1) := by decide +kernel
theorem dX11_takeNumber_34 : decode cX11_takeNumber 34 = .ok (.if_icmp .le 10, 3) := by decide +kernel
theorem dX11_takeNumber_37 : decode cX11_takeNumber 37 = .ok (.aload_n 0, 1) := by decide +kernel
theorem dX11_takeNumber_38 : decode cX11_takeNumber 38 = .ok (.iconst 2, 1) := by decide +kernel
theorem dX11_takeNumber_39 : decode cX11_takeNumber 39 = .ok (.invokevirtual 73, 3) := by decide +kernel
theorem dX11_takeNumber_42 : decode cX11_takeNumber 42 = .ok (.iload_n 1, 1) := by decide +kernel
theorem dX11_takeNumber_43 : decode cX11_takeNumber 43 = .ok (.ireturn, 1) := by decide +kernel
theorem dX11_takeNumber_44 : decode cX11_takeNumber 44 = .ok (.aload_n 0, 1) := by decide +kernel
theorem dX11_takeNumber_45 : decode cX11_takeNumber 45 = .ok (.aload_n 0, 1) := by decide +kernel
theorem dX11_takeNumber_46 : decode cX11_takeNumber 46 = .ok (.getfield 31, 3) := by decide +kernel
theorem dX11_takeNumber_49 : decode cX11_takeNumber 49 = .ok (.iconst 1, 1) := by decide +kernel
theorem dX11_takeNumber_50 : decode cX11_takeNumber 50 = .ok (.iadd, 1) := by decide +kernel
theorem dX11_takeNumber_51 : decode cX11_takeNumber 51 = .ok (.aload_n 0, 1) := by decide +kernel
theorem dX11_takeNumber_52 : decode cX11_takeNumber 52 = .ok (.getfield 27, 3) := by decide +kernel
theorem dX11_takeNumber_55 : decode cX11_takeNumber 55 = .ok (.invokestatic 48, 3) := by decide +kernel
theorem dX11_takeNumber_58 : decode cX11_takeNumber 58 = .ok (.putfield 31, 3) := by decide +kernel
theorem dX11_takeNumber_61 : decode cX11_takeNumber 61 = .ok (.iload_n 3, 1) := by decide +kernel
theorem dX11_takeNumber_62 : decode cX11_takeNumber 62 = .ok (.ireturn, 1) := by decide +kernel
theorem dX11_isSameAs_0 : decode cX11_isSameAs 0 = .ok (.iload_n 1, 1) := by decide +kernel
theorem dX11_isSameAs_1 : decode cX11_isSameAs 1 = .ok (.ifCond .lt 46, 3) := by decide +kernel
theorem dX11_isSameAs_4 : decode cX11_isSameAs 4 = .ok (.iload_n 1, 1) := by decide +kernel
theorem dX11_isSameAs_5 : decode cX11_isSameAs 5 = .ok (.aload_n 0, 1) := by decide +kernel
theorem dX11_isSameAs_6 : decode cX11_isSameAs 6 = .ok (.getfield 27, 3) := by decide +kernel
theorem dX11_isSameAs_9 : decode cX11_isSameAs 9 = .ok (.if_icmp .gt 38, 3) := by decide +kernel
theorem dX11_isSameAs_12 : decode cX11_isSameAs 12 = .ok (.aload_n 0, 1) := by decide +kernel
theorem dX11_isSameAs_13 : decode cX11_isSameAs 13 = .ok (.getfield 21, 3) := by decide +kernel
theorem dX11_isSameAs_16 : decode cX11_isSameAs 16 = .ok (.iload_n 1, 1) := by decide +kernel
theorem dX11_isSameAs_17 : decode cX11_isSameAs 17 = .ok (.iaload, 1) := by decide +kernel
theorem dX11_isSameAs_18 : decode cX11_isSameAs 18 = .ok (.aload_n 0, 1) := by decide +kernel
theorem dX11_isSameAs_19 : decode cX11_isSameAs 19 = .ok (.getfield 17, 3) := by decide +kernel
theorem dX11_isSameAs_22 : decode cX11_isSameAs 22 = .ok (.iload_n 1, 1) := by decide +kernel
theorem dX11_isSameAs_23 : decode cX11_isSameAs 23 = .ok (.iaload, 1) := by decide +kernel
theorem dX11_isSameAs_24 : decode cX11_isSameAs 24 = .ok (.isub, 1) := by decide +kernel
theorem dX11_isSameAs_25 : decode cX11_isSameAs 25 = .ok (.aload_n 0, 1) := by decide +kernel
theorem dX11_isSameAs_26 : decode cX11_isSameAs 26 = .ok (.getfield 21, 3) := by decide +kernel
theorem dX11_isSameAs_29 : decode cX11_isSameAs 29 = .ok (.aload_n 0, 1) := by decide +kernel
theorem dX11_isSameAs_30 : decode cX11_isSameAs 30 = .ok (.getfield 31, 3) := by decide +kernel
theorem dX11_isSameAs_33 : decode cX11_isSameAs 33 = .ok (.iaload, 1) := by decide +kernel
theorem dX11_isSameAs_34 : decode cX11_isSameAs 34 = .ok (.aload_n 0, 1) := by decide +kernel
theorem dX11_isSameAs_35 : decode cX11_isSameAs 35 = .ok (.getfield 17, 3) := by decide +kernel
theorem dX11_isSameAs_38 : decode cX11_isSameAs 38 = .ok (.aload_n 0, 1) := by decide +kernel
theorem dX11_isSameAs_39 : decode cX11_isSameAs 39 = .ok (.getfield 31, 3) := by decide +kernel
theorem dX11_isSameAs_42 : decode cX11_isSameAs 42 = .ok (.iaload, 1) := by decide +kernel
theorem dX11_isSameAs_43 : decode cX11_isSameAs 43 = .ok (.isub, 1) := by decide +kernel
theorem dX11_isSameAs_44 : decode cX11_isSameAs 44 = .ok (.if_icmp .eq 5, 3) := by decide +kernel
theorem dX11_isSameAs_47 : decode cX11_isSameAs 47 = .ok (.iconst 0, 1) := by decide +kernel
theorem dX11_isSameAs_48 : decode cX11_isSameAs 48 = .ok (.ireturn, 1) := by decide +kernel
theorem dX11_isSameAs_49 : decode cX11_isSameAs 49 = .ok (.aload_n 0, 1) := by decide +kernel
theorem dX11_isSameAs_50 : decode cX11_isSameAs 50 = .ok (.getfield 17, 3) := by decide +kernel
theorem dX11_isSameAs_53 : decode cX11_isSameAs 53 = .ok (.aload_n 0, 1) := by decide +kernel
theorem dX11_isSameAs_54 : decode cX11_isSameAs 54 = .ok (.getfield 31, 3) := by decide +kernel
theorem dX11_isSameAs_57 : decode cX11_isSameAs 57 = .ok (.iaload, 1) := by decide +kernel
theorem dX11_isSameAs_58 : decode cX11_isSameAs 58 = .ok (.istore_n 2, 1) := by decide +kernel
theorem dX11_isSameAs_59 : decode cX11_isSameAs 59 = .ok (.aload_n 0, 1) := by decide +kernel
theorem dX11_isSameAs_60 : decode cX11_isSameAs 60 = .ok (.getfield 17, 3) := by decide +kernel
theorem dX11_isSameAs_63 : decode cX11_isSameAs 63 = .ok (.iload_n 1, 1) := by decide +kernel
theorem dX11_isSameAs_64 : decode cX11_isSameAs 64 = .ok (.iaload, 1) := by decide +kernel
theorem dX11_isSameAs_65 : decode cX11_isSameAs 65 = .ok (.istore_n 3, 1) := by decide +kernel
theorem dX11_isSameAs_66 : decode cX11_isSameAs 66 = .ok (.iload_n 2, 1) := by decide +kernel
theorem dX11_isSameAs_67 : decode cX11_isSameAs 67 = .ok (.aload_n 0, 1) := by decide +kernel
theorem dX11_isSameAs_68 : decode cX11_isSameAs 68 = .ok (.getfield 21, 3) := by decide +kernel
theorem dX11_isSameAs_71 : decode cX11_isSameAs 71 = .ok (.aload_n 0, 1) := by decide +kernel
theorem dX11_isSameAs_72 : decode cX11_isSameAs 72 = .ok (.getfield 31, 3) := by decide +kernel
theorem dX11_isSameAs_75 : decode cX11_isSameAs 75 = .ok (.iaload, 1) := by decide +kernel
theorem dX11_isSameAs_76 : decode cX11_isSameAs 76 = .ok (.if_icmp .ge 29, 3) := by decide +kernel
theorem dX11_isSameAs_79 : decode cX11_isSameAs 79 = .ok (.aload_n 0, 1) := by decide +kernel
theorem dX11_isSameAs_80 : decode cX11_isSameAs 80 = .ok (.getfield 40, 3) := by decide +kernel
theorem dX11_isSameAs_83 : decode cX11_isSameAs 83 = .ok (.iload_n 2, 1) := by decide +kernel
theorem dX11_isSameAs_84 : decode cX11_isSameAs 84 = .ok (.baload, 1) := by decide +kernel
theorem dX11_isSameAs_85 : decode cX11_isSameAs 85 = .ok (.aload_n 0, 1) := by decide +kernel
theorem dX11_isSameAs_86 : decode cX11_isSameAs 86 = .ok (.getfield 40, 3) := by decide +kernel
theorem dX11_isSameAs_89 : decode cX11_isSameAs 89 = .ok (.iload_n 3, 1) := by decide +kernel
theorem dX11_isSameAs_90 : decode cX11_isSameAs 90 = .ok (.baload, 1) := by decide +kernel
theorem dX11_isSameAs_91 : decode cX11_isSameAs 91 = .ok (.if_icmp .eq 5, 3) := by decide +kernel
theorem dX11_isSameAs_94 : decode cX11_isSameAs 94 = .ok (.iconst 0, 1) := by decide +kernel
theorem dX11_isSameAs_95 : decode cX11_isSameAs 95 = .ok (.ireturn, 1) := by decide +kernel
theorem dX11_isSameAs_96 : decode cX11_isSameAs 96 = .ok (.iinc 2 1, 3) := by decide +kernel
theorem dX11_isSameAs_99 : decode cX11_isSameAs 99 = .ok (.iinc 3 1, 3) := by decide +kernel
theorem dX11_isSameAs_102 : decode cX11_isSameAs 102 = .ok (.goto (-36), 3) := by decide +kernel
theorem dX11_isSameAs_105 : decode cX11_isSameAs 105 = .ok (.iconst 1, 1) := by decide +kernel
theorem dX11_isSameAs_106 : decode cX11_isSameAs 106 = .ok (.ireturn, 1) := by decide +kernel
theorem dX11_scanToken_0 : decode cX11_scanToken 0 = .ok (.iload_n 1, 1) := by decide +kernel
theorem dX11_scanToken_1 : decode cX11_scanToken 1 = .ok (.iconst 1, 1) := by decide +kernel
theorem dX11_scanToken_2 : decode cX11_scanToken 2 = .ok (.iadd, 1) := by decide +kernel
theorem dX11_scanToken_3 : decode cX11_scanToken 3 = .ok (.istore_n 3, 1) := by decide +kernel
theorem dX11_scanToken_4 : decode cX11_scanToken 4 = .ok (.iconst 0, 1) := by decide +kernel
theorem dX11_scanToken_5 : decode cX11_scanToken 5 = .ok (.istore 4, 2) := by decide +kernel
theorem dX11_scanToken_7 : decode cX11_scanToken 7 = .ok (.getstatic 63, 3) := by decide +kernel
theorem dX11_scanToken_10 : decode cX11_scanToken 10 = .ok (.astore 5, 2) := by decide +kernel
theorem dX11_scanToken_12 : decode cX11_scanToken 12 = .ok (.aload_n 0, 1) := by decide +kernel
theorem dX11_scanToken_13 : decode cX11_scanToken 13 = .ok (.getfield 40, 3) := by decide +kernel
theorem dX11_scanToken_16 : decode cX11_scanToken 16 = .ok (.iload_n 1, 1) := by decide +kernel
theorem dX11_scanToken_17 : decode cX11_scanToken 17 = .ok (.baload, 1) := by decide +kernel
theorem dX11_scanToken_18 : decode cX11_scanToken 18 = .ok (.invokestatic 88, 3) := by decide +kernel
theorem dX11_scanToken_21 : decode cX11_scanToken 21 = .ok (.ifCond .eq 59, 3) := by decide +kernel
theorem dX11_scanToken_24 : decode cX11_scanToken 24 = .ok (.aload_n 0, 1) := by decide +kernel
theorem dX11_scanToken_25 : decode cX11_scanToken 25 = .ok (.getfield 40, 3) := by decide +kernel
theorem dX11_scanToken_28 : decode cX11_scanToken 28 = .ok (.iload_n 1, 1) := by decide +kernel
theorem dX11_scanToken_29 : decode cX11_scanToken 29 = .ok (.baload, 1) := by decide +kernel
theorem dX11_scanToken_30 : decode cX11_scanToken 30 = .ok (.bipush 48, 2) := by decide +kernel
theorem dX11_scanToken_32 : decode cX11_scanToken 32 = .ok (.isub, 1) := by decide +kernel
theorem dX11_scanToken_33 : decode cX11_scanToken 33 = .ok (.istore 4, 2) := by decide +kernel
theorem dX11_scanToken_35 : decode cX11_scanToken 35 = .ok (.iload_n 3, 1) := by decide +kernel
theorem dX11_scanToken_36 : decode cX11_scanToken 36 = .ok (.iload_n 2, 1) := by decide +kernel
theorem dX11_scanToken_37 : decode cX11_scanToken 37 = .ok (.if_icmp .ge 109, 3) := by decide +kernel
theorem dX11_scanToken_40 : decode cX11_scanToken 40 = .ok (.aload_n 0, 1) := by decide +kernel
theorem dX11_scanToken_41 : decode cX11_scanToken 41 = .ok (.getfield 40, 3) := by decide +kernel
theorem dX11_scanToken_44 : decode cX11_scanToken 44 = .ok (.iload_n 3, 1) := by decide +kernel
theorem dX11_scanToken_45 : decode cX11_scanToken 45 = .ok (.baload, 1) := by decide +kernel
theorem dX11_scanToken_46 : decode cX11_scanToken 46 = .ok (.invokestatic 88, 3) := by decide +kernel
theorem dX11_scanToken_49 : decode cX11_scanToken 49 = .ok (.ifCond .eq 97, 3) := by decide +kernel
theorem dX11_scanToken_52 : decode cX11_scanToken 52 = .ok (.iload 4, 2) := by decide +kernel
theorem dX11_scanToken_54 : decode cX11_scanToken 54 = .ok (.bipush 10, 2) := by decide +kernel
theorem dX11_scanToken_56 : decode cX11_scanToken 56 = .ok (.imul, 1) := by decide +kernel
theorem dX11_scanToken_57 : decode cX11_scanToken 57 = .ok (.aload_n 0, 1) := by decide +kernel
theorem dX11_scanToken_58 : decode cX11_scanToken 58 = .ok (.getfield 40, 3) := by decide +kernel
theorem dX11_scanToken_61 : decode cX11_scanToken 61 = .ok (.iload_n 3, 1) := by decide +kernel
theorem dX11_scanToken_62 : decode cX11_scanToken 62 = .ok (.baload, 1) := by decide +kernel
theorem dX11_scanToken_63 : decode cX11_scanToken 63 = .ok (.iadd, 1) := by decide +kernel
theorem dX11_scanToken_64 : decode cX11_scanToken 64 = .ok (.bipush 48, 2) := by decide +kernel
theorem dX11_scanToken_66 : decode cX11_scanToken 66 = .ok (.isub, 1) := by decide +kernel
theorem dX11_scanToken_67 : decode cX11_scanToken 67 = .ok (.ldc 92, 2) := by decide +kernel
theorem dX11_scanToken_69 : decode cX11_scanToken 69 = .ok (.invokestatic 48, 3) := by decide +kernel
theorem dX11_scanToken_72 : decode cX11_scanToken 72 = .ok (.istore 4, 2) := by decide +kernel
theorem dX11_scanToken_74 : decode cX11_scanToken 74 = .ok (.iinc 3 1, 3) := by decide +kernel
theorem dX11_scanToken_77 : decode cX11_scanToken 77 = .ok (.goto (-42), 3) := by decide +kernel
theorem dX11_scanToken_80 : decode cX11_scanToken 80 = .ok (.aload_n 0, 1) := by decide +kernel
theorem dX11_scanToken_81 : decode cX11_scanToken 81 = .ok (.getfield 40, 3) := by decide +kernel
theorem dX11_scanToken_84 : decode cX11_scanToken 84 = .ok (.iload_n 1, 1) := by decide +kernel
theorem dX11_scanToken_85 : decode cX11_scanToken 85 = .ok (.baload, 1) := by decide +kernel
theorem dX11_scanToken_86 : decode cX11_scanToken 86 = .ok (.invokestatic 93, 3) := by decide +kernel
theorem dX11_scanToken_89 : decode cX11_scanToken 89 = .ok (.ifCond .eq 43, 3) := by decide +kernel
theorem dX11_scanToken_92 : decode cX11_scanToken 92 = .ok (.iload_n 3, 1) := by decide +kernel
theorem dX11_scanToken_93 : decode cX11_scanToken 93 = .ok (.iload_n 2, 1) := by decide +kernel
theorem dX11_scanToken_94 : decode cX11_scanToken 94 = .ok (.if_icmp .ge 21, 3) := by decide +kernel
theorem dX11_scanToken_97 : decode cX11_scanToken 97 = .ok (.aload_n 0, 1) := by decide +kernel
theorem dX11_scanToken_98 : decode cX11_scanToken 98 = .ok (.getfield 40, 3) := by decide +kernel
theorem dX11_scanToken_101 : decode cX11_scanToken 101 = .ok (.iload_n 3, 1) := by decide +kernel
theorem dX11_scanToken_102 : decode cX11_scanToken 102 = .ok (.baload, 1) := by decide +kernel
theorem dX11_scanToken_103 : decode cX11_scanToken 103 = .ok (.invokestatic 93, 3) := by decide +kernel
theorem dX11_scanToken_106 : decode cX11_scanToken 106 = .ok (.ifCond .eq 9, 3) := by decide +kernel
theorem dX11_scanToken_109 : decode cX11_scanToken 109 = .ok (.iinc 3 1, 3) := by decide +kernel
theorem dX11_scanToken_112 : decode cX11_scanToken 112 = .ok (.goto (-20), 3) := by decide +kernel
theorem dX11_scanToken_115 : decode cX11_scanToken 115 = .ok (.aload_n 0, 1) := by decide +kernel
theorem dX11_scanToken_116 : decode cX11_scanToken 116 = .ok (.getfield 40, 3) := by decide +kernel
theorem dX11_scanToken_119 : decode cX11_scanToken 119 = .ok (.iload_n 1, 1) := by decide +kernel
theorem dX11_scanToken_120 : decode cX11_scanToken 120 = .ok (.iload_n 3, 1) := by decide +kernel
theorem dX11_scanToken_121 : decode cX11_scanToken 121 = .ok (.getstatic 96, 3) := by decide +kernel
theorem dX11_scanToken_124 : decode cX11_scanToken 124 = .ok (.invokestatic 99, 3) := by decide +kernel
theorem dX11_scanToken_127 : decode cX11_scanToken 127 = .ok (.astore 5, 2) := by decide +kernel
theorem dX11_scanToken_129 : decode cX11_scanToken 129 = .ok (.goto 17, 3) := by decide +kernel
theorem dX11_scanToken_132 : decode cX11_scanToken 132 = .ok (.aload_n 0, 1) := by decide +kernel
theorem dX11_scanToken_133 : decode cX11_scanToken 133 = .ok (.getfield 40, 3) := by decide +kernel
theorem dX11_scanToken_136 : decode cX11_scanToken 136 = .ok (.iload_n 1, 1) := by decide +kernel
theorem dX11_scanToken_137 : decode cX11_scanToken 137 = .ok (.iload_n 3, 1) := by decide +kernel
theorem dX11_scanToken_138 : decode cX11_scanToken 138 = .ok (.getstatic 103, 3) := by decide +kernel
theorem dX11_scanToken_141 : decode cX11_scanToken 141 = .ok (.invokestatic 99, 3) := by decide +kernel
theorem dX11_scanToken_144 : decode cX11_scanToken 144 = .ok (.astore 5, 2) := by decide +kernel
theorem dX11_scanToken_146 : decode cX11_scanToken 146 = .ok (.aload_n 0, 1) := by decide +kernel
theorem dX11_scanToken_147 : decode cX11_scanToken 147 = .ok (.getfield 11, 3) := by decide +kernel
theorem dX11_scanToken_150 : decode cX11_scanToken 150 = .ok (.aload_n 0, 1) := by decide +kernel
theorem dX11_scanToken_151 : decode cX11_scanToken 151 = .ok (.getfield 27, 3) := by decide +kernel
theorem dX11_scanToken_154 : decode cX11_scanToken 154 = .ok (.aload 5, 2) := by decide +kernel
theorem dX11_scanToken_156 : decode cX11_scanToken 156 = .ok (.aastore, 1) := by decide +kernel
theorem dX11_scanToken_157 : decode cX11_scanToken 157 = .ok (.aload_n 0, 1) := by decide +kernel
theorem dX11_scanToken_158 : decode cX11_scanToken 158 = .ok (.getfield 17, 3) := by decide +kernel
theorem dX11_scanToken_161 : decode cX11_scanToken 161 = .ok (.aload_n 0, 1) := by decide +kernel
theorem dX11_scanToken_162 : decode cX11_scanToken 162 = .ok (.getfield 27, 3) := by decide +kernel
theorem dX11_scanToken_165 : decode cX11_scanToken 165 = .ok (.iload_n 1, 1) := by decide +kernel
theorem dX11_scanToken_166 : decode cX11_scanToken 166 = .ok (.iastore, 1) := by decide +kernel
theorem dX11_scanToken_167 : decode cX11_scanToken 167 = .ok (.aload_n 0, 1) := by decide +kernel
theorem dX11_scanToken_168 : decode cX11_scanToken 168 = .ok (.getfield 21, 3) := by decide +kernel
theorem dX11_scanToken_171 : decode cX11_scanToken 171 = .ok (.aload_n 0, 1) := by decide +kernel
theorem dX11_scanToken_172 : decode cX11_scanToken 172 = .ok (.getfield 27, 3) := by decide +kernel
theorem dX11_scanToken_175 : decode cX11_scanToken 175 = .ok (.iload_n 3, 1) := by decide +kernel
theorem dX11_scanToken_176 : decode cX11_scanToken 176 = .ok (.iastore, 1) := by decide +kernel
theorem dX11_scanToken_177 : decode cX11_scanToken 177 = .ok (.aload_n 0, 1) := by decide +kernel
theorem dX11_scanToken_178 : decode cX11_scanToken 178 = .ok (.getfield 24, 3) := by decide +kernel
theorem dX11_scanToken_181 : decode cX11_scanToken 181 = .ok (.aload_n 0, 1) := by decide +kernel
theorem dX11_scanToken_182 : decode cX11_scanToken 182 = .ok (.getfield 27, 3) := by decide +kernel
theorem dX11_scanToken_185 : decode cX11_scanToken 185 = .ok (.iload 4, 2) := by decide +kernel
theorem dX11_scanToken_187 : decode cX11_scanToken 187 = .ok (.iastore, 1) := by decide +kernel
theorem dX11_scanToken_188 : decode cX11_scanToken 188 = .ok (.aload_n 0, 1) := by decide +kernel
theorem dX11_scanToken_189 : decode cX11_scanToken 189 = .ok (.dup, 1) := by decide +kernel
theorem dX11_scanToken_190 : decode cX11_scanToken 190 = .ok (.getfield 27, 3) := by decide +kernel
theorem dX11_scanToken_193 : decode cX11_scanToken 193 = .ok (.iconst 1, 1) := by decide +kernel
theorem dX11_scanToken_194 : decode cX11_scanToken 194 = .ok (.iadd, 1) := by decide +kernel
theorem dX11_scanToken_195 : decode cX11_scanToken 195 = .ok (.putfield 27, 3) := by decide +kernel
theorem dX11_scanToken_198 : decode cX11_scanToken 198 = .ok (.iload_n 3, 1) := by decide +kernel
theorem dX11_scanToken_199 : decode cX11_scanToken 199 = .ok (.ireturn, 1) := by decide +kernel
theorem dX11_isLetter_0 : decode cX11_isLetter 0 = .ok (.iload_n 0, 1) := by decide +kernel
theorem dX11_isLetter_1 : decode cX11_isLetter 1 = .ok (.bipush 97, 2) := by decide +kernel
theorem dX11_isLetter_3 : decode cX11_isLetter 3 = .ok (.if_icmp .lt 13, 3) := by decide +kernel
theorem dX11_isLetter_6 : decode cX11_isLetter 6 = .ok (.iload_n 0, 1) := by decide +kernel
theorem dX11_isLetter_7 : decode cX11_isLetter 7 = .ok (.bipush 122, 2) := by decide +kernel
theorem dX11_isLetter_9 : decode cX11_isLetter 9 = .ok (.if_icmp .gt 7, 3) := by decide +kernel
theorem dX11_isLetter_12 : decode cX11_isLetter 12 = .ok (.iconst 1, 1) := by decide +kernel
theorem dX11_isLetter_13 : decode cX11_isLetter 13 = .ok (.goto 4, 3) := by decide +kernel
theorem dX11_isLetter_16 : decode cX11_isLetter 16 = .ok (.iconst 0, 1) := by decide +kernel
theorem dX11_isLetter_17 : decode cX11_isLetter 17 = .ok (.ireturn, 1) := by decide +kernel
theorem dX11_isDigit_0 : decode cX11_isDigit 0 = .ok (.iload_n 0, 1) := by decide +kernel
theorem dX11_isDigit_1 : decode cX11_isDigit 1 = .ok (.bipush 48, 2) := by decide +kernel
theorem dX11_isDigit_3 : decode cX11_isDigit 3 = .ok (.if_icmp .lt 13, 3) := by decide +kernel
theorem dX11_isDigit_6 : decode cX11_isDigit 6 = .ok (.iload_n 0, 1) := by decide +kernel
theorem dX11_isDigit_7 : decode cX11_isDigit 7 = .ok (.bipush 57, 2) := by decide +kernel
theorem dX11_isDigit_9 : decode cX11_isDigit 9 = .ok (.if_icmp .gt 7, 3) := by decide +kernel
theorem dX11_isDigit_12 : decode cX11_isDigit 12 = .ok (.iconst 1, 1) := by decide +kernel
theorem dX11_isDigit_13 : decode cX11_isDigit 13 = .ok (.goto 4, 3) := by decide +kernel
theorem dX11_isDigit_16 : decode cX11_isDigit 16 = .ok (.iconst 0, 1) := by decide +kernel
theorem dX11_isDigit_17 : decode cX11_isDigit 17 = .ok (.ireturn, 1) := by decide +kernel
theorem dX12_init_0 : decode cX12_init 0 = .ok (.aload_n 0, 1) := by decide +kernel
theorem dX12_init_1 : decode cX12_init 1 = .ok (.invokespecial 1, 3) := by decide +kernel
theorem dX12_init_4 : decode cX12_init 4 = .ok (.aload_n 0, 1) := by decide +kernel
theorem dX12_init_5 : decode cX12_init 5 = .ok (.sipush 1000, 3) := by decide +kernel
theorem dX12_init_8 : decode cX12_init 8 = .ok (.newarray .byte, 2) := by decide +kernel
theorem dX12_init_10 : decode cX12_init 10 = .ok (.putfield 9, 3) := by decide +kernel
theorem dX12_init_13 : decode cX12_init 13 = .ok (.aload_n 0, 1) := by decide +kernel
theorem dX12_init_14 : decode cX12_init 14 = .ok (.iconst 0, 1) := by decide +kernel
theorem dX12_init_15 : decode cX12_init 15 = .ok (.putfield 13, 3) := by decide +kernel
theorem dX12_init_18 : decode cX12_init 18 = .ok (.aload_n 0, 1) := by decide +kernel
theorem dX12_init_19 : decode cX12_init 19 = .ok (.iconst (-1), 1) := by decide +kernel
theorem dX12_init_20 : decode cX12_init 20 = .ok (.putfield 17, 3) := by decide +kernel
theorem dX12_init_23 : decode cX12_init 23 = .ok (.aload_n 0, 1) := by decide +kernel
theorem dX12_init_24 : decode cX12_init 24 = .ok (.new 20, 3) := by decide +kernel
theorem dX12_init_27 : decode cX12_init 27 = .ok (.dup, 1) := by decide +kernel
theorem dX12_init_28 : decode cX12_init 28 = .ok (.aload_n 0, 1) := by decide +kernel
theorem dX12_init_29 : decode cX12_init 29 = .ok (.getfield 9, 3) := by decide +kernel
theorem dX12_init_32 : decode cX12_init 32 = .ok (.invokespecial 22, 3) := by decide +kernel
theorem dX12_init_35 : decode cX12_init 35 = .ok (.putfield 25, 3) := by decide +kernel
theorem dX12_init_38 : decode cX12_init 38 = .ok (.aload_n 0, 1) := by decide +kernel
theorem dX12_init_39 : decode cX12_init 39 = .ok (.new 29, 3) := by decide +kernel
theorem dX12_init_42 : decode cX12_init 42 = .ok (.dup, 1) := by decide +kernel
theorem dX12_init_43 : decode cX12_init 43 = .ok (.invokespecial 31, 3) := by decide +kernel
theorem dX12_init_46 : decode cX12_init 46 = .ok (.putfield 32, 3) := by decide +kernel
theorem dX12_init_49 : decode cX12_init 49 = .ok (.aload_n 0, 1) := by decide +kernel
theorem dX12_init_50 : decode cX12_init 50 = .ok (.new 29, 3) := by decide +kernel
theorem dX12_init_53 : decode cX12_init 53 = .ok (.dup, 1) := by decide +kernel
theorem dX12_init_54 : decode cX12_init 54 = .ok (.invokespecial 31, 3) := by decide +kernel
theorem dX12_init_57 : decode cX12_init 57 = .ok (.putfield 36, 3) := by decide +kernel
theorem dX12_init_60 : decode cX12_init 60 = .ok (.aload_n 0, 1) := by decide +kernel
theorem dX12_init_61 : decode cX12_init 61 = .ok (.new 39, 3) := by decide +kernel
theorem dX12_init_64 : decode cX12_init 64 = .ok (.dup, 1) := by decide +kernel
theorem dX12_init_65 : decode cX12_init 65 = .ok (.aload_n 0, 1) := by decide +kernel
theorem dX12_init_66 : decode cX12_init 66 = .ok (.getfield 25, 3) := by decide +kernel
theorem dX12_init_69 : decode cX12_init 69 = .ok (.aload_n 0, 1) := by decide +kernel
theorem dX12_init_70 : decode cX12_init 70 = .ok (.getfield 36, 3) := by decide +kernel
theorem dX12_init_73 : decode cX12_init 73 = .ok (.invokespecial 41, 3) := by decide +kernel
theorem dX12_init_76 : decode cX12_init 76 = .ok (.putfield 44, 3) := by decide +kernel
theorem dX12_init_79 : decode cX12_init 79 = .ok (.aload_n 0, 1) := by decide +kernel
theorem dX12_init_80 : decode cX12_init 80 = .ok (.new 48, 3) := by decide +kernel
theorem dX12_init_83 : decode cX12_init 83 = .ok (.dup, 1) := by decide +kernel
theorem dX12_init_84 : decode cX12_init 84 = .ok (.invokespecial 50, 3) := by decide +kernel
theorem dX12_init_87 : decode cX12_init 87 = .ok (.putfield 51, 3) := by decide +kernel
theorem dX12_init_90 : decode cX12_init 90 = .ok (.aload_n 0, 1) := by decide +kernel
theorem dX12_init_91 : decode cX12_init 91 = .ok (.new 48, 3) := by decide +kernel
theorem dX12_init_94 : decode cX12_init 94 = .ok (.dup, 1) := by decide +kernel
theorem dX12_init_95 : decode cX12_init 95 = .ok (.invokespecial 50, 3) := by decide +kernel
theorem dX12_init_98 : decode cX12_init 98 = .ok (.putfield 55, 3) := by decide +kernel
theorem dX12_init_101 : decode cX12_init 101 = .ok (.aload_n 0, 1) := by decide +kernel
theorem dX12_init_102 : decode cX12_init 102 = .ok (.new 58, 3) := by decide +kernel
theorem dX12_init_105 : decode cX12_init 105 = .ok (.dup, 1) := by decide +kernel
theorem dX12_init_106 : decode cX12_init 106 = .ok (.aload_n 0, 1) := by decide +kernel
theorem dX12_init_107 : decode cX12_init 107 = .ok (.getfield 32, 3) := by decide +kernel
theorem dX12_init_110 : decode cX12_init 110 = .ok (.aload_n 0, 1) := by decide +kernel
theorem dX12_init_111 : decode cX12_init 111 = .ok (.getfield 51, 3) := by decide +kernel
theorem dX12_init_114 : decode cX12_init 114 = .ok (.invokespecial 60, 3) := by decide +kernel
theorem dX12_init_117 : decode cX12_init 117 = .ok (.putfield 63, 3) := by decide +kernel
theorem dX12_init_120 : decode cX12_init 120 = .ok (.aload_n 0, 1) := by decide +kernel
theorem dX12_init_121 : decode cX12_init 121 = .ok (.new 67, 3) := by decide +kernel
theorem dX12_init_124 : decode cX12_init 124 = .ok (.dup, 1) := by decide +kernel
theorem dX12_init_125 : decode cX12_init 125 = .ok (.aload_n 0, 1) := by decide +kernel
theorem dX12_init_126 : decode cX12_init 126 = .ok (.getfield 25, 3) := by decide +kernel
theorem dX12_init_129 : decode cX12_init 129 = .ok (.aload_n 0, 1) := by decide +kernel
theorem dX12_init_130 : decode cX12_init 130 = .ok (.getfield 51, 3) := by decide +kernel
theorem dX12_init_133 : decode cX12_init 133 = .ok (.invokespecial 69, 3) := by decide +kernel
theorem dX12_init_136 : decode cX12_init 136 = .ok (.putfield 72, 3) := by decide +kernel
theorem dX12_init_139 : decode cX12_init 139 = .ok (.aload_n 0, 1) := by decide +kernel
theorem dX12_init_140 : decode cX12_init 140 = .ok (.new 48, 3) := by decide +kernel
theorem dX12_init_143 : decode cX12_init 143 = .ok (.dup, 1) := by decide +kernel
theorem dX12_init_144 : decode cX12_init 144 = .ok (.invokespecial 50, 3) := by decide +kernel
theorem dX12_init_147 : decode cX12_init 147 = .ok (.putfield 76, 3) := by decide +kernel
theorem dX12_init_150 : decode cX12_init 150 = .ok (.aload_n 0, 1) := by decide +kernel
theorem dX12_init_151 : decode cX12_init 151 = .ok (.iconst 0, 1) := by decide +kernel
theorem dX12_init_152 : decode cX12_init 152 = .ok (.putfield 79, 3) := by decide +kernel
theorem dX12_init_155 : decode cX12_init 155 = .ok (.aload_n 0, 1) := by decide +kernel
theorem dX12_init_156 : decode cX12_init 156 = .ok (.bipush 10, 2) := by decide +kernel
theorem dX12_init_158 : decode cX12_init 158 = .ok (.anewarray 48, 3) := by decide +kernel
theorem dX12_init_161 : decode cX12_init 161 = .ok (.putfield 83, 3) := by decide +kernel
theorem dX12_init_164 : decode cX12_init 164 = .ok (.aload_n 0, 1) := by decide +kernel
theorem dX12_init_165 : decode cX12_init 165 = .ok (.iconst 0, 1) := by decide +kernel
theorem dX12_init_166 : decode cX12_init 166 = .ok (.putfield 87, 3) := by decide +kernel
theorem dX12_init_169 : decode cX12_init 169 = .ok (.aload_n 0, 1) := by decide +kernel
theorem dX12_init_170 : decode cX12_init 170 = .ok (.iconst 0, 1) := by decide +kernel
theorem dX12_init_171 : decode cX12_init 171 = .ok (.putfield 90, 3) := by decide +kernel
theorem dX12_init_174 : decode cX12_init 174 = .ok (.aload_n 0, 1) := by decide +kernel
theorem dX12_init_175 : decode cX12_init 175 = .ok (.new 93, 3) := by decide +kernel
theorem dX12_init_178 : decode cX12_init 178 = .ok (.dup, 1) := by decide +kernel
theorem dX12_init_179 : decode cX12_init 179 = .ok (.invokespecial 95, 3) := by decide +kernel
theorem dX12_init_182 : decode cX12_init 182 = .ok (.putfield 96, 3) := by decide +kernel
theorem dX12_init_185 : decode cX12_init 185 = .ok (.iconst 0, 1) := by decide +kernel
theorem dX12_init_186 : decode cX12_init 186 = .ok (.istore_n 1, 1) := by decide +kernel
theorem dX12_init_187 : decode cX12_init 187 = .ok (.iload_n 1, 1) := by decide +kernel
theorem dX12_init_188 : decode cX12_init 188 = .ok (.bipush 10, 2) := by decide +kernel
theorem dX12_init_190 : decode cX12_init 190 = .ok (.if_icmp .ge 22, 3) := by decide +kernel
theorem dX12_init_193 : decode cX12_init 193 = .ok (.aload_n 0, 1) := by decide +kernel
theorem dX12_init_194 : decode cX12_init 194 = .ok (.getfield 83, 3) := by decide +kernel
theorem dX12_init_197 : decode cX12_init 197 = .ok (.iload_n 1, 1) := by decide +kernel
theorem dX12_init_198 : decode cX12_init 198 = .ok (.new 48, 3) := by decide +kernel
theorem dX12_init_201 : decode cX12_init 201 = .ok (.dup, 1) := by decide +kernel
theorem dX12_init_202 : decode cX12_init 202 = .ok (.invokespecial 50, 3) := by decide +kernel
theorem dX12_init_205 : decode cX12_init 205 = .ok (.aastore, 1) := by decide +kernel
theorem dX12_init_206 : decode cX12_init 206 = .ok (.iinc 1 1, 3) := by decide +kernel
theorem dX12_init_209 : decode cX12_init 209 = .ok (.goto (-22), 3) := by decide +kernel
theorem dX12_init_212 : decode cX12_init 212 = .ok (.aload_n 0, 1) := by decide +kernel
theorem dX12_init_213 : decode cX12_init 213 = .ok (.getfield 51, 3) := by decide +kernel
theorem dX12_init_216 : decode cX12_init 216 = .ok (.aload_n 0, 1) := by decide +kernel
theorem dX12_init_217 : decode cX12_init 217 = .ok (.getfield 32, 3) := by decide +kernel
theorem dX12_init_220 : decode cX12_init 220 = .ok (.invokevirtual 100, 3) := by decide +kernel
theorem dX12_init_223 : decode cX12_init 223 = .ok (.return_, 1) := by decide +kernel
theorem dX12_feed_0 : decode cX12_feed 0 = .ok (.aload_n 0, 1) := by decide +kernel
theorem dX12_feed_1 : decode cX12_feed 1 = .ok (.getfield 13, 3) := by decide +kernel
theorem dX12_feed_4 : decode cX12_feed 4 = .ok (.bipush 20, 2) := by decide +kernel
theorem dX12_feed_6 : decode cX12_feed 6 = .ok (.iadd, 1) := by decide +kernel
theorem dX12_feed_7 : decode cX12_feed 7 = .ok (.sipush 1000, 3) := by decide +kernel
theorem dX12_feed_10 : decode cX12_feed 10 = .ok (.if_icmp .le 5, 3) := by decide +kernel
theorem dX12_feed_13 : decode cX12_feed 13 = .ok (.iconst (-1), 1) := by decide +kernel
theorem dX12_feed_14 : decode cX12_feed 14 = .ok (.ireturn, 1) := by decide +kernel
theorem dX12_feed_15 : decode cX12_feed 15 = .ok (.aload_n 0, 1) := by decide +kernel
theorem dX12_feed_16 : decode cX12_feed 16 = .ok (.iload_n 1, 1) := by decide +kernel
theorem dX12_feed_17 : decode cX12_feed 17 = .ok (.invokevirtual 104, 3) := by decide +kernel
theorem dX12_feed_20 : decode cX12_feed 20 = .ok (.aload_n 0, 1) := by decide +kernel
theorem dX12_feed_21 : decode cX12_feed 21 = .ok (.iload_n 2, 1) := by decide +kernel
theorem dX12_feed_22 : decode cX12_feed 22 = .ok (.invokevirtual 104, 3) := by decide +kernel
theorem dX12_feed_25 : decode cX12_feed 25 = .ok (.aload_n 0, 1) := by decide +kernel
theorem dX12_feed_26 : decode cX12_feed 26 = .ok (.iload_n 3, 1) := by decide +kernel
theorem dX12_feed_27 : decode cX12_feed 27 = .ok (.invokevirtual 104, 3) := by decide +kernel
theorem dX12_feed_30 : decode cX12_feed 30 = .ok (.aload_n 0, 1) := by decide +kernel
theorem dX12_feed_31 : decode cX12_feed 31 = .ok (.iload 4, 2) := by decide +kernel
theorem dX12_feed_33 : decode cX12_feed 33 = .ok (.invokevirtual 104, 3) := by decide +kernel
theorem dX12_feed_36 : decode cX12_feed 36 = .ok (.aload_n 0, 1) := by decide +kernel
theorem dX12_feed_37 : decode cX12_feed 37 = .ok (.iload 5, 2) := by decide +kernel
theorem dX12_feed_39 : decode cX12_feed 39 = .ok (.invokevirtual 104, 3) := by decide +kernel
theorem dX12_feed_42 : decode cX12_feed 42 = .ok (.aload_n 0, 1) := by decide +kernel
theorem dX12_feed_43 : decode cX12_feed 43 = .ok (.getfield 13, 3) := by decide +kernel
theorem dX12_feed_46 : decode cX12_feed 46 = .ok (.ireturn, 1) := by decide +kernel
theorem dX12_load_0 : decode cX12_load 0 = .ok (.iload_n 1, 1) := by decide +kernel
theorem dX12_load_1 : decode cX12_load 1 = .ok (.ifCond .lt 11, 3) := by decide +kernel
theorem dX12_load_4 : decode cX12_load 4 = .ok (.iload_n 1, 1) := by decide +kernel
theorem dX12_load_5 : decode cX12_load 5 = .ok (.aload_n 0, 1) := by decide +kernel
theorem dX12_load_6 : decode cX12_load 6 = .ok (.getfield 13, 3) := by decide +kernel
theorem dX12_load_9 : decode cX12_load 9 = .ok (.if_icmp .le 11, 3) := by decide +kernel
theorem dX12_load_12 : decode cX12_load 12 = .ok (.new 108, 3) := by decide +kernel
theorem dX12_load_15 : decode cX12_load 15 = .ok (.dup, 1) := by decide +kernel
theorem dX12_load_16 : decode cX12_load 16 = .ok (.invokespecial 110, 3) := by decide +kernel
theorem dX12_load_19 : decode cX12_load 19 = .ok (.athrow, 1) := by decide +kernel
theorem dX12_load_20 : decode cX12_load 20 = .ok (.aload_n 0, 1) := by decide +kernel
theorem dX12_load_21 : decode cX12_load 21 = .ok (.iconst 0, 1) := by decide +kernel
theorem dX12_load_22 : decode cX12_load 22 = .ok (.putfield 13, 3) := by decide +kernel
theorem dX12_load_25 : decode cX12_load 25 = .ok (.aload_n 0, 1) := by decide +kernel
theorem dX12_load_26 : decode cX12_load 26 = .ok (.getfield 25, 3) := by decide +kernel
theorem dX12_load_29 : decode cX12_load 29 = .ok (.iload_n 1, 1) := by decide +kernel
theorem dX12_load_30 : decode cX12_load 30 = .ok (.invokevirtual 111, 3) := by decide +kernel
theorem dX12_load_33 : decode cX12_load 33 = .ok (.aload_n 0, 1) := by decide +kernel
theorem dX12_load_34 : decode cX12_load 34 = .ok (.getfield 44, 3) := by decide +kernel
theorem dX12_load_37 : decode cX12_load 37 = .ok (.aload_n 0, 1) := by decide +kernel
theorem dX12_load_38 : decode cX12_load 38 = .ok (.getfield 36, 3) := by decide +kernel
theorem dX12_load_41 : decode cX12_load 41 = .ok (.invokevirtual 114, 3) := by decide +kernel
theorem dX12_load_44 : decode cX12_load 44 = .ok (.aload_n 0, 1) := by decide +kernel
theorem dX12_load_45 : decode cX12_load 45 = .ok (.aload_n 0, 1) := by decide +kernel
theorem dX12_load_46 : decode cX12_load 46 = .ok (.getfield 25, 3) := by decide +kernel
theorem dX12_load_49 : decode cX12_load 49 = .ok (.getfield 117, 3) := by decide +kernel
theorem dX12_load_52 : decode cX12_load 52 = .ok (.putfield 17, 3) := by decide +kernel
theorem dX12_load_55 : decode cX12_load 55 = .ok (.aload_n 0, 1) := by decide +kernel
theorem dX12_load_56 : decode cX12_load 56 = .ok (.getfield 25, 3) := by decide +kernel
theorem dX12_load_59 : decode cX12_load 59 = .ok (.getfield 120, 3) := by decide +kernel
theorem dX12_load_62 : decode cX12_load 62 = .ok (.ifCond .eq 14, 3) := by decide +kernel
theorem dX12_load_65 : decode cX12_load 65 = .ok (.bipush (-10), 2) := by decide +kernel
theorem dX12_load_67 : decode cX12_load 67 = .ok (.aload_n 0, 1) := by decide +kernel
theorem dX12_load_68 : decode cX12_load 68 = .ok (.getfield 25, 3) := by decide +kernel
theorem dX12_load_71 : decode cX12_load 71 = .ok (.getfield 120, 3) := by decide +kernel
theorem dX12_load_74 : decode cX12_load 74 = .ok (.isub, 1) := by decide +kernel
theorem dX12_load_75 : decode cX12_load 75 = .ok (.ireturn, 1) := by decide +kernel
theorem dX12_load_76 : decode cX12_load 76 = .ok (.aload_n 0, 1) := by decide +kernel
theorem dX12_load_77 : decode cX12_load 77 = .ok (.getfield 32, 3) := by decide +kernel
theorem dX12_load_80 : decode cX12_load 80 = .ok (.astore_n 2, 1) := by decide +kernel
theorem dX12_load_81 : decode cX12_load 81 = .ok (.aload_n 0, 1) := by decide +kernel
theorem dX12_load_82 : decode cX12_load 82 = .ok (.aload_n 0, 1) := by decide +kernel
theorem dX12_load_83 : decode cX12_load 83 = .ok (.getfield 36, 3) := by decide +kernel
theorem dX12_load_86 : decode cX12_load 86 = .ok (.putfield 32, 3) := by decide +kernel
theorem dX12_load_89 : decode cX12_load 89 = .ok (.aload_n 0, 1) := by decide +kernel
theorem dX12_load_90 : decode cX12_load 90 = .ok (.aload_n 2, 1) := by decide +kernel
theorem dX12_load_91 : decode cX12_load 91 = .ok (.putfield 36, 3) := by decide +kernel
theorem dX12_load_94 : decode cX12_load 94 = .ok (.aload_n 0, 1) := by decide +kernel
theorem dX12_load_95 : decode cX12_load 95 = .ok (.getfield 63, 3) := by decide +kernel
theorem dX12_load_98 : decode cX12_load 98 = .ok (.aload_n 0, 1) := by decide +kernel
theorem dX12_load_99 : decode cX12_load 99 = .ok (.getfield 32, 3) := by decide +kernel
theorem dX12_load_102 : decode cX12_load 102 = .ok (.putfield 123, 3) := by decide +kernel
theorem dX12_load_105 : decode cX12_load 105 = .ok (.aload_n 0, 1) := by decide +kernel
theorem dX12_load_106 : decode cX12_load 106 = .ok (.getfield 51, 3) := by decide +kernel
theorem dX12_load_109 : decode cX12_load 109 = .ok (.aload_n 0, 1) := by decide +kernel
theorem dX12_load_110 : decode cX12_load 110 = .ok (.getfield 32, 3) := by decide +kernel
theorem dX12_load_113 : decode cX12_load 113 = .ok (.invokevirtual 100, 3) := by decide +kernel
theorem dX12_load_116 : decode cX12_load 116 = .ok (.aload_n 0, 1) := by decide +kernel
theorem dX12_load_117 : decode cX12_load 117 = .ok (.iconst 0, 1) := by decide +kernel
theorem dX12_load_118 : decode cX12_load 118 = .ok (.putfield 90, 3) := by decide +kernel
theorem dX12_load_121 : decode cX12_load 121 = .ok (.aload_n 0, 1) := by decide +kernel
theorem dX12_load_122 : decode cX12_load 122 = .ok (.iconst 0, 1) := by decide +kernel
theorem dX12_load_123 : decode cX12_load 123 = .ok (.putfield 79, 3) := by decide +kernel
theorem dX12_load_126 : decode cX12_load 126 = .ok (.aload_n 0, 1) := by decide +kernel
theorem dX12_load_127 : decode cX12_load 127 = .ok (.getfield 32, 3) := by decide +kernel
theorem dX12_load_130 : decode cX12_load 130 = .ok (.getfield 124, 3) := by decide +kernel
theorem dX12_load_133 : decode cX12_load 133 = .ok (.ireturn, 1) := by decide +kernel
theorem dX12_errorPosition_0 : decode cX12_errorPosition 0 = .ok (.aload_n 0, 1) := by decide +kernel
theorem dX12_errorPosition_1 : decode cX12_errorPosition 1 = .ok (.getfield 17, 3) := by decide +kernel
theorem dX12_errorPosition_4 : decode cX12_errorPosition 4 = .ok (.ireturn, 1) := by decide +kernel
theorem dX12_instructionCount_0 : decode cX12_instructionCount 0 = .ok (.aload_n 0, 1) := by decide +kernel
theorem dX12_instructionCount_1 : decode cX12_instructionCount 1 = .ok (.getfield 32, 3) := by decide +kernel
theorem dX12_instructionCount_4 : decode cX12_instructionCount 4 = .ok (.getfield 124, 3) := by decide +kernel
theorem dX12_instructionCount_7 : decode cX12_instructionCount 7 = .ok (.ireturn, 1) := by decide +kernel
theorem dX12_engines_0 : decode cX12_engines 0 = .ok (.aload_n 0, 1) := by decide +kernel
theorem dX12_engines_1 : decode cX12_engines 1 = .ok (.getfield 32, 3) := by decide +kernel
theorem dX12_engines_4 : decode cX12_engines 4 = .ok (.invokevirtual 127, 3) := by decide +kernel
theorem dX12_engines_7 : decode cX12_engines 7 = .ok (.ireturn, 1) := by decide +kernel
theorem dX12_clock_0 : decode cX12_clock 0 = .ok (.aload_n 0, 1) := by decide +kernel
theorem dX12_clock_1 : decode cX12_clock 1 = .ok (.getfield 51, 3) := by decide +kernel
theorem dX12_clock_4 : decode cX12_clock 4 = .ok (.getfield 131, 3) := by decide +kernel
theorem dX12_clock_7 : decode cX12_clock 7 = .ok (.ireturn, 1) := by decide +kernel
theorem dX12_level_0 : decode cX12_level 0 = .ok (.iload_n 1, 1) := by decide +kernel
theorem dX12_level_1 : decode cX12_level 1 = .ok (.invokestatic 134, 3) := by decide +kernel
theorem dX12_level_4 : decode cX12_level 4 = .ok (.aload_n 0, 1) := by decide +kernel
theorem dX12_level_5 : decode cX12_level 5 = .ok (.getfield 51, 3) := by decide +kernel
theorem dX12_level_8 : decode cX12_level 8 = .ok (.invokevirtual 137, 3) := by decide +kernel
theorem dX12_level_11 : decode cX12_level 11 = .ok (.iload_n 1, 1) := by decide +kernel
theorem dX12_level_12 : decode cX12_level 12 = .ok (.ishr, 1) := by decide +kernel
theorem dX12_level_13 : decode cX12_level 13 = .ok (.iconst 1, 1) := by decide +kernel
theorem dX12_level_14 : decode cX12_level 14 = .ok (.iand, 1) := by decide +kernel
theorem dX12_level_15 : decode cX12_level 15 = .ok (.ireturn, 1) := by decide +kernel
theorem dX12_latch_0 : decode cX12_latch 0 = .ok (.iload_n 1, 1) := by decide +kernel
theorem dX12_latch_1 : decode cX12_latch 1 = .ok (.invokestatic 134, 3) := by decide +kernel
theorem dX12_latch_4 : decode cX12_latch 4 = .ok (.aload_n 0, 1) := by decide +kernel
theorem dX12_latch_5 : decode cX12_latch 5 = .ok (.getfield 51, 3) := by decide +kernel
theorem dX12_latch_8 : decode cX12_latch 8 = .ok (.getfield 140, 3) := by decide +kernel
theorem dX12_latch_11 : decode cX12_latch 11 = .ok (.iload_n 1, 1) := by decide +kernel
theorem dX12_latch_12 : decode cX12_latch 12 = .ok (.ishr, 1) := by decide +kernel
theorem dX12_latch_13 : decode cX12_latch 13 = .ok (.iconst 1, 1) := by decide +kernel
theorem dX12_latch_14 : decode cX12_latch 14 = .ok (.iand, 1) := by decide +kernel
theorem dX12_latch_15 : decode cX12_latch 15 = .ok (.ireturn, 1) := by decide +kernel
theorem dX12_isOutput_0 : decode cX12_isOutput 0 = .ok (.iload_n 1, 1) := by decide +kernel
theorem dX12_isOutput_1 : decode cX12_isOutput 1 = .ok (.invokestatic 134, 3) := by decide +kernel
theorem dX12_isOutput_4 : decode cX12_isOutput 4 = .ok (.aload_n 0, 1) := by decide +kernel
theorem dX12_isOutput_5 : decode cX12_isOutput 5 = .ok (.getfield 51, 3) := by decide +kernel
theorem dX12_isOutput_8 : decode cX12_isOutput 8 = .ok (.getfield 143, 3) := by decide +kernel
theorem dX12_isOutput_11 : decode cX12_isOutput 11 = .ok (.iload_n 1, 1) := by decide +kernel
theorem dX12_isOutput_12 : decode cX12_isOutput 12 = .ok (.ishr, 1) := by decide +kernel
theorem dX12_isOutput_13 : decode cX12_isOutput 13 = .ok (.iconst 1, 1) := by decide +kernel
theorem dX12_isOutput_14 : decode cX12_isOutput 14 = .ok (.iand, 1) := by decide +kernel
theorem dX12_isOutput_15 : decode cX12_isOutput 15 = .ok (.iconst 1, 1) := by decide +kernel
theorem dX12_isOutput_16 : decode cX12_isOutput 16 = .ok (.if_icmp .ne 7, 3) := by decide +kernel
theorem dX12_isOutput_19 : decode cX12_isOutput 19 = .ok (.iconst 1, 1) := by decide +kernel
theorem dX12_isOutput_20 : decode cX12_isOutput 20 = .ok (.goto 4, 3) := by decide +kernel
theorem dX12_isOutput_23 : decode cX12_isOutput 23 = .ok (.iconst 0, 1) := by decide +kernel
theorem dX12_isOutput_24 : decode cX12_isOutput 24 = .ok (.ireturn, 1) := by decide +kernel
theorem dX12_flag_0 : decode cX12_flag 0 = .ok (.iload_n 1, 1) := by decide +kernel
theorem dX12_flag_1 : decode cX12_flag 1 = .ok (.ifCond .lt 9, 3) := by decide +kernel
theorem dX12_flag_4 : decode cX12_flag 4 = .ok (.iload_n 1, 1) := by decide +kernel
theorem dX12_flag_5 : decode cX12_flag 5 = .ok (.bipush 8, 2) := by decide +kernel
theorem dX12_flag_7 : decode cX12_flag 7 = .ok (.if_icmp .lt 11, 3) := by decide +kernel
theorem dX12_flag_10 : decode cX12_flag 10 = .ok (.new 146, 3) := by decide +kernel
theorem dX12_flag_13 : decode cX12_flag 13 = .ok (.dup, 1) := by decide +kernel
theorem dX12_flag_14 : decode cX12_flag 14 = .ok (.invokespecial 148, 3) := by decide +kernel
theorem dX12_flag_17 : decode cX12_flag 17 = .ok (.athrow, 1) := by decide +kernel
theorem dX12_flag_18 : decode cX12_flag 18 = .ok (.aload_n 0, 1) := by decide +kernel
theorem dX12_flag_19 : decode cX12_flag 19 = .ok (.getfield 51, 3) := by decide +kernel
theorem dX12_flag_22 : decode cX12_flag 22 = .ok (.getfield 149, 3) := by decide +kernel
theorem dX12_flag_25 : decode cX12_flag 25 = .ok (.iload_n 1, 1) := by decide +kernel
theorem dX12_flag_26 : decode cX12_flag 26 = .ok (.ishr, 1) := by decide +kernel
theorem dX12_flag_27 : decode cX12_flag 27 = .ok (.iconst 1, 1) := by decide +kernel
theorem dX12_flag_28 : decode cX12_flag 28 = .ok (.iand, 1) := by decide +kernel
theorem dX12_flag_29 : decode cX12_flag 29 = .ok (.ireturn, 1) := by decide +kernel
theorem dX12_memory_0 : decode cX12_memory 0 = .ok (.iload_n 1, 1) := by decide +kernel
theorem dX12_memory_1 : decode cX12_memory 1 = .ok (.invokestatic 152, 3) := by decide +kernel
theorem dX12_memory_4 : decode cX12_memory 4 = .ok (.aload_n 0, 1) := by decide +kernel
theorem dX12_memory_5 : decode cX12_memory 5 = .ok (.getfield 51, 3) := by decide +kernel
theorem dX12_memory_8 : decode cX12_memory 8 = .ok (.getfield 155, 3) := by decide +kernel
theorem dX12_memory_11 : decode cX12_memory 11 = .ok (.iload_n 1, 1) := by decide +kernel
theorem dX12_memory_12 : decode cX12_memory 12 = .ok (.iaload, 1) := by decide +kernel
theorem dX12_memory_13 : decode cX12_memory 13 = .ok (.ireturn, 1) := by decide +kernel
theorem dX12_portOwner_0 : decode cX12_portOwner 0 = .ok (.aload_n 0, 1) := by decide +kernel
theorem dX12_portOwner_1 : decode cX12_portOwner 1 = .ok (.getfield 51, 3) := by decide +kernel
theorem dX12_portOwner_4 : decode cX12_portOwner 4 = .ok (.getfield 159, 3) := by decide +kernel
theorem dX12_portOwner_7 : decode cX12_portOwner 7 = .ok (.ireturn, 1) := by decide +kernel
theorem dX12_pc_0 : decode cX12_pc 0 = .ok (.aload_n 0, 1) := by decide +kernel
theorem dX12_pc_1 : decode cX12_pc 1 = .ok (.iload_n 1, 1) := by decide +kernel
theorem dX12_pc_2 : decode cX12_pc 2 = .ok (.invokevirtual 162, 3) := by decide +kernel
theorem dX12_pc_5 : decode cX12_pc 5 = .ok (.getfield 166, 3) := by decide +kernel
theorem dX12_pc_8 : decode cX12_pc 8 = .ok (.ireturn, 1) := by decide +kernel
theorem dX12_register_0 : decode cX12_register 0 = .ok (.aload_n 0, 1) := by decide +kernel
theorem dX12_register_1 : decode cX12_register 1 = .ok (.iload_n 1, 1) := by decide +kernel
theorem dX12_register_2 : decode cX12_register 2 = .ok (.invokevirtual 162, 3) := by decide +kernel
theorem dX12_register_5 : decode cX12_register 5 = .ok (.astore_n 3, 1) := by decide +kernel
theorem dX12_register_6 : decode cX12_register 6 = .ok (.iload_n 2, 1) := by decide +kernel
theorem dX12_register_7 : decode cX12_register 7 = .ok (.ifCond .lt 8, 3) := by decide +kernel
theorem dX12_register_10 : decode cX12_register 10 = .ok (.iload_n 2, 1) := by decide +kernel
theorem dX12_register_11 : decode cX12_register 11 = .ok (.iconst 4, 1) := by decide +kernel
theorem dX12_register_12 : decode cX12_register 12 = .ok (.if_icmp .lt 11, 3) := by decide +kernel
theorem dX12_register_15 : decode cX12_register 15 = .ok (.new 146, 3) := by decide +kernel
theorem dX12_register_18 : decode cX12_register 18 = .ok (.dup, 1) := by decide +kernel
theorem dX12_register_19 : decode cX12_register 19 = .ok (.invokespecial 148, 3) := by decide +kernel
theorem dX12_register_22 : decode cX12_register 22 = .ok (.athrow, 1) := by decide +kernel
theorem dX12_register_23 : decode cX12_register 23 = .ok (.iload_n 2, 1) := by decide +kernel
theorem dX12_register_24 : decode cX12_register 24 = .ok (.tableswitch 43 0 2 #[28, 33, 38], 28) := by decide +kernel
theorem dX12_register_52 : decode cX12_register 52 = .ok (.aload_n 3, 1) := by decide +kernel
theorem dX12_register_53 : decode cX12_register 53 = .ok (.getfield 171, 3) := by decide +kernel
theorem dX12_register_56 : decode cX12_register 56 = .ok (.ireturn, 1) := by decide +kernel
theorem dX12_register_57 : decode cX12_register 57 = .ok (.aload_n 3, 1) := by decide +kernel
theorem dX12_register_58 : decode cX12_register 58 = .ok (.getfield 174, 3) := by decide +kernel
theorem dX12_register_61 : decode cX12_register 61 = .ok (.ireturn, 1) := by decide +kernel
theorem dX12_register_62 : decode cX12_register 62 = .ok (.aload_n 3, 1) := by decide +kernel
theorem dX12_register_63 : decode cX12_register 63 = .ok (.getfield 177, 3) := by decide +kernel
theorem dX12_register_66 : decode cX12_register 66 = .ok (.ireturn, 1) := by decide +kernel
theorem dX12_register_67 : decode cX12_register 67 = .ok (.aload_n 3, 1) := by decide +kernel
theorem dX12_register_68 : decode cX12_register 68 = .ok (.getfield 180, 3) := by decide +kernel
theorem dX12_register_71 : decode cX12_register 71 = .ok (.ireturn, 1) := by decide +kernel
theorem dX12_fill_0 : decode cX12_fill 0 = .ok (.aload_n 0, 1) := by decide +kernel
theorem dX12_fill_1 : decode cX12_fill 1 = .ok (.iload_n 1, 1) := by decide +kernel
theorem dX12_fill_2 : decode cX12_fill 2 = .ok (.invokevirtual 162, 3) := by decide +kernel
theorem dX12_fill_5 : decode cX12_fill 5 = .ok (.getfield 183, 3) := by decide +kernel
theorem dX12_fill_8 : decode cX12_fill 8 = .ok (.ireturn, 1) := by decide +kernel
theorem dX12_spent_0 : decode cX12_spent 0 = .ok (.aload_n 0, 1) := by decide +kernel
theorem dX12_spent_1 : decode cX12_spent 1 = .ok (.iload_n 1, 1) := by decide +kernel
theorem dX12_spent_2 : decode cX12_spent 2 = .ok (.invokevirtual 162, 3) := by decide +kernel
theorem dX12_spent_5 : decode cX12_spent 5 = .ok (.getfield 186, 3) := by decide +kernel
theorem dX12_spent_8 : decode cX12_spent 8 = .ok (.ireturn, 1) := by decide +kernel
theorem dX12_delayLeft_0 : decode cX12_delayLeft 0 = .ok (.aload_n 0, 1) := by decide +kernel
theorem dX12_delayLeft_1 : decode cX12_delayLeft 1 = .ok (.iload_n 1, 1) := by decide +kernel
theorem dX12_delayLeft_2 : decode cX12_delayLeft 2 = .ok (.invokevirtual 162, 3) := by decide +kernel
theorem dX12_delayLeft_5 : decode cX12_delayLeft 5 = .ok (.getfield 189, 3) := by decide +kernel
theorem dX12_delayLeft_8 : decode cX12_delayLeft 8 = .ok (.ireturn, 1) := by decide +kernel
theorem dX12_stall_0 : decode cX12_stall 0 = .ok (.aload_n 0, 1) := by decide +kernel
theorem dX12_stall_1 : decode cX12_stall 1 = .ok (.iload_n 1, 1) := by decide +kernel
theorem dX12_stall_2 : decode cX12_stall 2 = .ok (.invokevirtual 162, 3) := by decide +kernel
theorem dX12_stall_5 : decode cX12_stall 5 = .ok (.getfield 192, 3) := by decide +kernel
theorem dX12_stall_8 : decode cX12_stall 8 = .ok (.ireturn, 1) := by decide +kernel
theorem dX12_isEnabled_0 : decode cX12_isEnabled 0 = .ok (.aload_n 0, 1) := by decide +kernel
theorem dX12_isEnabled_1 : decode cX12_isEnabled 1 = .ok (.iload_n 1, 1) := by decide +kernel
theorem dX12_isEnabled_2 : decode cX12_isEnabled 2 = .ok (.invokevirtual 162, 3) := by decide +kernel
theorem dX12_isEnabled_5 : decode cX12_isEnabled 5 = .ok (.getfield 195, 3) := by decide +kernel
theorem dX12_isEnabled_8 : decode cX12_isEnabled 8 = .ok (.ireturn, 1) := by decide +kernel
theorem dX12_queueSize_0 : decode cX12_queueSize 0 = .ok (.aload_n 0, 1) := by decide +kernel
theorem dX12_queueSize_1 : decode cX12_queueSize 1 = .ok (.iload_n 1, 1) := by decide +kernel
theorem dX12_queueSize_2 : decode cX12_queueSize 2 = .ok (.iload_n 2, 1) := by decide +kernel
theorem dX12_queueSize_3 : decode cX12_queueSize 3 = .ok (.invokevirtual 198, 3) := by decide +kernel
theorem dX12_queueSize_6 : decode cX12_queueSize 6 = .ok (.getfield 202, 3) := by decide +kernel
theorem dX12_queueSize_9 : decode cX12_queueSize 9 = .ok (.ireturn, 1) := by decide +kernel
theorem dX12_queued_0 : decode cX12_queued 0 = .ok (.aload_n 0, 1) := by decide +kernel
theorem dX12_queued_1 : decode cX12_queued 1 = .ok (.iload_n 1, 1) := by decide +kernel
theorem dX12_queued_2 : decode cX12_queued 2 = .ok (.iload_n 2, 1) := by decide +kernel
theorem dX12_queued_3 : decode cX12_queued 3 = .ok (.invokevirtual 198, 3) := by decide +kernel
theorem dX12_queued_6 : decode cX12_queued 6 = .ok (.astore 4, 2) := by decide +kernel
theorem dX12_queued_8 : decode cX12_queued 8 = .ok (.iload_n 3, 1) := by decide +kernel
theorem dX12_queued_9 : decode cX12_queued 9 = .ok (.ifCond .ge 11, 3) := by decide +kernel
theorem dX12_queued_12 : decode cX12_queued 12 = .ok (.new 146, 3) := by decide +kernel
theorem dX12_queued_15 : decode cX12_queued 15 = .ok (.dup, 1) := by decide +kernel
theorem dX12_queued_16 : decode cX12_queued 16 = .ok (.invokespecial 148, 3) := by decide +kernel
theorem dX12_queued_19 : decode cX12_queued 19 = .ok (.athrow, 1) := by decide +kernel
theorem dX12_queued_20 : decode cX12_queued 20 = .ok (.iload_n 3, 1) := by decide +kernel
theorem dX12_queued_21 : decode cX12_queued 21 = .ok (.aload 4, 2) := by decide +kernel
theorem dX12_queued_23 : decode cX12_queued 23 = .ok (.getfield 202, 3) := by decide +kernel
theorem dX12_queued_26 : decode cX12_queued 26 = .ok (.if_icmp .ge 15, 3) := by decide +kernel
theorem dX12_queued_29 : decode cX12_queued 29 = .ok (.aload 4, 2) := by decide +kernel
theorem dX12_queued_31 : decode cX12_queued 31 = .ok (.iload_n 3, 1) := by decide +kernel
theorem dX12_queued_32 : decode cX12_queued 32 = .ok (.invokevirtual 207, 3) := by decide +kernel
theorem dX12_queued_35 : decode cX12_queued 35 = .ok (.invokestatic 211, 3) := by decide +kernel
theorem dX12_queued_38 : decode cX12_queued 38 = .ok (.goto 6, 3) := by decide +kernel
theorem dX12_queued_41 : decode cX12_queued 41 = .ok (.ldc2_w 215, 3) := by decide +kernel
theorem dX12_queued_44 : decode cX12_queued 44 = .ok (.lreturn, 1) := by decide +kernel
theorem dX12_count_0 : decode cX12_count 0 = .ok (.aload_n 0, 1) := by decide +kernel
theorem dX12_count_1 : decode cX12_count 1 = .ok (.iload_n 1, 1) := by decide +kernel
theorem dX12_count_2 : decode cX12_count 2 = .ok (.invokevirtual 162, 3) := by decide +kernel
theorem dX12_count_5 : decode cX12_count 5 = .ok (.astore_n 3, 1) := by decide +kernel
theorem dX12_count_6 : decode cX12_count 6 = .ok (.iload_n 2, 1) := by decide +kernel
theorem dX12_count_7 : decode cX12_count 7 = .ok (.ifCond .lt 9, 3) := by decide +kernel
theorem dX12_count_10 : decode cX12_count 10 = .ok (.iload_n 2, 1) := by decide +kernel
theorem dX12_count_11 : decode cX12_count 11 = .ok (.bipush 6, 2) := by decide +kernel
theorem dX12_count_13 : decode cX12_count 13 = .ok (.if_icmp .lt 11, 3) := by decide +kernel
theorem dX12_count_16 : decode cX12_count 16 = .ok (.new 146, 3) := by decide +kernel
theorem dX12_count_19 : decode cX12_count 19 = .ok (.dup, 1) := by decide +kernel
theorem dX12_count_20 : decode cX12_count 20 = .ok (.invokespecial 148, 3) := by decide +kernel
theorem dX12_count_23 : decode cX12_count 23 = .ok (.athrow, 1) := by decide +kernel
theorem dX12_count_24 : decode cX12_count 24 = .ok (.aload_n 3, 1) := by decide +kernel
theorem dX12_count_25 : decode cX12_count 25 = .ok (.getfield 217, 3) := by decide +kernel
theorem dX12_count_28 : decode cX12_count 28 = .ok (.iload_n 2, 1) := by decide +kernel
theorem dX12_count_29 : decode cX12_count 29 = .ok (.iaload, 1) := by decide +kernel
theorem dX12_count_30 : decode cX12_count 30 = .ok (.ireturn, 1) := by decide +kernel
theorem dX12_levelAt_0 : decode cX12_levelAt 0 = .ok (.iload_n 1, 1) := by decide +kernel
theorem dX12_levelAt_1 : decode cX12_levelAt 1 = .ok (.invokestatic 134, 3) := by decide +kernel
theorem dX12_levelAt_4 : decode cX12_levelAt 4 = .ok (.iload_n 2, 1) := by decide +kernel
theorem dX12_levelAt_5 : decode cX12_levelAt 5 = .ok (.ifCond .lt 9, 3) := by decide +kernel
theorem dX12_levelAt_8 : decode cX12_levelAt 8 = .ok (.iload_n 2, 1) := by decide +kernel
theorem dX12_levelAt_9 : decode cX12_levelAt 9 = .ok (.bipush 64, 2) := by decide +kernel
theorem dX12_levelAt_11 : decode cX12_levelAt 11 = .ok (.if_icmp .lt 11, 3) := by decide +kernel
theorem dX12_levelAt_14 : decode cX12_levelAt 14 = .ok (.new 146, 3) := by decide +kernel
theorem dX12_levelAt_17 : decode cX12_levelAt 17 = .ok (.dup, 1) := by decide +kernel
theorem dX12_levelAt_18 : decode cX12_levelAt 18 = .ok (.invokespecial 148, 3) := by decide +kernel
theorem dX12_levelAt_21 : decode cX12_levelAt 21 = .ok (.athrow, 1) := by decide +kernel
theorem dX12_levelAt_22 : decode cX12_levelAt 22 = .ok (.aload_n 0, 1) := by decide +kernel
theorem dX12_levelAt_23 : decode cX12_levelAt 23 = .ok (.getfield 51, 3) := by decide +kernel
theorem dX12_levelAt_26 : decode cX12_levelAt 26 = .ok (.getfield 131, 3) := by decide +kernel
theorem dX12_levelAt_29 : decode cX12_levelAt 29 = .ok (.iconst 1, 1) := by decide +kernel
theorem dX12_levelAt_30 : decode cX12_levelAt 30 = .ok (.isub, 1) := by decide +kernel
theorem dX12_levelAt_31 : decode cX12_levelAt 31 = .ok (.iload_n 2, 1) := by decide +kernel
theorem dX12_levelAt_32 : decode cX12_levelAt 32 = .ok (.isub, 1) := by decide +kernel
theorem dX12_levelAt_33 : decode cX12_levelAt 33 = .ok (.istore_n 3, 1) := by decide +kernel
theorem dX12_levelAt_34 : decode cX12_levelAt 34 = .ok (.iload_n 3, 1) := by decide +kernel
theorem dX12_levelAt_35 : decode cX12_levelAt 35 = .ok (.ifCond .ge 7, 3) := by decide +kernel
theorem dX12_levelAt_38 : decode cX12_levelAt 38 = .ok (.iconst (-1), 1) := by decide +kernel
theorem dX12_levelAt_39 : decode cX12_levelAt 39 = .ok (.goto 15, 3) := by decide +kernel
theorem dX12_levelAt_42 : decode cX12_levelAt 42 = .ok (.aload_n 0, 1) := by decide +kernel
theorem dX12_levelAt_43 : decode cX12_levelAt 43 = .ok (.getfield 51, 3) := by decide +kernel
theorem dX12_levelAt_46 : decode cX12_levelAt 46 = .ok (.iload_n 3, 1) := by decide +kernel
theorem dX12_levelAt_47 : decode cX12_levelAt 47 = .ok (.invokevirtual 220, 3) := by decide +kernel
theorem dX12_levelAt_50 : decode cX12_levelAt 50 = .ok (.iload_n 1, 1) := by decide +kernel
theorem dX12_levelAt_51 : decode cX12_levelAt 51 = .ok (.ishr, 1) := by decide +kernel
theorem dX12_levelAt_52 : decode cX12_levelAt 52 = .ok (.iconst 1, 1) := by decide +kernel
theorem dX12_levelAt_53 : decode cX12_levelAt 53 = .ok (.iand, 1) := by decide +kernel
theorem dX12_levelAt_54 : decode cX12_levelAt 54 = .ok (.ireturn, 1) := by decide +kernel
theorem dX12_edges_0 : decode cX12_edges 0 = .ok (.iload_n 1, 1) := by decide +kernel
theorem dX12_edges_1 : decode cX12_edges 1 = .ok (.invokestatic 134, 3) := by decide +kernel
theorem dX12_edges_4 : decode cX12_edges 4 = .ok (.aload_n 0, 1) := by decide +kernel
theorem dX12_edges_5 : decode cX12_edges 5 = .ok (.getfield 51, 3) := by decide +kernel
theorem dX12_edges_8 : decode cX12_edges 8 = .ok (.getfield 223, 3) := by decide +kernel
theorem dX12_edges_11 : decode cX12_edges 11 = .ok (.iload_n 1, 1) := by decide +kernel
theorem dX12_edges_12 : decode cX12_edges 12 = .ok (.iaload, 1) := by decide +kernel
theorem dX12_edges_13 : decode cX12_edges 13 = .ok (.ireturn, 1) := by decide +kernel
theorem dX12_highTime_0 : decode cX12_highTime 0 = .ok (.iload_n 1, 1) := by decide +kernel
theorem dX12_highTime_1 : decode cX12_highTime 1 = .ok (.invokestatic 134, 3) := by decide +kernel
theorem dX12_highTime_4 : decode cX12_highTime 4 = .ok (.aload_n 0, 1) := by decide +kernel
theorem dX12_highTime_5 : decode cX12_highTime 5 = .ok (.getfield 51, 3) := by decide +kernel
theorem dX12_highTime_8 : decode cX12_highTime 8 = .ok (.iload_n 1, 1) := by decide +kernel
theorem dX12_highTime_9 : decode cX12_highTime 9 = .ok (.invokevirtual 226, 3) := by decide +kernel
theorem dX12_highTime_12 : decode cX12_highTime 12 = .ok (.ireturn, 1) := by decide +kernel
theorem dX12_put_0 : decode cX12_put 0 = .ok (.aload_n 0, 1) := by decide +kernel
theorem dX12_put_1 : decode cX12_put 1 = .ok (.iload_n 1, 1) := by decide +kernel
theorem dX12_put_2 : decode cX12_put 2 = .ok (.iconst 0, 1) := by decide +kernel
theorem dX12_put_3 : decode cX12_put 3 = .ok (.invokevirtual 198, 3) := by decide +kernel
theorem dX12_put_6 : decode cX12_put 6 = .ok (.astore_n 3, 1) := by decide +kernel
theorem dX12_put_7 : decode cX12_put 7 = .ok (.aload_n 3, 1) := by decide +kernel
theorem dX12_put_8 : decode cX12_put 8 = .ok (.invokevirtual 229, 3) := by decide +kernel
theorem dX12_put_11 : decode cX12_put 11 = .ok (.ifCond .eq 6, 3) := by decide +kernel
theorem dX12_put_14 : decode cX12_put 14 = .ok (.bipush (-2), 2) := by decide +kernel
theorem dX12_put_16 : decode cX12_put 16 = .ok (.ireturn, 1) := by decide +kernel
theorem dX12_put_17 : decode cX12_put 17 = .ok (.aload_n 0, 1) := by decide +kernel
theorem dX12_put_18 : decode cX12_put 18 = .ok (.invokevirtual 233, 3) := by decide +kernel
theorem dX12_put_21 : decode cX12_put 21 = .ok (.aload_n 3, 1) := by decide +kernel
theorem dX12_put_22 : decode cX12_put 22 = .ok (.iload_n 2, 1) := by decide +kernel
theorem dX12_put_23 : decode cX12_put 23 = .ok (.invokevirtual 236, 3) := by decide +kernel
theorem dX12_put_26 : decode cX12_put 26 = .ok (.aload_n 3, 1) := by decide +kernel
theorem dX12_put_27 : decode cX12_put 27 = .ok (.getfield 202, 3) := by decide +kernel
theorem dX12_put_30 : decode cX12_put 30 = .ok (.ireturn, 1) := by decide +kernel
theorem dX12_take_0 : decode cX12_take 0 = .ok (.aload_n 0, 1) := by decide +kernel
theorem dX12_take_1 : decode cX12_take 1 = .ok (.iload_n 1, 1) := by decide +kernel
theorem dX12_take_2 : decode cX12_take 2 = .ok (.iconst 1, 1) := by decide +kernel
theorem dX12_take_3 : decode cX12_take 3 = .ok (.invokevirtual 198, 3) := by decide +kernel
theorem dX12_take_6 : decode cX12_take 6 = .ok (.astore_n 2, 1) := by decide +kernel
theorem dX12_take_7 : decode cX12_take 7 = .ok (.aload_n 2, 1) := by decide +kernel
theorem dX12_take_8 : decode cX12_take 8 = .ok (.getfield 202, 3) := by decide +kernel
theorem dX12_take_11 : decode cX12_take 11 = .ok (.ifCond .ne 7, 3) := by decide +kernel
theorem dX12_take_14 : decode cX12_take 14 = .ok (.ldc2_w 239, 3) := by decide +kernel
theorem dX12_take_17 : decode cX12_take 17 = .ok (.lreturn, 1) := by decide +kernel
theorem dX12_take_18 : decode cX12_take 18 = .ok (.aload_n 0, 1) := by decide +kernel
theorem dX12_take_19 : decode cX12_take 19 = .ok (.invokevirtual 233, 3) := by decide +kernel
theorem dX12_take_22 : decode cX12_take 22 = .ok (.aload_n 2, 1) := by decide +kernel
theorem dX12_take_23 : decode cX12_take 23 = .ok (.invokevirtual 241, 3) := by decide +kernel
theorem dX12_take_26 : decode cX12_take 26 = .ok (.invokestatic 211, 3) := by decide +kernel
theorem dX12_take_29 : decode cX12_take 29 = .ok (.lreturn, 1) := by decide +kernel
theorem dX12_enable_0 : decode cX12_enable 0 = .ok (.aload_n 0, 1) := by decide +kernel
theorem dX12_enable_1 : decode cX12_enable 1 = .ok (.iload_n 1, 1) := by decide +kernel
theorem dX12_enable_2 : decode cX12_enable 2 = .ok (.invokevirtual 162, 3) := by decide +kernel
theorem dX12_enable_5 : decode cX12_enable 5 = .ok (.astore_n 3, 1) := by decide +kernel
theorem dX12_enable_6 : decode cX12_enable 6 = .ok (.aload_n 0, 1) := by decide +kernel
theorem dX12_enable_7 : decode cX12_enable 7 = .ok (.invokevirtual 233, 3) := by decide +kernel
theorem dX12_enable_10 : decode cX12_enable 10 = .ok (.aload_n 3, 1) := by decide +kernel
theorem dX12_enable_11 : decode cX12_enable 11 = .ok (.getfield 195, 3) := by decide +kernel
theorem dX12_enable_14 : decode cX12_enable 14 = .ok (.istore 4, 2) := by decide +kernel
theorem dX12_enable_16 : decode cX12_enable 16 = .ok (.aload_n 3, 1) := by decide +kernel
theorem dX12_enable_17 : decode cX12_enable 17 = .ok (.iload_n 2, 1) := by decide +kernel
theorem dX12_enable_18 : decode cX12_enable 18 = .ok (.putfield 195, 3) := by decide +kernel
theorem dX12_enable_21 : decode cX12_enable 21 = .ok (.iload 4, 2) := by decide +kernel
theorem dX12_enable_23 : decode cX12_enable 23 = .ok (.ireturn, 1) := by decide +kernel
theorem dX12_restart_0 : decode cX12_restart 0 = .ok (.aload_n 0, 1) := by decide +kernel
theorem dX12_restart_1 : decode cX12_restart 1 = .ok (.iload_n 1, 1) := by decide +kernel
theorem dX12_restart_2 : decode cX12_restart 2 = .ok (.invokevirtual 162, 3) := by decide +kernel
theorem dX12_restart_5 : decode cX12_restart 5 = .ok (.astore_n 2, 1) := by decide +kernel
theorem dX12_restart_6 : decode cX12_restart 6 = .ok (.aload_n 0, 1) := by decide +kernel
theorem dX12_restart_7 : decode cX12_restart 7 = .ok (.invokevirtual 233, 3) := by decide +kernel
theorem dX12_restart_10 : decode cX12_restart 10 = .ok (.aload_n 2, 1) := by decide +kernel
theorem dX12_restart_11 : decode cX12_restart 11 = .ok (.getfield 166, 3) := by decide +kernel
theorem dX12_restart_14 : decode cX12_restart 14 = .ok (.istore_n 3, 1) := by decide +kernel
theorem dX12_restart_15 : decode cX12_restart 15 = .ok (.aload_n 2, 1) := by decide +kernel
theorem dX12_restart_16 : decode cX12_restart 16 = .ok (.aload_n 0, 1) := by decide +kernel
theorem dX12_restart_17 : decode cX12_restart 17 = .ok (.getfield 32, 3) := by decide +kernel
theorem dX12_restart_20 : decode cX12_restart 20 = .ok (.getfield 244, 3) := by decide +kernel
theorem dX12_restart_23 : decode cX12_restart 23 = .ok (.iload_n 1, 1) := by decide +kernel
theorem dX12_restart_24 : decode cX12_restart 24 = .ok (.aaload, 1) := by decide +kernel
theorem dX12_restart_25 : decode cX12_restart 25 = .ok (.invokevirtual 248, 3) := by decide +kernel
theorem dX12_restart_28 : decode cX12_restart 28 = .ok (.iload_n 3, 1) := by decide +kernel
theorem dX12_restart_29 : decode cX12_restart 29 = .ok (.ireturn, 1) := by decide +kernel
theorem dX12_drive_0 : decode cX12_drive 0 = .ok (.iload_n 1, 1) := by decide +kernel
theorem dX12_drive_1 : decode cX12_drive 1 = .ok (.invokestatic 134, 3) := by decide +kernel
theorem dX12_drive_4 : decode cX12_drive 4 = .ok (.iload_n 2, 1) := by decide +kernel
theorem dX12_drive_5 : decode cX12_drive 5 = .ok (.invokestatic 252, 3) := by decide +kernel
theorem dX12_drive_8 : decode cX12_drive 8 = .ok (.aload_n 0, 1) := by decide +kernel
theorem dX12_drive_9 : decode cX12_drive 9 = .ok (.invokevirtual 233, 3) := by decide +kernel
theorem dX12_drive_12 : decode cX12_drive 12 = .ok (.aload_n 0, 1) := by decide +kernel
theorem dX12_drive_13 : decode cX12_drive 13 = .ok (.getfield 51, 3) := by decide +kernel
theorem dX12_drive_16 : decode cX12_drive 16 = .ok (.iload_n 1, 1) := by decide +kernel
theorem dX12_drive_17 : decode cX12_drive 17 = .ok (.iload_n 2, 1) := by decide +kernel
theorem dX12_drive_18 : decode cX12_drive 18 = .ok (.invokevirtual 255, 3) := by decide +kernel
theorem dX12_drive_21 : decode cX12_drive 21 = .ok (.aload_n 0, 1) := by decide +kernel
theorem dX12_drive_22 : decode cX12_drive 22 = .ok (.getfield 51, 3) := by decide +kernel
theorem dX12_drive_25 : decode cX12_drive 25 = .ok (.invokevirtual 137, 3) := by decide +kernel
theorem dX12_drive_28 : decode cX12_drive 28 = .ok (.iload_n 1, 1) := by decide +kernel
theorem dX12_drive_29 : decode cX12_drive 29 = .ok (.ishr, 1) := by decide +kernel
theorem dX12_drive_30 : decode cX12_drive 30 = .ok (.iconst 1, 1) := by decide +kernel
theorem dX12_drive_31 : decode cX12_drive 31 = .ok (.iand, 1) := by decide +kernel
theorem dX12_drive_32 : decode cX12_drive 32 = .ok (.ireturn, 1) := by decide +kernel
theorem dX12_schedule_0 : decode cX12_schedule 0 = .ok (.iload_n 2, 1) := by decide +kernel
theorem dX12_schedule_1 : decode cX12_schedule 1 = .ok (.invokestatic 134, 3) := by decide +kernel
theorem dX12_schedule_4 : decode cX12_schedule 4 = .ok (.iload_n 3, 1) := by decide +kernel
theorem dX12_schedule_5 : decode cX12_schedule 5 = .ok (.invokestatic 252, 3) := by decide +kernel
theorem dX12_schedule_8 : decode cX12_schedule 8 = .ok (.iload_n 1, 1) := by decide +kernel
theorem dX12_schedule_9 : decode cX12_schedule 9 = .ok (.aload_n 0, 1) := by decide +kernel
theorem dX12_schedule_10 : decode cX12_schedule 10 = .ok (.getfield 51, 3) := by decide +kernel
theorem dX12_schedule_13 : decode cX12_schedule 13 = .ok (.getfield 131, 3) := by decide +kernel
theorem dX12_schedule_16 : decode cX12_schedule 16 = .ok (.if_icmp .lt 10, 3) := by decide +kernel
theorem dX12_schedule_19 : decode cX12_schedule 19 = .ok (.iload_n 1, 1) := by decide +kernel
theorem dX12_schedule_20 : decode cX12_schedule 20 = .ok (.ldc_w 259, 3) := by decide +kernel
theorem dX12_schedule_23 : decode cX12_schedule 23 = .ok (.if_icmp .le 11, 3) := by decide +kernel
theorem dX12_schedule_26 : decode cX12_schedule 26 = .ok (.new 108, 3) := by decide +kernel
theorem dX12_schedule_29 : decode cX12_schedule 29 = .ok (.dup, 1) := by decide +kernel
theorem dX12_schedule_30 : decode cX12_schedule 30 = .ok (.invokespecial 110, 3) := by decide +kernel
theorem dX12_schedule_33 : decode cX12_schedule 33 = .ok (.athrow, 1) := by decide +kernel
theorem dX12_schedule_34 : decode cX12_schedule 34 = .ok (.aload_n 0, 1) := by decide +kernel
theorem dX12_schedule_35 : decode cX12_schedule 35 = .ok (.getfield 51, 3) := by decide +kernel
theorem dX12_schedule_38 : decode cX12_schedule 38 = .ok (.getfield 260, 3) := by decide +kernel
theorem dX12_schedule_41 : decode cX12_schedule 41 = .ok (.bipush 32, 2) := by decide +kernel
theorem dX12_schedule_43 : decode cX12_schedule 43 = .ok (.if_icmp .lt 6, 3) := by decide +kernel
theorem dX12_schedule_46 : decode cX12_schedule 46 = .ok (.bipush (-2), 2) := by decide +kernel
theorem dX12_schedule_48 : decode cX12_schedule 48 = .ok (.ireturn, 1) := by decide +kernel
theorem dX12_schedule_49 : decode cX12_schedule 49 = .ok (.aload_n 0, 1) := by decide +kernel
theorem dX12_schedule_50 : decode cX12_schedule 50 = .ok (.invokevirtual 233, 3) := by decide +kernel
theorem dX12_schedule_53 : decode cX12_schedule 53 = .ok (.aload_n 0, 1) := by decide +kernel
theorem dX12_schedule_54 : decode cX12_schedule 54 = .ok (.getfield 51, 3) := by decide +kernel
theorem dX12_schedule_57 : decode cX12_schedule 57 = .ok (.iload_n 1, 1) := by decide +kernel
theorem dX12_schedule_58 : decode cX12_schedule 58 = .ok (.iload_n 2, 1) := by decide +kernel
theorem dX12_schedule_59 : decode cX12_schedule 59 = .ok (.iload_n 3, 1) := by decide +kernel
theorem dX12_schedule_60 : decode cX12_schedule 60 = .ok (.invokevirtual 263, 3) := by decide +kernel
theorem dX12_schedule_63 : decode cX12_schedule 63 = .ok (.aload_n 0, 1) := by decide +kernel
theorem dX12_schedule_64 : decode cX12_schedule 64 = .ok (.getfield 51, 3) := by decide +kernel
theorem dX12_schedule_67 : decode cX12_schedule 67 = .ok (.getfield 260, 3) := by decide +kernel
theorem dX12_schedule_70 : decode cX12_schedule 70 = .ok (.ireturn, 1) := by decide +kernel
theorem dX12_poke_0 : decode cX12_poke 0 = .ok (.iload_n 1, 1) := by decide +kernel
theorem dX12_poke_1 : decode cX12_poke 1 = .ok (.invokestatic 152, 3) := by decide +kernel
theorem dX12_poke_4 : decode cX12_poke 4 = .ok (.aload_n 0, 1) := by decide +kernel
theorem dX12_poke_5 : decode cX12_poke 5 = .ok (.invokevirtual 233, 3) := by decide +kernel
theorem dX12_poke_8 : decode cX12_poke 8 = .ok (.aload_n 0, 1) := by decide +kernel
theorem dX12_poke_9 : decode cX12_poke 9 = .ok (.getfield 51, 3) := by decide +kernel
theorem dX12_poke_12 : decode cX12_poke 12 = .ok (.getfield 155, 3) := by decide +kernel
theorem dX12_poke_15 : decode cX12_poke 15 = .ok (.iload_n 1, 1) := by decide +kernel
theorem dX12_poke_16 : decode cX12_poke 16 = .ok (.iaload, 1) := by decide +kernel
theorem dX12_poke_17 : decode cX12_poke 17 = .ok (.istore_n 3, 1) := by decide +kernel
theorem dX12_poke_18 : decode cX12_poke 18 = .ok (.aload_n 0, 1) := by decide +kernel
theorem dX12_poke_19 : decode cX12_poke 19 = .ok (.getfield 51, 3) := by decide +kernel
theorem dX12_poke_22 : decode cX12_poke 22 = .ok (.getfield 155, 3) := by decide +kernel
theorem dX12_poke_25 : decode cX12_poke 25 = .ok (.iload_n 1, 1) := by decide +kernel
theorem dX12_poke_26 : decode cX12_poke 26 = .ok (.iload_n 2, 1) := by decide +kernel
theorem dX12_poke_27 : decode cX12_poke 27 = .ok (.iastore, 1) := by decide +kernel
theorem dX12_poke_28 : decode cX12_poke 28 = .ok (.iload_n 3, 1) := by decide +kernel
theorem dX12_poke_29 : decode cX12_poke 29 = .ok (.ireturn, 1) := by decide +kernel
theorem dX12_run_0 : decode cX12_run 0 = .ok (.iload_n 1, 1) := by decide +kernel
theorem dX12_run_1 : decode cX12_run 1 = .ok (.ifCond .lt 10, 3) := by decide +kernel
theorem dX12_run_4 : decode cX12_run 4 = .ok (.iload_n 1, 1) := by decide +kernel
theorem dX12_run_5 : decode cX12_run 5 = .ok (.sipush 1000, 3) := by decide +kernel
theorem dX12_run_8 : decode cX12_run 8 = .ok (.if_icmp .le 11, 3) := by decide +kernel
theorem dX12_run_11 : decode cX12_run 11 = .ok (.new 108, 3) := by decide +kernel
theorem dX12_run_14 : decode cX12_run 14 = .ok (.dup, 1) := by decide +kernel
theorem dX12_run_15 : decode cX12_run 15 = .ok (.invokespecial 110, 3) := by decide +kernel
theorem dX12_run_18 : decode cX12_run 18 = .ok (.athrow, 1) := by decide +kernel
theorem dX12_run_19 : decode cX12_run 19 = .ok (.aload_n 0, 1) := by decide +kernel
theorem dX12_run_20 : decode cX12_run 20 = .ok (.getfield 51, 3) := by decide +kernel
theorem dX12_run_23 : decode cX12_run 23 = .ok (.getfield 131, 3) := by decide +kernel
theorem dX12_run_26 : decode cX12_run 26 = .ok (.iload_n 1, 1) := by decide +kernel
theorem dX12_run_27 : decode cX12_run 27 = .ok (.iadd, 1) := by decide +kernel
theorem dX12_run_28 : decode cX12_run 28 = .ok (.ldc_w 259, 3) := by decide +kernel
theorem dX12_run_31 : decode cX12_run 31 = .ok (.if_icmp .le 6, 3) := by decide +kernel
theorem dX12_run_34 : decode cX12_run 34 = .ok (.bipush (-4), 2) := by decide +kernel
theorem dX12_run_36 : decode cX12_run 36 = .ok (.ireturn, 1) := by decide +kernel
theorem dX12_run_37 : decode cX12_run 37 = .ok (.aload_n 0, 1) := by decide +kernel
theorem dX12_run_38 : decode cX12_run 38 = .ok (.invokevirtual 233, 3) := by decide +kernel
theorem dX12_run_41 : decode cX12_run 41 = .ok (.iconst 0, 1) := by decide +kernel
theorem dX12_run_42 : decode cX12_run 42 = .ok (.istore_n 2, 1) := by decide +kernel
theorem dX12_run_43 : decode cX12_run 43 = .ok (.iconst 0, 1) := by decide +kernel
theorem dX12_run_44 : decode cX12_run 44 = .ok (.istore_n 3, 1) := by decide +kernel
theorem dX12_run_45 : decode cX12_run 45 = .ok (.iload_n 3, 1) := by decide +kernel
theorem dX12_run_46 : decode cX12_run 46 = .ok (.iload_n 1, 1) := by decide +kernel
theorem dX12_run_47 : decode cX12_run 47 = .ok (.if_icmp .ge 23, 3) := by decide +kernel
theorem dX12_run_50 : decode cX12_run 50 = .ok (.iload_n 2, 1) := by decide +kernel
theorem dX12_run_51 : decode cX12_run 51 = .ok (.aload_n 0, 1) := by decide +kernel
theorem dX12_run_52 : decode cX12_run 52 = .ok (.getfield 63, 3) := by decide +kernel
theorem dX12_run_55 : decode cX12_run 55 = .ok (.aload_n 0, 1) := by decide +kernel
theorem dX12_run_56 : decode cX12_run 56 = .ok (.getfield 51, 3) := by decide +kernel
theorem dX12_run_59 : decode cX12_run 59 = .ok (.invokevirtual 267, 3) := by decide +kernel
theorem dX12_run_62 : decode cX12_run 62 = .ok (.iadd, 1) := by decide +kernel
theorem dX12_run_63 : decode cX12_run 63 = .ok (.istore_n 2, 1) := by decide +kernel
theorem dX12_run_64 : decode cX12_run 64 = .ok (.iinc 3 1, 3) := by decide +kernel
theorem dX12_run_67 : decode cX12_run 67 = .ok (.goto (-22), 3) := by decide +kernel
theorem dX12_run_70 : decode cX12_run 70 = .ok (.iload_n 2, 1) := by decide +kernel
theorem dX12_run_71 : decode cX12_run 71 = .ok (.ireturn, 1) := by decide +kernel
theorem dX12_cyclesUntil_0 : decode cX12_cyclesUntil 0 = .ok (.iload_n 1, 1) := by decide +kernel
theorem dX12_cyclesUntil_1 : decode cX12_cyclesUntil 1 = .ok (.invokestatic 134, 3) := by decide +kernel
theorem dX12_cyclesUntil_4 : decode cX12_cyclesUntil 4 = .ok (.iload_n 2, 1) := by decide +kernel
theorem dX12_cyclesUntil_5 : decode cX12_cyclesUntil 5 = .ok (.invokestatic 252, 3) := by decide +kernel
theorem dX12_cyclesUntil_8 : decode cX12_cyclesUntil 8 = .ok (.iload_n 3, 1) := by decide +kernel
theorem dX12_cyclesUntil_9 : decode cX12_cyclesUntil 9 = .ok (.invokestatic 271, 3) := by decide +kernel
theorem dX12_cyclesUntil_12 : decode cX12_cyclesUntil 12 = .ok (.aload_n 0, 1) := by decide +kernel
theorem dX12_cyclesUntil_13 : decode cX12_cyclesUntil 13 = .ok (.getfield 55, 3) := by decide +kernel
theorem dX12_cyclesUntil_16 : decode cX12_cyclesUntil 16 = .ok (.aload_n 0, 1) := by decide +kernel
theorem dX12_cyclesUntil_17 : decode cX12_cyclesUntil 17 = .ok (.getfield 51, 3) := by decide +kernel
theorem dX12_cyclesUntil_20 : decode cX12_cyclesUntil 20 = .ok (.invokevirtual 274, 3) := by decide +kernel
theorem dX12_cyclesUntil_23 : decode cX12_cyclesUntil 23 = .ok (.iconst 0, 1) := by decide +kernel
theorem dX12_cyclesUntil_24 : decode cX12_cyclesUntil 24 = .ok (.istore 4, 2) := by decide +kernel
theorem dX12_cyclesUntil_26 : decode cX12_cyclesUntil 26 = .ok (.iload 4, 2) := by decide +kernel
theorem dX12_cyclesUntil_28 : decode cX12_cyclesUntil 28 = .ok (.iload_n 3, 1) := by decide +kernel
theorem dX12_cyclesUntil_29 : decode cX12_cyclesUntil 29 = .ok (.if_icmp .gt 39, 3) := by decide +kernel
theorem dX12_cyclesUntil_32 : decode cX12_cyclesUntil 32 = .ok (.aload_n 0, 1) := by decide +kernel
theorem dX12_cyclesUntil_33 : decode cX12_cyclesUntil 33 = .ok (.getfield 55, 3) := by decide +kernel
theorem dX12_cyclesUntil_36 : decode cX12_cyclesUntil 36 = .ok (.invokevirtual 137, 3) := by decide +kernel
theorem dX12_cyclesUntil_39 : decode cX12_cyclesUntil 39 = .ok (.iload_n 1, 1) := by decide +kernel
theorem dX12_cyclesUntil_40 : decode cX12_cyclesUntil 40 = .ok (.ishr, 1) := by decide +kernel
theorem dX12_cyclesUntil_41 : decode cX12_cyclesUntil 41 = .ok (.iconst 1, 1) := by decide +kernel
theorem dX12_cyclesUntil_42 : decode cX12_cyclesUntil 42 = .ok (.iand, 1) := by decide +kernel
theorem dX12_cyclesUntil_43 : decode cX12_cyclesUntil 43 = .ok (.iload_n 2, 1) := by decide +kernel
theorem dX12_cyclesUntil_44 : decode cX12_cyclesUntil 44 = .ok (.if_icmp .ne 6, 3) := by decide +kernel
theorem dX12_cyclesUntil_47 : decode cX12_cyclesUntil 47 = .ok (.iload 4, 2) := by decide +kernel
theorem dX12_cyclesUntil_49 : decode cX12_cyclesUntil 49 = .ok (.ireturn, 1) := by decide +kernel
theorem dX12_cyclesUntil_50 : decode cX12_cyclesUntil 50 = .ok (.aload_n 0, 1) := by decide +kernel
theorem dX12_cyclesUntil_51 : decode cX12_cyclesUntil 51 = .ok (.getfield 63, 3) := by decide +kernel
theorem dX12_cyclesUntil_54 : decode cX12_cyclesUntil 54 = .ok (.aload_n 0, 1) := by decide +kernel
theorem dX12_cyclesUntil_55 : decode cX12_cyclesUntil 55 = .ok (.getfield 55, 3) := by decide +kernel
theorem dX12_cyclesUntil_58 : decode cX12_cyclesUntil 58 = .ok (.invokevirtual 267, 3) := by decide +kernel
theorem dX12_cyclesUntil_61 : decode cX12_cyclesUntil 61 = .ok (.pop, 1) := by decide +kernel
theorem dX12_cyclesUntil_62 : decode cX12_cyclesUntil 62 = .ok (.iinc 4 1, 3) := by decide +kernel
theorem dX12_cyclesUntil_65 : decode cX12_cyclesUntil 65 = .ok (.goto (-39), 3) := by decide +kernel
theorem dX12_cyclesUntil_68 : decode cX12_cyclesUntil 68 = .ok (.iconst (-1), 1) := by decide +kernel
theorem dX12_cyclesUntil_69 : decode cX12_cyclesUntil 69 = .ok (.ireturn, 1) := by decide +kernel
theorem dX12_cyclesTo_0 : decode cX12_cyclesTo 0 = .ok (.aload_n 0, 1) := by decide +kernel
theorem dX12_cyclesTo_1 : decode cX12_cyclesTo 1 = .ok (.iload_n 1, 1) := by decide +kernel
theorem dX12_cyclesTo_2 : decode cX12_cyclesTo 2 = .ok (.invokevirtual 162, 3) := by decide +kernel
theorem dX12_cyclesTo_5 : decode cX12_cyclesTo 5 = .ok (.pop, 1) := by decide +kernel
theorem dX12_cyclesTo_6 : decode cX12_cyclesTo 6 = .ok (.aload_n 0, 1) := by decide +kernel
theorem dX12_cyclesTo_7 : decode cX12_cyclesTo 7 = .ok (.iload_n 2, 1) := by decide +kernel
theorem dX12_cyclesTo_8 : decode cX12_cyclesTo 8 = .ok (.invokevirtual 278, 3) := by decide +kernel
theorem dX12_cyclesTo_11 : decode cX12_cyclesTo 11 = .ok (.iload_n 3, 1) := by decide +kernel
theorem dX12_cyclesTo_12 : decode cX12_cyclesTo 12 = .ok (.invokestatic 271, 3) := by decide +kernel
theorem dX12_cyclesTo_15 : decode cX12_cyclesTo 15 = .ok (.aload_n 0, 1) := by decide +kernel
theorem dX12_cyclesTo_16 : decode cX12_cyclesTo 16 = .ok (.getfield 55, 3) := by decide +kernel
theorem dX12_cyclesTo_19 : decode cX12_cyclesTo 19 = .ok (.aload_n 0, 1) := by decide +kernel
theorem dX12_cyclesTo_20 : decode cX12_cyclesTo 20 = .ok (.getfield 51, 3) := by decide +kernel
theorem dX12_cyclesTo_23 : decode cX12_cyclesTo 23 = .ok (.invokevirtual 274, 3) := by decide +kernel
theorem dX12_cyclesTo_26 : decode cX12_cyclesTo 26 = .ok (.iconst 0, 1) := by decide +kernel
theorem dX12_cyclesTo_27 : decode cX12_cyclesTo 27 = .ok (.istore 4, 2) := by decide +kernel
theorem dX12_cyclesTo_29 : decode cX12_cyclesTo 29 = .ok (.iload 4, 2) := by decide +kernel
theorem dX12_cyclesTo_31 : decode cX12_cyclesTo 31 = .ok (.iload_n 3, 1) := by decide +kernel
theorem dX12_cyclesTo_32 : decode cX12_cyclesTo 32 = .ok (.if_icmp .gt 40, 3) := by decide +kernel
theorem dX12_cyclesTo_35 : decode cX12_cyclesTo 35 = .ok (.aload_n 0, 1) := by decide +kernel
theorem dX12_cyclesTo_36 : decode cX12_cyclesTo 36 = .ok (.getfield 55, 3) := by decide +kernel
theorem dX12_cyclesTo_39 : decode cX12_cyclesTo 39 = .ok (.getfield 281, 3) := by decide +kernel
theorem dX12_cyclesTo_42 : decode cX12_cyclesTo 42 = .ok (.iload_n 1, 1) := by decide +kernel
theorem dX12_cyclesTo_43 : decode cX12_cyclesTo 43 = .ok (.aaload, 1) := by decide +kernel
theorem dX12_cyclesTo_44 : decode cX12_cyclesTo 44 = .ok (.getfield 166, 3) := by decide +kernel
theorem dX12_cyclesTo_47 : decode cX12_cyclesTo 47 = .ok (.iload_n 2, 1) := by decide +kernel
theorem dX12_cyclesTo_48 : decode cX12_cyclesTo 48 = .ok (.if_icmp .ne 6, 3) := by decide +kernel
theorem dX12_cyclesTo_51 : decode cX12_cyclesTo 51 = .ok (.iload 4, 2) := by decide +kernel
theorem dX12_cyclesTo_53 : decode cX12_cyclesTo 53 = .ok (.ireturn, 1) := by decide +kernel
theorem dX12_cyclesTo_54 : decode cX12_cyclesTo 54 = .ok (.aload_n 0, 1) := by decide +kernel
theorem dX12_cyclesTo_55 : decode cX12_cyclesTo 55 = .ok (.getfield 63, 3) := by decide +kernel
theorem dX12_cyclesTo_58 : decode cX12_cyclesTo 58 = .ok (.aload_n 0, 1) := by decide +kernel
theorem dX12_cyclesTo_59 : decode cX12_cyclesTo 59 = .ok (.getfield 55, 3) := by decide +kernel
theorem dX12_cyclesTo_62 : decode cX12_cyclesTo 62 = .ok (.invokevirtual 267, 3) := by decide +kernel
theorem dX12_cyclesTo_65 : decode cX12_cyclesTo 65 = .ok (.pop, 1) := by decide +kernel
theorem dX12_cyclesTo_66 : decode cX12_cyclesTo 66 = .ok (.iinc 4 1, 3) := by decide +kernel
theorem dX12_cyclesTo_69 : decode cX12_cyclesTo 69 = .ok (.goto (-40), 3) := by decide +kernel
theorem dX12_cyclesTo_72 : decode cX12_cyclesTo 72 = .ok (.iconst (-1), 1) := by decide +kernel
theorem dX12_cyclesTo_73 : decode cX12_cyclesTo 73 = .ok (.ireturn, 1) := by decide +kernel
theorem dX12_period_0 : decode cX12_period 0 = .ok (.iload_n 1, 1) := by decide +kernel
theorem dX12_period_1 : decode cX12_period 1 = .ok (.invokestatic 134, 3) := by decide +kernel
theorem dX12_period_4 : decode cX12_period 4 = .ok (.iload_n 2, 1) := by decide +kernel
theorem dX12_period_5 : decode cX12_period 5 = .ok (.invokestatic 271, 3) := by decide +kernel
theorem dX12_period_8 : decode cX12_period 8 = .ok (.aload_n 0, 1) := by decide +kernel
theorem dX12_period_9 : decode cX12_period 9 = .ok (.getfield 55, 3) := by decide +kernel
theorem dX12_period_12 : decode cX12_period 12 = .ok (.aload_n 0, 1) := by decide +kernel
theorem dX12_period_13 : decode cX12_period 13 = .ok (.getfield 51, 3) := by decide +kernel
theorem dX12_period_16 : decode cX12_period 16 = .ok (.invokevirtual 274, 3) := by decide +kernel
theorem dX12_period_19 : decode cX12_period 19 = .ok (.aload_n 0, 1) := by decide +kernel
theorem dX12_period_20 : decode cX12_period 20 = .ok (.getfield 55, 3) := by decide +kernel
theorem dX12_period_23 : decode cX12_period 23 = .ok (.invokevirtual 137, 3) := by decide +kernel
theorem dX12_period_26 : decode cX12_period 26 = .ok (.iload_n 1, 1) := by decide +kernel
theorem dX12_period_27 : decode cX12_period 27 = .ok (.ishr, 1) := by decide +kernel
theorem dX12_period_28 : decode cX12_period 28 = .ok (.iconst 1, 1) := by decide +kernel
theorem dX12_period_29 : decode cX12_period 29 = .ok (.iand, 1) := by decide +kernel
theorem dX12_period_30 : decode cX12_period 30 = .ok (.istore_n 3, 1) := by decide +kernel
theorem dX12_period_31 : decode cX12_period 31 = .ok (.iconst (-1), 1) := by decide +kernel
theorem dX12_period_32 : decode cX12_period 32 = .ok (.istore 4, 2) := by decide +kernel
theorem dX12_period_34 : decode cX12_period 34 = .ok (.iconst 0, 1) := by decide +kernel
theorem dX12_period_35 : decode cX12_period 35 = .ok (.istore 5, 2) := by decide +kernel
theorem dX12_period_37 : decode cX12_period 37 = .ok (.iload 5, 2) := by decide +kernel
theorem dX12_period_39 : decode cX12_period 39 = .ok (.iload_n 2, 1) := by decide +kernel
theorem dX12_period_40 : decode cX12_period 40 = .ok (.if_icmp .ge 63, 3) := by decide +kernel
theorem dX12_period_43 : decode cX12_period 43 = .ok (.aload_n 0, 1) := by decide +kernel
theorem dX12_period_44 : decode cX12_period 44 = .ok (.getfield 63, 3) := by decide +kernel
theorem dX12_period_47 : decode cX12_period 47 = .ok (.aload_n 0, 1) := by decide +kernel
theorem dX12_period_48 : decode cX12_period 48 = .ok (.getfield 55, 3) := by decide +kernel
theorem dX12_period_51 : decode cX12_period 51 = .ok (.invokevirtual 267, 3) := by decide +kernel
theorem dX12_period_54 : decode cX12_period 54 = .ok (.pop, 1) := by decide +kernel
theorem dX12_period_55 : decode cX12_period 55 = .ok (.aload_n 0, 1) := by decide +kernel
theorem dX12_period_56 : decode cX12_period 56 = .ok (.getfield 55, 3) := by decide +kernel
theorem dX12_period_59 : decode cX12_period 59 = .ok (.invokevirtual 137, 3) := by decide +kernel
theorem dX12_period_62 : decode cX12_period 62 = .ok (.iload_n 1, 1) := by decide +kernel
theorem dX12_period_63 : decode cX12_period 63 = .ok (.ishr, 1) := by decide +kernel
theorem dX12_period_64 : decode cX12_period 64 = .ok (.iconst 1, 1) := by decide +kernel
theorem dX12_period_65 : decode cX12_period 65 = .ok (.iand, 1) := by decide +kernel
theorem dX12_period_66 : decode cX12_period 66 = .ok (.istore 6, 2) := by decide +kernel
theorem dX12_period_68 : decode cX12_period 68 = .ok (.iload 6, 2) := by decide +kernel
theorem dX12_period_70 : decode cX12_period 70 = .ok (.iconst 1, 1) := by decide +kernel
theorem dX12_period_71 : decode cX12_period 71 = .ok (.if_icmp .ne 23, 3) := by decide +kernel
theorem dX12_period_74 : decode cX12_period 74 = .ok (.iload_n 3, 1) := by decide +kernel
theorem dX12_period_75 : decode cX12_period 75 = .ok (.ifCond .ne 19, 3) := by decide +kernel
theorem dX12_period_78 : decode cX12_period 78 = .ok (.iload 4, 2) := by decide +kernel
theorem dX12_period_80 : decode cX12_period 80 = .ok (.iconst (-1), 1) := by decide +kernel
theorem dX12_period_81 : decode cX12_period 81 = .ok (.if_icmp .eq 9, 3) := by decide +kernel
theorem dX12_period_84 : decode cX12_period 84 = .ok (.iload 5, 2) := by decide +kernel
theorem dX12_period_86 : decode cX12_period 86 = .ok (.iload 4, 2) := by decide +kernel
theorem dX12_period_88 : decode cX12_period 88 = .ok (.isub, 1) := by decide +kernel
theorem dX12_period_89 : decode cX12_period 89 = .ok (.ireturn, 1) := by decide +kernel
theorem dX12_period_90 : decode cX12_period 90 = .ok (.iload 5, 2) := by decide +kernel
theorem dX12_period_92 : decode cX12_period 92 = .ok (.istore 4, 2) := by decide +kernel
theorem dX12_period_94 : decode cX12_period 94 = .ok (.iload 6, 2) := by decide +kernel
theorem dX12_period_96 : decode cX12_period 96 = .ok (.istore_n 3, 1) := by decide +kernel
theorem dX12_period_97 : decode cX12_period 97 = .ok (.iinc 5 1, 3) := by decide +kernel
theorem dX12_period_100 : decode cX12_period 100 = .ok (.goto (-63), 3) := by decide +kernel
theorem dX12_period_103 : decode cX12_period 103 = .ok (.iconst (-1), 1) := by decide +kernel
theorem dX12_period_104 : decode cX12_period 104 = .ok (.ireturn, 1) := by decide +kernel
theorem dX12_stuck_0 : decode cX12_stuck 0 = .ok (.iload_n 1, 1) := by decide +kernel
theorem dX12_stuck_1 : decode cX12_stuck 1 = .ok (.invokestatic 271, 3) := by decide +kernel
theorem dX12_stuck_4 : decode cX12_stuck 4 = .ok (.aload_n 0, 1) := by decide +kernel
theorem dX12_stuck_5 : decode cX12_stuck 5 = .ok (.getfield 55, 3) := by decide +kernel
theorem dX12_stuck_8 : decode cX12_stuck 8 = .ok (.aload_n 0, 1) := by decide +kernel
theorem dX12_stuck_9 : decode cX12_stuck 9 = .ok (.getfield 51, 3) := by decide +kernel
theorem dX12_stuck_12 : decode cX12_stuck 12 = .ok (.invokevirtual 274, 3) := by decide +kernel
theorem dX12_stuck_15 : decode cX12_stuck 15 = .ok (.aload_n 0, 1) := by decide +kernel
theorem dX12_stuck_16 : decode cX12_stuck 16 = .ok (.invokevirtual 285, 3) := by decide +kernel
theorem dX12_stuck_19 : decode cX12_stuck 19 = .ok (.istore_n 2, 1) := by decide +kernel
theorem dX12_stuck_20 : decode cX12_stuck 20 = .ok (.iconst 0, 1) := by decide +kernel
theorem dX12_stuck_21 : decode cX12_stuck 21 = .ok (.istore_n 3, 1) := by decide +kernel
theorem dX12_stuck_22 : decode cX12_stuck 22 = .ok (.iload_n 3, 1) := by decide +kernel
theorem dX12_stuck_23 : decode cX12_stuck 23 = .ok (.iload_n 1, 1) := by decide +kernel
theorem dX12_stuck_24 : decode cX12_stuck 24 = .ok (.if_icmp .ge 30, 3) := by decide +kernel
theorem dX12_stuck_27 : decode cX12_stuck 27 = .ok (.iload_n 2, 1) := by decide +kernel
theorem dX12_stuck_28 : decode cX12_stuck 28 = .ok (.ifCond .eq 26, 3) := by decide +kernel
theorem dX12_stuck_31 : decode cX12_stuck 31 = .ok (.aload_n 0, 1) := by decide +kernel
theorem dX12_stuck_32 : decode cX12_stuck 32 = .ok (.getfield 63, 3) := by decide +kernel
theorem dX12_stuck_35 : decode cX12_stuck 35 = .ok (.aload_n 0, 1) := by decide +kernel
theorem dX12_stuck_36 : decode cX12_stuck 36 = .ok (.getfield 55, 3) := by decide +kernel
theorem dX12_stuck_39 : decode cX12_stuck 39 = .ok (.invokevirtual 267, 3) := by decide +kernel
theorem dX12_stuck_42 : decode cX12_stuck 42 = .ok (.pop, 1) := by decide +kernel
theorem dX12_stuck_43 : decode cX12_stuck 43 = .ok (.aload_n 0, 1) := by decide +kernel
theorem dX12_stuck_44 : decode cX12_stuck 44 = .ok (.invokevirtual 285, 3) := by decide +kernel
theorem dX12_stuck_47 : decode cX12_stuck 47 = .ok (.istore_n 2, 1) := by decide +kernel
theorem dX12_stuck_48 : decode cX12_stuck 48 = .ok (.iinc 3 1, 3) := by decide +kernel
theorem dX12_stuck_51 : decode cX12_stuck 51 = .ok (.goto (-29), 3) := by decide +kernel
theorem dX12_stuck_54 : decode cX12_stuck 54 = .ok (.iload_n 2, 1) := by decide +kernel
theorem dX12_stuck_55 : decode cX12_stuck 55 = .ok (.ireturn, 1) := by decide +kernel
theorem dX12_divider_0 : decode cX12_divider 0 = .ok (.iload_n 1, 1) := by decide +kernel
theorem dX12_divider_1 : decode cX12_divider 1 = .ok (.iconst 1, 1) := by decide +kernel
theorem dX12_divider_2 : decode cX12_divider 2 = .ok (.if_icmp .lt 22, 3) := by decide +kernel
theorem dX12_divider_5 : decode cX12_divider 5 = .ok (.iload_n 1, 1) := by decide +kernel
theorem dX12_divider_6 : decode cX12_divider 6 = .ok (.ldc_w 259, 3) := by decide +kernel
theorem dX12_divider_9 : decode cX12_divider 9 = .ok (.if_icmp .gt 15, 3) := by decide +kernel
theorem dX12_divider_12 : decode cX12_divider 12 = .ok (.iload_n 2, 1) := by decide +kernel
theorem dX12_divider_13 : decode cX12_divider 13 = .ok (.iconst 1, 1) := by decide +kernel
theorem dX12_divider_14 : decode cX12_divider 14 = .ok (.if_icmp .lt 10, 3) := by decide +kernel
theorem dX12_divider_17 : decode cX12_divider 17 = .ok (.iload_n 2, 1) := by decide +kernel
theorem dX12_divider_18 : decode cX12_divider 18 = .ok (.ldc_w 259, 3) := by decide +kernel
theorem dX12_divider_21 : decode cX12_divider 21 = .ok (.if_icmp .le 11, 3) := by decide +kernel
theorem dX12_divider_24 : decode cX12_divider 24 = .ok (.new 108, 3) := by decide +kernel
theorem dX12_divider_27 : decode cX12_divider 27 = .ok (.dup, 1) := by decide +kernel
theorem dX12_divider_28 : decode cX12_divider 28 = .ok (.invokespecial 110, 3) := by decide +kernel
theorem dX12_divider_31 : decode cX12_divider 31 = .ok (.athrow, 1) := by decide +kernel
theorem dX12_divider_32 : decode cX12_divider 32 = .ok (.sipush 256, 3) := by decide +kernel
theorem dX12_divider_35 : decode cX12_divider 35 = .ok (.iload_n 1, 1) := by decide +kernel
theorem dX12_divider_36 : decode cX12_divider 36 = .ok (.imul, 1) := by decide +kernel
theorem dX12_divider_37 : decode cX12_divider 37 = .ok (.istore_n 3, 1) := by decide +kernel
theorem dX12_divider_38 : decode cX12_divider 38 = .ok (.iload_n 3, 1) := by decide +kernel
theorem dX12_divider_39 : decode cX12_divider 39 = .ok (.iload_n 2, 1) := by decide +kernel
theorem dX12_divider_40 : decode cX12_divider 40 = .ok (.idiv, 1) := by decide +kernel
theorem dX12_divider_41 : decode cX12_divider 41 = .ok (.istore 4, 2) := by decide +kernel
theorem dX12_divider_43 : decode cX12_divider 43 = .ok (.iload_n 3, 1) := by decide +kernel
theorem dX12_divider_44 : decode cX12_divider 44 = .ok (.iload_n 2, 1) := by decide +kernel
theorem dX12_divider_45 : decode cX12_divider 45 = .ok (.irem, 1) := by decide +kernel
theorem dX12_divider_46 : decode cX12_divider 46 = .ok (.iconst 2, 1) := by decide +kernel
theorem dX12_divider_47 : decode cX12_divider 47 = .ok (.imul, 1) := by decide +kernel
theorem dX12_divider_48 : decode cX12_divider 48 = .ok (.iload_n 2, 1) := by decide +kernel
theorem dX12_divider_49 : decode cX12_divider 49 = .ok (.if_icmp .le 6, 3) := by decide +kernel
theorem dX12_divider_52 : decode cX12_divider 52 = .ok (.iinc 4 1, 3) := by decide +kernel
theorem dX12_divider_55 : decode cX12_divider 55 = .ok (.sipush 256, 3) := by decide +kernel
theorem dX12_divider_58 : decode cX12_divider 58 = .ok (.iload 4, 2) := by decide +kernel
theorem dX12_divider_60 : decode cX12_divider 60 = .ok (.ldc_w 288, 3) := by decide +kernel
theorem dX12_divider_63 : decode cX12_divider 63 = .ok (.invokestatic 289, 3) := by decide +kernel
theorem dX12_divider_66 : decode cX12_divider 66 = .ok (.invokestatic 295, 3) := by decide +kernel
theorem dX12_divider_69 : decode cX12_divider 69 = .ok (.ireturn, 1) := by decide +kernel
theorem dX12_format_0 : decode cX12_format 0 = .ok (.aload_n 0, 1) := by decide +kernel
theorem dX12_format_1 : decode cX12_format 1 = .ok (.iload_n 1, 1) := by decide +kernel
theorem dX12_format_2 : decode cX12_format 2 = .ok (.invokevirtual 278, 3) := by decide +kernel
theorem dX12_format_5 : decode cX12_format 5 = .ok (.aload_n 0, 1) := by decide +kernel
theorem dX12_format_6 : decode cX12_format 6 = .ok (.getfield 96, 3) := by decide +kernel
theorem dX12_format_9 : decode cX12_format 9 = .ok (.iconst 0, 1) := by decide +kernel
theorem dX12_format_10 : decode cX12_format 10 = .ok (.invokevirtual 298, 3) := by decide +kernel
theorem dX12_format_13 : decode cX12_format 13 = .ok (.aload_n 0, 1) := by decide +kernel
theorem dX12_format_14 : decode cX12_format 14 = .ok (.getfield 32, 3) := by decide +kernel
theorem dX12_format_17 : decode cX12_format 17 = .ok (.iload_n 1, 1) := by decide +kernel
theorem dX12_format_18 : decode cX12_format 18 = .ok (.invokevirtual 301, 3) := by decide +kernel
theorem dX12_format_21 : decode cX12_format 21 = .ok (.aload_n 0, 1) := by decide +kernel
theorem dX12_format_22 : decode cX12_format 22 = .ok (.getfield 96, 3) := by decide +kernel
theorem dX12_format_25 : decode cX12_format 25 = .ok (.invokevirtual 305, 3) := by decide +kernel
theorem dX12_format_28 : decode cX12_format 28 = .ok (.aload_n 0, 1) := by decide +kernel
theorem dX12_format_29 : decode cX12_format 29 = .ok (.getfield 96, 3) := by decide +kernel
theorem dX12_format_32 : decode cX12_format 32 = .ok (.invokevirtual 311, 3) := by decide +kernel
theorem dX12_format_35 : decode cX12_format 35 = .ok (.ireturn, 1) := by decide +kernel
theorem dX12_formattedByte_0 : decode cX12_formattedByte 0 = .ok (.iload_n 1, 1) := by decide +kernel
theorem dX12_formattedByte_1 : decode cX12_formattedByte 1 = .ok (.ifCond .lt 14, 3) := by decide +kernel
theorem dX12_formattedByte_4 : decode cX12_formattedByte 4 = .ok (.iload_n 1, 1) := by decide +kernel
theorem dX12_formattedByte_5 : decode cX12_formattedByte 5 = .ok (.aload_n 0, 1) := by decide +kernel
theorem dX12_formattedByte_6 : decode cX12_formattedByte 6 = .ok (.getfield 96, 3) := by decide +kernel
theorem dX12_formattedByte_9 : decode cX12_formattedByte 9 = .ok (.invokevirtual 311, 3) := by decide +kernel
theorem dX12_formattedByte_12 : decode cX12_formattedByte 12 = .ok (.if_icmp .lt 7, 3) := by decide +kernel
theorem dX12_formattedByte_15 : decode cX12_formattedByte 15 = .ok (.iconst (-1), 1) := by decide +kernel
theorem dX12_formattedByte_16 : decode cX12_formattedByte 16 = .ok (.goto 11, 3) := by decide +kernel
theorem dX12_formattedByte_19 : decode cX12_formattedByte 19 = .ok (.aload_n 0, 1) := by decide +kernel
theorem dX12_formattedByte_20 : decode cX12_formattedByte 20 = .ok (.getfield 96, 3) := by decide +kernel
theorem dX12_formattedByte_23 : decode cX12_formattedByte 23 = .ok (.iload_n 1, 1) := by decide +kernel
theorem dX12_formattedByte_24 : decode cX12_formattedByte 24 = .ok (.invokevirtual 314, 3) := by decide +kernel
theorem dX12_formattedByte_27 : decode cX12_formattedByte 27 = .ok (.ireturn, 1) := by decide +kernel
theorem dX12_undoCount_0 : decode cX12_undoCount 0 = .ok (.aload_n 0, 1) := by decide +kernel
theorem dX12_undoCount_1 : decode cX12_undoCount 1 = .ok (.getfield 90, 3) := by decide +kernel
theorem dX12_undoCount_4 : decode cX12_undoCount 4 = .ok (.ireturn, 1) := by decide +kernel
theorem dX12_undo_0 : decode cX12_undo 0 = .ok (.aload_n 0, 1) := by decide +kernel
theorem dX12_undo_1 : decode cX12_undo 1 = .ok (.getfield 90, 3) := by decide +kernel
theorem dX12_undo_4 : decode cX12_undo 4 = .ok (.ifCond .ne 5, 3) := by decide +kernel
theorem dX12_undo_7 : decode cX12_undo 7 = .ok (.iconst (-1), 1) := by decide +kernel
theorem dX12_undo_8 : decode cX12_undo 8 = .ok (.ireturn, 1) := by decide +kernel
theorem dX12_undo_9 : decode cX12_undo 9 = .ok (.aload_n 0, 1) := by decide +kernel
theorem dX12_undo_10 : decode cX12_undo 10 = .ok (.aload_n 0, 1) := by decide +kernel
theorem dX12_undo_11 : decode cX12_undo 11 = .ok (.getfield 87, 3) := by decide +kernel
theorem dX12_undo_14 : decode cX12_undo 14 = .ok (.bipush 10, 2) := by decide +kernel
theorem dX12_undo_16 : decode cX12_undo 16 = .ok (.iadd, 1) := by decide +kernel
theorem dX12_undo_17 : decode cX12_undo 17 = .ok (.iconst 1, 1) := by decide +kernel
theorem dX12_undo_18 : decode cX12_undo 18 = .ok (.isub, 1) := by decide +kernel
theorem dX12_undo_19 : decode cX12_undo 19 = .ok (.bipush 10, 2) := by decide +kernel
theorem dX12_undo_21 : decode cX12_undo 21 = .ok (.irem, 1) := by decide +kernel
theorem dX12_undo_22 : decode cX12_undo 22 = .ok (.putfield 87, 3) := by decide +kernel
theorem dX12_undo_25 : decode cX12_undo 25 = .ok (.aload_n 0, 1) := by decide +kernel
theorem dX12_undo_26 : decode cX12_undo 26 = .ok (.dup, 1) := by decide +kernel
theorem dX12_undo_27 : decode cX12_undo 27 = .ok (.getfield 90, 3) := by decide +kernel
theorem dX12_undo_30 : decode cX12_undo 30 = .ok (.iconst 1, 1) := by decide +kernel
theorem dX12_undo_31 : decode cX12_undo 31 = .ok (.isub, 1) := by decide +kernel
theorem dX12_undo_32 : decode cX12_undo 32 = .ok (.putfield 90, 3) := by decide +kernel
theorem dX12_undo_35 : decode cX12_undo 35 = .ok (.aload_n 0, 1) := by decide +kernel
theorem dX12_undo_36 : decode cX12_undo 36 = .ok (.getfield 51, 3) := by decide +kernel
theorem dX12_undo_39 : decode cX12_undo 39 = .ok (.aload_n 0, 1) := by decide +kernel
theorem dX12_undo_40 : decode cX12_undo 40 = .ok (.getfield 83, 3) := by decide +kernel
theorem dX12_undo_43 : decode cX12_undo 43 = .ok (.aload_n 0, 1) := by decide +kernel
theorem dX12_undo_44 : decode cX12_undo 44 = .ok (.getfield 87, 3) := by decide +kernel
theorem dX12_undo_47 : decode cX12_undo 47 = .ok (.aaload, 1) := by decide +kernel
theorem dX12_undo_48 : decode cX12_undo 48 = .ok (.invokevirtual 274, 3) := by decide +kernel
theorem dX12_undo_51 : decode cX12_undo 51 = .ok (.aload_n 0, 1) := by decide +kernel
theorem dX12_undo_52 : decode cX12_undo 52 = .ok (.getfield 90, 3) := by decide +kernel
theorem dX12_undo_55 : decode cX12_undo 55 = .ok (.ireturn, 1) := by decide +kernel
theorem dX12_saveSnapshot_0 : decode cX12_saveSnapshot 0 = .ok (.aload_n 0, 1) := by decide +kernel
theorem dX12_saveSnapshot_1 : decode cX12_saveSnapshot 1 = .ok (.getfield 76, 3) := by decide +kernel
theorem dX12_saveSnapshot_4 : decode cX12_saveSnapshot 4 = .ok (.aload_n 0, 1) := by decide +kernel
theorem dX12_saveSnapshot_5 : decode cX12_saveSnapshot 5 = .ok (.getfield 51, 3) := by decide +kernel
theorem dX12_saveSnapshot_8 : decode cX12_saveSnapshot 8 = .ok (.invokevirtual 274, 3) := by decide +kernel
theorem dX12_saveSnapshot_11 : decode cX12_saveSnapshot 11 = .ok (.aload_n 0, 1) := by decide +kernel
theorem dX12_saveSnapshot_12 : decode cX12_saveSnapshot 12 = .ok (.iconst 1, 1) := by decide +kernel
theorem dX12_saveSnapshot_13 : decode cX12_saveSnapshot 13 = .ok (.putfield 79, 3) := by decide +kernel
theorem dX12_saveSnapshot_16 : decode cX12_saveSnapshot 16 = .ok (.return_, 1) := by decide +kernel
theorem dX12_restoreSnapshot_0 : decode cX12_restoreSnapshot 0 = .ok (.aload_n 0, 1) := by decide +kernel
theorem dX12_restoreSnapshot_1 : decode cX12_restoreSnapshot 1 = .ok (.getfield 79, 3) := by decide +kernel
theorem dX12_restoreSnapshot_4 : decode cX12_restoreSnapshot 4 = .ok (.ifCond .ne 5, 3) := by decide +kernel
theorem dX12_restoreSnapshot_7 : decode cX12_restoreSnapshot 7 = .ok (.iconst 0, 1) := by decide +kernel
theorem dX12_restoreSnapshot_8 : decode cX12_restoreSnapshot 8 = .ok (.ireturn, 1) := by decide +kernel
theorem dX12_restoreSnapshot_9 : decode cX12_restoreSnapshot 9 = .ok (.aload_n 0, 1) := by decide +kernel
theorem dX12_restoreSnapshot_10 : decode cX12_restoreSnapshot 10 = .ok (.getfield 51, 3) := by decide +kernel
theorem dX12_restoreSnapshot_13 : decode cX12_restoreSnapshot 13 = .ok (.aload_n 0, 1) := by decide +kernel
theorem dX12_restoreSnapshot_14 : decode cX12_restoreSnapshot 14 = .ok (.getfield 76, 3) := by decide +kernel
theorem dX12_restoreSnapshot_17 : decode cX12_restoreSnapshot 17 = .ok (.invokevirtual 274, 3) := by decide +kernel
theorem dX12_restoreSnapshot_20 : decode cX12_restoreSnapshot 20 = .ok (.aload_n 0, 1) := by decide +kernel
theorem dX12_restoreSnapshot_21 : decode cX12_restoreSnapshot 21 = .ok (.iconst 0, 1) := by decide +kernel
theorem dX12_restoreSnapshot_22 : decode cX12_restoreSnapshot 22 = .ok (.putfield 90, 3) := by decide +kernel
theorem dX12_restoreSnapshot_25 : decode cX12_restoreSnapshot 25 = .ok (.iconst 1, 1) := by decide +kernel
theorem dX12_restoreSnapshot_26 : decode cX12_restoreSnapshot 26 = .ok (.ireturn, 1) := by decide +kernel
theorem dX12_query_0 : decode cX12_query 0 = .ok (.iload_n 1, 1) := by decide +kernel
theorem dX12_query_1 : decode cX12_query 1 = .ok (.ifCond .lt 18, 3) := by decide +kernel
theorem dX12_query_4 : decode cX12_query 4 = .ok (.iload_n 1, 1) := by decide +kernel
theorem dX12_query_5 : decode cX12_query 5 = .ok (.sipush 200, 3) := by decide +kernel
theorem dX12_query_8 : decode cX12_query 8 = .ok (.if_icmp .gt 11, 3) := by decide +kernel
theorem dX12_query_11 : decode cX12_query 11 = .ok (.iload_n 1, 1) := by decide +kernel
theorem dX12_query_12 : decode cX12_query 12 = .ok (.aload_n 0, 1) := by decide +kernel
theorem dX12_query_13 : decode cX12_query 13 = .ok (.getfield 13, 3) := by decide +kernel
theorem dX12_query_16 : decode cX12_query 16 = .ok (.if_icmp .le 11, 3) := by decide +kernel
theorem dX12_query_19 : decode cX12_query 19 = .ok (.new 108, 3) := by decide +kernel
theorem dX12_query_22 : decode cX12_query 22 = .ok (.dup, 1) := by decide +kernel
theorem dX12_query_23 : decode cX12_query 23 = .ok (.invokespecial 110, 3) := by decide +kernel
theorem dX12_query_26 : decode cX12_query 26 = .ok (.athrow, 1) := by decide +kernel
theorem dX12_query_27 : decode cX12_query 27 = .ok (.aload_n 0, 1) := by decide +kernel
theorem dX12_query_28 : decode cX12_query 28 = .ok (.iconst 0, 1) := by decide +kernel
theorem dX12_query_29 : decode cX12_query 29 = .ok (.putfield 13, 3) := by decide +kernel
theorem dX12_query_32 : decode cX12_query 32 = .ok (.aload_n 0, 1) := by decide +kernel
theorem dX12_query_33 : decode cX12_query 33 = .ok (.getfield 25, 3) := by decide +kernel
theorem dX12_query_36 : decode cX12_query 36 = .ok (.iload_n 1, 1) := by decide +kernel
theorem dX12_query_37 : decode cX12_query 37 = .ok (.invokevirtual 111, 3) := by decide +kernel
theorem dX12_query_40 : decode cX12_query 40 = .ok (.aload_n 0, 1) := by decide +kernel
theorem dX12_query_41 : decode cX12_query 41 = .ok (.getfield 25, 3) := by decide +kernel
theorem dX12_query_44 : decode cX12_query 44 = .ok (.sipush 8192, 3) := by decide +kernel
theorem dX12_query_47 : decode cX12_query 47 = .ok (.invokevirtual 318, 3) := by decide +kernel
theorem dX12_query_50 : decode cX12_query 50 = .ok (.astore_n 2, 1) := by decide +kernel
theorem dX12_query_51 : decode cX12_query 51 = .ok (.aload_n 0, 1) := by decide +kernel
theorem dX12_query_52 : decode cX12_query 52 = .ok (.getfield 72, 3) := by decide +kernel
theorem dX12_query_55 : decode cX12_query 55 = .ok (.iconst 0, 1) := by decide +kernel
theorem dX12_query_56 : decode cX12_query 56 = .ok (.invokevirtual 322, 3) := by decide +kernel
theorem dX12_query_59 : decode cX12_query 59 = .ok (.aload_n 0, 1) := by decide +kernel
theorem dX12_query_60 : decode cX12_query 60 = .ok (.getfield 32, 3) := by decide +kernel
theorem dX12_query_63 : decode cX12_query 63 = .ok (.invokevirtual 127, 3) := by decide +kernel
theorem dX12_query_66 : decode cX12_query 66 = .ok (.iand, 1) := by decide +kernel
theorem dX12_query_67 : decode cX12_query 67 = .ok (.istore_n 3, 1) := by decide +kernel
theorem dX12_query_68 : decode cX12_query 68 = .ok (.aload_n 0, 1) := by decide +kernel
theorem dX12_query_69 : decode cX12_query 69 = .ok (.getfield 25, 3) := by decide +kernel
theorem dX12_query_72 : decode cX12_query 72 = .ok (.invokevirtual 325, 3) := by decide +kernel
theorem dX12_query_75 : decode cX12_query 75 = .ok (.aload_n 0, 1) := by decide +kernel
theorem dX12_query_76 : decode cX12_query 76 = .ok (.aload_n 0, 1) := by decide +kernel
theorem dX12_query_77 : decode cX12_query 77 = .ok (.getfield 25, 3) := by decide +kernel
theorem dX12_query_80 : decode cX12_query 80 = .ok (.getfield 117, 3) := by decide +kernel
theorem dX12_query_83 : decode cX12_query 83 = .ok (.putfield 17, 3) := by decide +kernel
theorem dX12_query_86 : decode cX12_query 86 = .ok (.aload_n 0, 1) := by decide +kernel
theorem dX12_query_87 : decode cX12_query 87 = .ok (.getfield 25, 3) := by decide +kernel
theorem dX12_query_90 : decode cX12_query 90 = .ok (.getfield 120, 3) := by decide +kernel
theorem dX12_query_93 : decode cX12_query 93 = .ok (.ifCond .eq 15, 3) := by decide +kernel
theorem dX12_query_96 : decode cX12_query 96 = .ok (.ldc_w 328, 3) := by decide +kernel
theorem dX12_query_99 : decode cX12_query 99 = .ok (.aload_n 0, 1) := by decide +kernel
theorem dX12_query_100 : decode cX12_query 100 = .ok (.getfield 25, 3) := by decide +kernel
theorem dX12_query_103 : decode cX12_query 103 = .ok (.getfield 120, 3) := by decide +kernel
theorem dX12_query_106 : decode cX12_query 106 = .ok (.isub, 1) := by decide +kernel
theorem dX12_query_107 : decode cX12_query 107 = .ok (.ireturn, 1) := by decide +kernel
theorem dX12_query_108 : decode cX12_query 108 = .ok (.aload_n 2, 1) := by decide +kernel
theorem dX12_query_109 : decode cX12_query 109 = .ok (.getstatic 329, 3) := by decide +kernel
theorem dX12_query_112 : decode cX12_query 112 = .ok (.if_acmp .ne 10, 3) := by decide +kernel
theorem dX12_query_115 : decode cX12_query 115 = .ok (.iload_n 3, 1) := by decide +kernel
theorem dX12_query_116 : decode cX12_query 116 = .ok (.invokestatic 335, 3) := by decide +kernel
theorem dX12_query_119 : decode cX12_query 119 = .ok (.goto 7, 3) := by decide +kernel
theorem dX12_query_122 : decode cX12_query 122 = .ok (.iload_n 3, 1) := by decide +kernel
theorem dX12_query_123 : decode cX12_query 123 = .ok (.invokestatic 340, 3) := by decide +kernel
theorem dX12_query_126 : decode cX12_query 126 = .ok (.ireturn, 1) := by decide +kernel
theorem dX12_appendBytes_0 : decode cX12_appendBytes 0 = .ok (.bipush 24, 2) := by decide +kernel
theorem dX12_appendBytes_2 : decode cX12_appendBytes 2 = .ok (.istore_n 2, 1) := by decide +kernel
theorem dX12_appendBytes_3 : decode cX12_appendBytes 3 = .ok (.iload_n 2, 1) := by decide +kernel
theorem dX12_appendBytes_4 : decode cX12_appendBytes 4 = .ok (.ifCond .lt 42, 3) := by decide +kernel
theorem dX12_appendBytes_7 : decode cX12_appendBytes 7 = .ok (.aload_n 0, 1) := by decide +kernel
theorem dX12_appendBytes_8 : decode cX12_appendBytes 8 = .ok (.getfield 13, 3) := by decide +kernel
theorem dX12_appendBytes_11 : decode cX12_appendBytes 11 = .ok (.sipush 1000, 3) := by decide +kernel
theorem dX12_appendBytes_14 : decode cX12_appendBytes 14 = .ok (.if_icmp .ge 26, 3) := by decide +kernel
theorem dX12_appendBytes_17 : decode cX12_appendBytes 17 = .ok (.aload_n 0, 1) := by decide +kernel
theorem dX12_appendBytes_18 : decode cX12_appendBytes 18 = .ok (.getfield 9, 3) := by decide +kernel
theorem dX12_appendBytes_21 : decode cX12_appendBytes 21 = .ok (.aload_n 0, 1) := by decide +kernel
theorem dX12_appendBytes_22 : decode cX12_appendBytes 22 = .ok (.getfield 13, 3) := by decide +kernel
theorem dX12_appendBytes_25 : decode cX12_appendBytes 25 = .ok (.iload_n 1, 1) := by decide +kernel
theorem dX12_appendBytes_26 : decode cX12_appendBytes 26 = .ok (.iload_n 2, 1) := by decide +kernel
theorem dX12_appendBytes_27 : decode cX12_appendBytes 27 = .ok (.ishr, 1) := by decide +kernel
theorem dX12_appendBytes_28 : decode cX12_appendBytes 28 = .ok (.i2b, 1) := by decide +kernel
theorem dX12_appendBytes_29 : decode cX12_appendBytes 29 = .ok (.bastore, 1) := by decide +kernel
theorem dX12_appendBytes_30 : decode cX12_appendBytes 30 = .ok (.aload_n 0, 1) := by decide +kernel
theorem dX12_appendBytes_31 : decode cX12_appendBytes 31 = .ok (.dup, 1) := by decide +kernel
theorem dX12_appendBytes_32 : decode cX12_appendBytes 32 = .ok (.getfield 13, 3) := by decide +kernel
theorem dX12_appendBytes_35 : decode cX12_appendBytes 35 = .ok (.iconst 1, 1) := by decide +kernel
theorem dX12_appendBytes_36 : decode cX12_appendBytes 36 = .ok (.iadd, 1) := by decide +kernel
theorem dX12_appendBytes_37 : decode cX12_appendBytes 37 = .ok (.putfield 13, 3) := by decide +kernel
theorem dX12_appendBytes_40 : decode cX12_appendBytes 40 = .ok (.iinc 2 (-8), 3) := by decide +kernel
theorem dX12_appendBytes_43 : decode cX12_appendBytes 43 = .ok (.goto (-40), 3) := by decide +kernel
theorem dX12_appendBytes_46 : decode cX12_appendBytes 46 = .ok (.return_, 1) := by decide +kernel
theorem dX12_remember_0 : decode cX12_remember 0 = .ok (.aload_n 0, 1) := by decide +kernel
theorem dX12_remember_1 : decode cX12_remember 1 = .ok (.getfield 83, 3) := by decide +kernel
theorem dX12_remember_4 : decode cX12_remember 4 = .ok (.aload_n 0, 1) := by decide +kernel
theorem dX12_remember_5 : decode cX12_remember 5 = .ok (.getfield 87, 3) := by decide +kernel
theorem dX12_remember_8 : decode cX12_remember 8 = .ok (.aaload, 1) := by decide +kernel
theorem dX12_remember_9 : decode cX12_remember 9 = .ok (.aload_n 0, 1) := by decide +kernel
theorem dX12_remember_10 : decode cX12_remember 10 = .ok (.getfield 51, 3) := by decide +kernel
theorem dX12_remember_13 : decode cX12_remember 13 = .ok (.invokevirtual 274, 3) := by decide +kernel
theorem dX12_remember_16 : decode cX12_remember 16 = .ok (.aload_n 0, 1) := by decide +kernel
theorem dX12_remember_17 : decode cX12_remember 17 = .ok (.aload_n 0, 1) := by decide +kernel
theorem dX12_remember_18 : decode cX12_remember 18 = .ok (.getfield 87, 3) := by decide +kernel
theorem dX12_remember_21 : decode cX12_remember 21 = .ok (.iconst 1, 1) := by decide +kernel
theorem dX12_remember_22 : decode cX12_remember 22 = .ok (.iadd, 1) := by decide +kernel
theorem dX12_remember_23 : decode cX12_remember 23 = .ok (.bipush 10, 2) := by decide +kernel
theorem dX12_remember_25 : decode cX12_remember 25 = .ok (.irem, 1) := by decide +kernel
theorem dX12_remember_26 : decode cX12_remember 26 = .ok (.putfield 87, 3) := by decide +kernel
theorem dX12_remember_29 : decode cX12_remember 29 = .ok (.aload_n 0, 1) := by decide +kernel
theorem dX12_remember_30 : decode cX12_remember 30 = .ok (.aload_n 0, 1) := by decide +kernel
theorem dX12_remember_31 : decode cX12_remember 31 = .ok (.getfield 90, 3) := by decide +kernel
theorem dX12_remember_34 : decode cX12_remember 34 = .ok (.iconst 1, 1) := by decide +kernel
theorem dX12_remember_35 : decode cX12_remember 35 = .ok (.iadd, 1) := by decide +kernel
theorem dX12_remember_36 : decode cX12_remember 36 = .ok (.bipush 10, 2) := by decide +kernel
theorem dX12_remember_38 : decode cX12_remember 38 = .ok (.invokestatic 289, 3) := by decide +kernel
theorem dX12_remember_41 : decode cX12_remember 41 = .ok (.putfield 90, 3) := by decide +kernel
theorem dX12_remember_44 : decode cX12_remember 44 = .ok (.return_, 1) := by decide +kernel
theorem dX12_idleEngines_0 : decode cX12_idleEngines 0 = .ok (.iconst 0, 1) := by decide +kernel
theorem dX12_idleEngines_1 : decode cX12_idleEngines 1 = .ok (.istore_n 1, 1) := by decide +kernel
theorem dX12_idleEngines_2 : decode cX12_idleEngines 2 = .ok (.iconst 0, 1) := by decide +kernel
theorem dX12_idleEngines_3 : decode cX12_idleEngines 3 = .ok (.istore_n 2, 1) := by decide +kernel
theorem dX12_idleEngines_4 : decode cX12_idleEngines 4 = .ok (.iload_n 2, 1) := by decide +kernel
theorem dX12_idleEngines_5 : decode cX12_idleEngines 5 = .ok (.iconst 4, 1) := by decide +kernel
theorem dX12_idleEngines_6 : decode cX12_idleEngines 6 = .ok (.if_icmp .ge 78, 3) := by decide +kernel
theorem dX12_idleEngines_9 : decode cX12_idleEngines 9 = .ok (.aload_n 0, 1) := by decide +kernel
theorem dX12_idleEngines_10 : decode cX12_idleEngines 10 = .ok (.getfield 51, 3) := by decide +kernel
theorem dX12_idleEngines_13 : decode cX12_idleEngines 13 = .ok (.getfield 281, 3) := by decide +kernel
theorem dX12_idleEngines_16 : decode cX12_idleEngines 16 = .ok (.iload_n 2, 1) := by decide +kernel
theorem dX12_idleEngines_17 : decode cX12_idleEngines 17 = .ok (.aaload, 1) := by decide +kernel
theorem dX12_idleEngines_18 : decode cX12_idleEngines 18 = .ok (.astore_n 3, 1) := by decide +kernel
theorem dX12_idleEngines_19 : decode cX12_idleEngines 19 = .ok (.aload_n 0, 1) := by decide +kernel
theorem dX12_idleEngines_20 : decode cX12_idleEngines 20 = .ok (.getfield 32, 3) := by decide +kernel
theorem dX12_idleEngines_23 : decode cX12_idleEngines 23 = .ok (.iload_n 2, 1) := by decide +kernel
theorem dX12_idleEngines_24 : decode cX12_idleEngines 24 = .ok (.invokevirtual 343, 3) := by decide +kernel
theorem dX12_idleEngines_27 : decode cX12_idleEngines 27 = .ok (.ifCond .eq 14, 3) := by decide +kernel
theorem dX12_idleEngines_30 : decode cX12_idleEngines 30 = .ok (.aload_n 3, 1) := by decide +kernel
theorem dX12_idleEngines_31 : decode cX12_idleEngines 31 = .ok (.getfield 195, 3) := by decide +kernel
theorem dX12_idleEngines_34 : decode cX12_idleEngines 34 = .ok (.ifCond .eq 7, 3) := by decide +kernel
theorem dX12_idleEngines_37 : decode cX12_idleEngines 37 = .ok (.iconst 1, 1) := by decide +kernel
theorem dX12_idleEngines_38 : decode cX12_idleEngines 38 = .ok (.goto 4, 3) := by decide +kernel
theorem dX12_idleEngines_41 : decode cX12_idleEngines 41 = .ok (.iconst 0, 1) := by decide +kernel
theorem dX12_idleEngines_42 : decode cX12_idleEngines 42 = .ok (.istore 4, 2) := by decide +kernel
theorem dX12_idleEngines_44 : decode cX12_idleEngines 44 = .ok (.iload 4, 2) := by decide +kernel
theorem dX12_idleEngines_46 : decode cX12_idleEngines 46 = .ok (.ifCond .eq 32, 3) := by decide +kernel
theorem dX12_idleEngines_49 : decode cX12_idleEngines 49 = .ok (.aload_n 0, 1) := by decide +kernel
theorem dX12_idleEngines_50 : decode cX12_idleEngines 50 = .ok (.getfield 55, 3) := by decide +kernel
theorem dX12_idleEngines_53 : decode cX12_idleEngines 53 = .ok (.getfield 281, 3) := by decide +kernel
theorem dX12_idleEngines_56 : decode cX12_idleEngines 56 = .ok (.iload_n 2, 1) := by decide +kernel
theorem dX12_idleEngines_57 : decode cX12_idleEngines 57 = .ok (.aaload, 1) := by decide +kernel
theorem dX12_idleEngines_58 : decode cX12_idleEngines 58 = .ok (.getfield 217, 3) := by decide +kernel
theorem dX12_idleEngines_61 : decode cX12_idleEngines 61 = .ok (.iconst 0, 1) := by decide +kernel
theorem dX12_idleEngines_62 : decode cX12_idleEngines 62 = .ok (.iaload, 1) := by decide +kernel
theorem dX12_idleEngines_63 : decode cX12_idleEngines 63 = .ok (.aload_n 3, 1) := by decide +kernel
theorem dX12_idleEngines_64 : decode cX12_idleEngines 64 = .ok (.getfield 217, 3) := by decide +kernel
theorem dX12_idleEngines_67 : decode cX12_idleEngines 67 = .ok (.iconst 0, 1) := by decide +kernel
theorem dX12_idleEngines_68 : decode cX12_idleEngines 68 = .ok (.iaload, 1) := by decide +kernel
theorem dX12_idleEngines_69 : decode cX12_idleEngines 69 = .ok (.if_icmp .ne 9, 3) := by decide +kernel
theorem dX12_idleEngines_72 : decode cX12_idleEngines 72 = .ok (.iload_n 1, 1) := by decide +kernel
theorem dX12_idleEngines_73 : decode cX12_idleEngines 73 = .ok (.iconst 1, 1) := by decide +kernel
theorem dX12_idleEngines_74 : decode cX12_idleEngines 74 = .ok (.iload_n 2, 1) := by decide +kernel
theorem dX12_idleEngines_75 : decode cX12_idleEngines 75 = .ok (.ishl, 1) := by decide +kernel
theorem dX12_idleEngines_76 : decode cX12_idleEngines 76 = .ok (.ior, 1) := by decide +kernel
theorem dX12_idleEngines_77 : decode cX12_idleEngines 77 = .ok (.istore_n 1, 1) := by decide +kernel
theorem dX12_idleEngines_78 : decode cX12_idleEngines 78 = .ok (.iinc 2 1, 3) := by decide +kernel
theorem dX12_idleEngines_81 : decode cX12_idleEngines 81 = .ok (.goto (-77), 3) := by decide +kernel
theorem dX12_idleEngines_84 : decode cX12_idleEngines 84 = .ok (.iload_n 1, 1) := by decide +kernel
theorem dX12_idleEngines_85 : decode cX12_idleEngines 85 = .ok (.ireturn, 1) := by decide +kernel
theorem dX12_firstEngine_0 : decode cX12_firstEngine 0 = .ok (.iconst 0, 1) := by decide +kernel
theorem dX12_firstEngine_1 : decode cX12_firstEngine 1 = .ok (.istore_n 1, 1) := by decide +kernel
theorem dX12_firstEngine_2 : decode cX12_firstEngine 2 = .ok (.iload_n 1, 1) := by decide +kernel
theorem dX12_firstEngine_3 : decode cX12_firstEngine 3 = .ok (.iconst 4, 1) := by decide +kernel
theorem dX12_firstEngine_4 : decode cX12_firstEngine 4 = .ok (.if_icmp .ge 20, 3) := by decide +kernel
theorem dX12_firstEngine_7 : decode cX12_firstEngine 7 = .ok (.iload_n 0, 1) := by decide +kernel
theorem dX12_firstEngine_8 : decode cX12_firstEngine 8 = .ok (.iload_n 1, 1) := by decide +kernel
theorem dX12_firstEngine_9 : decode cX12_firstEngine 9 = .ok (.ishr, 1) := by decide +kernel
theorem dX12_firstEngine_10 : decode cX12_firstEngine 10 = .ok (.iconst 1, 1) := by decide +kernel
theorem dX12_firstEngine_11 : decode cX12_firstEngine 11 = .ok (.iand, 1) := by decide +kernel
theorem dX12_firstEngine_12 : decode cX12_firstEngine 12 = .ok (.iconst 1, 1) := by decide +kernel
theorem dX12_firstEngine_13 : decode cX12_firstEngine 13 = .ok (.if_icmp .ne 5, 3) := by decide +kernel
theorem dX12_firstEngine_16 : decode cX12_firstEngine 16 = .ok (.iload_n 1, 1) := by decide +kernel
theorem dX12_firstEngine_17 : decode cX12_firstEngine 17 = .ok (.ireturn, 1) := by decide +kernel
theorem dX12_firstEngine_18 : decode cX12_firstEngine 18 = .ok (.iinc 1 1, 3) := by decide +kernel
theorem dX12_firstEngine_21 : decode cX12_firstEngine 21 = .ok (.goto (-19), 3) := by decide +kernel
theorem dX12_firstEngine_24 : decode cX12_firstEngine 24 = .ok (.iconst (-1), 1) := by decide +kernel
theorem dX12_firstEngine_25 : decode cX12_firstEngine 25 = .ok (.ireturn, 1) := by decide +kernel
theorem dX12_existingEngine_0 : decode cX12_existingEngine 0 = .ok (.aload_n 0, 1) := by decide +kernel
theorem dX12_existingEngine_1 : decode cX12_existingEngine 1 = .ok (.getfield 32, 3) := by decide +kernel
theorem dX12_existingEngine_4 : decode cX12_existingEngine 4 = .ok (.iload_n 1, 1) := by decide +kernel
theorem dX12_existingEngine_5 : decode cX12_existingEngine 5 = .ok (.invokevirtual 343, 3) := by decide +kernel
theorem dX12_existingEngine_8 : decode cX12_existingEngine 8 = .ok (.ifCond .ne 11, 3) := by decide +kernel
theorem dX12_existingEngine_11 : decode cX12_existingEngine 11 = .ok (.new 146, 3) := by decide +kernel
theorem dX12_existingEngine_14 : decode cX12_existingEngine 14 = .ok (.dup, 1) := by decide +kernel
theorem dX12_existingEngine_15 : decode cX12_existingEngine 15 = .ok (.invokespecial 148, 3) := by decide +kernel
theorem dX12_existingEngine_18 : decode cX12_existingEngine 18 = .ok (.athrow, 1) := by decide +kernel
theorem dX12_existingEngine_19 : decode cX12_existingEngine 19 = .ok (.aload_n 0, 1) := by decide +kernel
theorem dX12_existingEngine_20 : decode cX12_existingEngine 20 = .ok (.getfield 51, 3) := by decide +kernel
theorem dX12_existingEngine_23 : decode cX12_existingEngine 23 = .ok (.getfield 281, 3) := by decide +kernel
theorem dX12_existingEngine_26 : decode cX12_existingEngine 26 = .ok (.iload_n 1, 1) := by decide +kernel
theorem dX12_existingEngine_27 : decode cX12_existingEngine 27 = .ok (.aaload, 1) := by decide +kernel
theorem dX12_existingEngine_28 : decode cX12_existingEngine 28 = .ok (.areturn, 1) := by decide +kernel
theorem dX12_existingQueue_0 : decode cX12_existingQueue 0 = .ok (.aload_n 0, 1) := by decide +kernel
theorem dX12_existingQueue_1 : decode cX12_existingQueue 1 = .ok (.iload_n 1, 1) := by decide +kernel
theorem dX12_existingQueue_2 : decode cX12_existingQueue 2 = .ok (.invokevirtual 162, 3) := by decide +kernel
theorem dX12_existingQueue_5 : decode cX12_existingQueue 5 = .ok (.astore_n 3, 1) := by decide +kernel
theorem dX12_existingQueue_6 : decode cX12_existingQueue 6 = .ok (.iload_n 2, 1) := by decide +kernel
theorem dX12_existingQueue_7 : decode cX12_existingQueue 7 = .ok (.ifCond .eq 10, 3) := by decide +kernel
theorem dX12_existingQueue_10 : decode cX12_existingQueue 10 = .ok (.aload_n 3, 1) := by decide +kernel
theorem dX12_existingQueue_11 : decode cX12_existingQueue 11 = .ok (.getfield 347, 3) := by decide +kernel
theorem dX12_existingQueue_14 : decode cX12_existingQueue 14 = .ok (.goto 7, 3) := by decide +kernel
theorem dX12_existingQueue_17 : decode cX12_existingQueue 17 = .ok (.aload_n 3, 1) := by decide +kernel
theorem dX12_existingQueue_18 : decode cX12_existingQueue 18 = .ok (.getfield 351, 3) := by decide +kernel
theorem dX12_existingQueue_21 : decode cX12_existingQueue 21 = .ok (.areturn, 1) := by decide +kernel
theorem dX12_checkAddress_0 : decode cX12_checkAddress 0 = .ok (.iload_n 1, 1) := by decide +kernel
theorem dX12_checkAddress_1 : decode cX12_checkAddress 1 = .ok (.ifCond .lt 14, 3) := by decide +kernel
theorem dX12_checkAddress_4 : decode cX12_checkAddress 4 = .ok (.iload_n 1, 1) := by decide +kernel
theorem dX12_checkAddress_5 : decode cX12_checkAddress 5 = .ok (.aload_n 0, 1) := by decide +kernel
theorem dX12_checkAddress_6 : decode cX12_checkAddress 6 = .ok (.getfield 32, 3) := by decide +kernel
theorem dX12_checkAddress_9 : decode cX12_checkAddress 9 = .ok (.getfield 124, 3) := by decide +kernel
theorem dX12_checkAddress_12 : decode cX12_checkAddress 12 = .ok (.if_icmp .lt 11, 3) := by decide +kernel
theorem dX12_checkAddress_15 : decode cX12_checkAddress 15 = .ok (.new 146, 3) := by decide +kernel
theorem dX12_checkAddress_18 : decode cX12_checkAddress 18 = .ok (.dup, 1) := by decide +kernel
theorem dX12_checkAddress_19 : decode cX12_checkAddress 19 = .ok (.invokespecial 148, 3) := by decide +kernel
theorem dX12_checkAddress_22 : decode cX12_checkAddress 22 = .ok (.athrow, 1) := by decide +kernel
theorem dX12_checkAddress_23 : decode cX12_checkAddress 23 = .ok (.return_, 1) := by decide +kernel
theorem dX12_checkPin_0 : decode cX12_checkPin 0 = .ok (.iload_n 0, 1) := by decide +kernel
theorem dX12_checkPin_1 : decode cX12_checkPin 1 = .ok (.ifCond .lt 9, 3) := by decide +kernel
theorem dX12_checkPin_4 : decode cX12_checkPin 4 = .ok (.iload_n 0, 1) := by decide +kernel
theorem dX12_checkPin_5 : decode cX12_checkPin 5 = .ok (.bipush 16, 2) := by decide +kernel
theorem dX12_checkPin_7 : decode cX12_checkPin 7 = .ok (.if_icmp .lt 11, 3) := by decide +kernel
theorem dX12_checkPin_10 : decode cX12_checkPin 10 = .ok (.new 146, 3) := by decide +kernel
theorem dX12_checkPin_13 : decode cX12_checkPin 13 = .ok (.dup, 1) := by decide +kernel
theorem dX12_checkPin_14 : decode cX12_checkPin 14 = .ok (.invokespecial 148, 3) := by decide +kernel
theorem dX12_checkPin_17 : decode cX12_checkPin 17 = .ok (.athrow, 1) := by decide +kernel
theorem dX12_checkPin_18 : decode cX12_checkPin 18 = .ok (.return_, 1) := by decide +kernel
theorem dX12_checkMemory_0 : decode cX12_checkMemory 0 = .ok (.iload_n 0, 1) := by decide +kernel
theorem dX12_checkMemory_1 : decode cX12_checkMemory 1 = .ok (.ifCond .lt 9, 3) := by decide +kernel
theorem dX12_checkMemory_4 : decode cX12_checkMemory 4 = .ok (.iload_n 0, 1) := by decide +kernel
theorem dX12_checkMemory_5 : decode cX12_checkMemory 5 = .ok (.bipush 16, 2) := by decide +kernel
theorem dX12_checkMemory_7 : decode cX12_checkMemory 7 = .ok (.if_icmp .lt 11, 3) := by decide +kernel
theorem dX12_checkMemory_10 : decode cX12_checkMemory 10 = .ok (.new 146, 3) := by decide +kernel
theorem dX12_checkMemory_13 : decode cX12_checkMemory 13 = .ok (.dup, 1) := by decide +kernel
theorem dX12_checkMemory_14 : decode cX12_checkMemory 14 = .ok (.invokespecial 148, 3) := by decide +kernel
theorem dX12_checkMemory_17 : decode cX12_checkMemory 17 = .ok (.athrow, 1) := by decide +kernel
theorem dX12_checkMemory_18 : decode cX12_checkMemory 18 = .ok (.return_, 1) := by decide +kernel
theorem dX12_checkLevel_0 : decode cX12_checkLevel 0 = .ok (.iload_n 0, 1) := by decide +kernel
theorem dX12_checkLevel_1 : decode cX12_checkLevel 1 = .ok (.ifCond .lt 8, 3) := by decide +kernel
theorem dX12_checkLevel_4 : decode cX12_checkLevel 4 = .ok (.iload_n 0, 1) := by decide +kernel
theorem dX12_checkLevel_5 : decode cX12_checkLevel 5 = .ok (.iconst 1, 1) := by decide +kernel
theorem dX12_checkLevel_6 : decode cX12_checkLevel 6 = .ok (.if_icmp .le 11, 3) := by decide +kernel
theorem dX12_checkLevel_9 : decode cX12_checkLevel 9 = .ok (.new 108, 3) := by decide +kernel
theorem dX12_checkLevel_12 : decode cX12_checkLevel 12 = .ok (.dup, 1) := by decide +kernel
theorem dX12_checkLevel_13 : decode cX12_checkLevel 13 = .ok (.invokespecial 110, 3) := by decide +kernel
theorem dX12_checkLevel_16 : decode cX12_checkLevel 16 = .ok (.athrow, 1) := by decide +kernel
theorem dX12_checkLevel_17 : decode cX12_checkLevel 17 = .ok (.return_, 1) := by decide +kernel
theorem dX12_checkLimit_0 : decode cX12_checkLimit 0 = .ok (.iload_n 0, 1) := by decide +kernel
theorem dX12_checkLimit_1 : decode cX12_checkLimit 1 = .ok (.ifCond .lt 10, 3) := by decide +kernel
theorem dX12_checkLimit_4 : decode cX12_checkLimit 4 = .ok (.iload_n 0, 1) := by decide +kernel
theorem dX12_checkLimit_5 : decode cX12_checkLimit 5 = .ok (.sipush 2000, 3) := by decide +kernel
theorem dX12_checkLimit_8 : decode cX12_checkLimit 8 = .ok (.if_icmp .le 11, 3) := by decide +kernel
theorem dX12_checkLimit_11 : decode cX12_checkLimit 11 = .ok (.new 108, 3) := by decide +kernel
theorem dX12_checkLimit_14 : decode cX12_checkLimit 14 = .ok (.dup, 1) := by decide +kernel
theorem dX12_checkLimit_15 : decode cX12_checkLimit 15 = .ok (.invokespecial 110, 3) := by decide +kernel
theorem dX12_checkLimit_18 : decode cX12_checkLimit 18 = .ok (.athrow, 1) := by decide +kernel
theorem dX12_checkLimit_19 : decode cX12_checkLimit 19 = .ok (.return_, 1) := by decide +kernel
theorem dX12_unsigned_0 : decode cX12_unsigned 0 = .ok (.iload_n 0, 1) := by decide +kernel
theorem dX12_unsigned_1 : decode cX12_unsigned 1 = .ok (.i2l, 1) := by decide +kernel
theorem dX12_unsigned_2 : decode cX12_unsigned 2 = .ok (.ldc2_w 354, 3) := by decide +kernel
theorem dX12_unsigned_5 : decode cX12_unsigned 5 = .ok (.land, 1) := by decide +kernel
theorem dX12_unsigned_6 : decode cX12_unsigned 6 = .ok (.lreturn, 1) := by decide +kernel
theorem dX12_rotatedPins_0 : decode cX12_rotatedPins 0 = .ok (.iload_n 0, 1) := by decide +kernel
theorem dX12_rotatedPins_1 : decode cX12_rotatedPins 1 = .ok (.ldc_w 288, 3) := by decide +kernel
theorem dX12_rotatedPins_4 : decode cX12_rotatedPins 4 = .ok (.iand, 1) := by decide +kernel
theorem dX12_rotatedPins_5 : decode cX12_rotatedPins 5 = .ok (.istore_n 2, 1) := by decide +kernel
theorem dX12_rotatedPins_6 : decode cX12_rotatedPins 6 = .ok (.iload_n 2, 1) := by decide +kernel
theorem dX12_rotatedPins_7 : decode cX12_rotatedPins 7 = .ok (.iload_n 1, 1) := by decide +kernel
theorem dX12_rotatedPins_8 : decode cX12_rotatedPins 8 = .ok (.ishl, 1) := by decide +kernel
theorem dX12_rotatedPins_9 : decode cX12_rotatedPins 9 = .ok (.iload_n 2, 1) := by decide +kernel
theorem dX12_rotatedPins_10 : decode cX12_rotatedPins 10 = .ok (.bipush 16, 2) := by decide +kernel
theorem dX12_rotatedPins_12 : decode cX12_rotatedPins 12 = .ok (.iload_n 1, 1) := by decide +kernel
theorem dX12_rotatedPins_13 : decode cX12_rotatedPins 13 = .ok (.isub, 1) := by decide +kernel
theorem dX12_rotatedPins_14 : decode cX12_rotatedPins 14 = .ok (.iushr, 1) := by decide +kernel
theorem dX12_rotatedPins_15 : decode cX12_rotatedPins 15 = .ok (.ior, 1) := by decide +kernel
theorem dX12_rotatedPins_16 : decode cX12_rotatedPins 16 = .ok (.ldc_w 288, 3) := by decide +kernel
theorem dX12_rotatedPins_19 : decode cX12_rotatedPins 19 = .ok (.iand, 1) := by decide +kernel
theorem dX12_rotatedPins_20 : decode cX12_rotatedPins 20 = .ok (.ireturn, 1) := by decide +kernel
theorem dX13_init_0 : decode cX13_init 0 = .ok (.aload_n 0, 1) := by decide +kernel
theorem dX13_init_1 : decode cX13_init 1 = .ok (.invokespecial 1, 3) := by decide +kernel
theorem dX13_init_4 : decode cX13_init 4 = .ok (.aload_n 0, 1) := by decide +kernel
theorem dX13_init_5 : decode cX13_init 5 = .ok (.sipush 700, 3) := by decide +kernel
theorem dX13_init_8 : decode cX13_init 8 = .ok (.newarray .int, 2) := by decide +kernel
theorem dX13_init_10 : decode cX13_init 10 = .ok (.putfield 9, 3) := by decide +kernel
theorem dX13_init_13 : decode cX13_init 13 = .ok (.aload_n 0, 1) := by decide +kernel
theorem dX13_init_14 : decode cX13_init 14 = .ok (.sipush 700, 3) := by decide +kernel
theorem dX13_init_17 : decode cX13_init 17 = .ok (.newarray .int, 2) := by decide +kernel
theorem dX13_init_19 : decode cX13_init 19 = .ok (.putfield 13, 3) := by decide +kernel
theorem dX13_init_22 : decode cX13_init 22 = .ok (.aload_n 0, 1) := by decide +kernel
theorem dX13_init_23 : decode cX13_init 23 = .ok (.sipush 700, 3) := by decide +kernel
theorem dX13_init_26 : decode cX13_init 26 = .ok (.newarray .int, 2) := by decide +kernel
theorem dX13_init_28 : decode cX13_init 28 = .ok (.putfield 16, 3) := by decide +kernel
theorem dX13_init_31 : decode cX13_init 31 = .ok (.aload_n 0, 1) := by decide +kernel
theorem dX13_init_32 : decode cX13_init 32 = .ok (.sipush 700, 3) := by decide +kernel
theorem dX13_init_35 : decode cX13_init 35 = .ok (.newarray .int, 2) := by decide +kernel
theorem dX13_init_37 : decode cX13_init 37 = .ok (.putfield 19, 3) := by decide +kernel
theorem dX13_init_40 : decode cX13_init 40 = .ok (.aload_n 0, 1) := by decide +kernel
theorem dX13_init_41 : decode cX13_init 41 = .ok (.sipush 7000, 3) := by decide +kernel
theorem dX13_init_44 : decode cX13_init 44 = .ok (.newarray .int, 2) := by decide +kernel
theorem dX13_init_46 : decode cX13_init 46 = .ok (.putfield 22, 3) := by decide +kernel
theorem dX13_init_49 : decode cX13_init 49 = .ok (.aload_n 0, 1) := by decide +kernel
theorem dX13_init_50 : decode cX13_init 50 = .ok (.bipush 16, 2) := by decide +kernel
theorem dX13_init_52 : decode cX13_init 52 = .ok (.newarray .int, 2) := by decide +kernel
theorem dX13_init_54 : decode cX13_init 54 = .ok (.putfield 25, 3) := by decide +kernel
theorem dX13_init_57 : decode cX13_init 57 = .ok (.aload_n 0, 1) := by decide +kernel
theorem dX13_init_58 : decode cX13_init 58 = .ok (.bipush 8, 2) := by decide +kernel
theorem dX13_init_60 : decode cX13_init 60 = .ok (.newarray .int, 2) := by decide +kernel
theorem dX13_init_62 : decode cX13_init 62 = .ok (.putfield 28, 3) := by decide +kernel
theorem dX13_init_65 : decode cX13_init 65 = .ok (.aload_n 0, 1) := by decide +kernel
theorem dX13_init_66 : decode cX13_init 66 = .ok (.iconst 4, 1) := by decide +kernel
theorem dX13_init_67 : decode cX13_init 67 = .ok (.newarray .boolean, 2) := by decide +kernel
theorem dX13_init_69 : decode cX13_init 69 = .ok (.putfield 31, 3) := by decide +kernel
theorem dX13_init_72 : decode cX13_init 72 = .ok (.aload_n 0, 1) := by decide +kernel
theorem dX13_init_73 : decode cX13_init 73 = .ok (.iconst 4, 1) := by decide +kernel
theorem dX13_init_74 : decode cX13_init 74 = .ok (.newarray .int, 2) := by decide +kernel
theorem dX13_init_76 : decode cX13_init 76 = .ok (.putfield 35, 3) := by decide +kernel
theorem dX13_init_79 : decode cX13_init 79 = .ok (.aload_n 0, 1) := by decide +kernel
theorem dX13_init_80 : decode cX13_init 80 = .ok (.iconst 4, 1) := by decide +kernel
theorem dX13_init_81 : decode cX13_init 81 = .ok (.newarray .int, 2) := by decide +kernel
theorem dX13_init_83 : decode cX13_init 83 = .ok (.putfield 38, 3) := by decide +kernel
theorem dX13_init_86 : decode cX13_init 86 = .ok (.aload_n 0, 1) := by decide +kernel
theorem dX13_init_87 : decode cX13_init 87 = .ok (.iconst 4, 1) := by decide +kernel
theorem dX13_init_88 : decode cX13_init 88 = .ok (.newarray .int, 2) := by decide +kernel
theorem dX13_init_90 : decode cX13_init 90 = .ok (.putfield 41, 3) := by decide +kernel
theorem dX13_init_93 : decode cX13_init 93 = .ok (.aload_n 0, 1) := by decide +kernel
theorem dX13_init_94 : decode cX13_init 94 = .ok (.iconst 4, 1) := by decide +kernel
theorem dX13_init_95 : decode cX13_init 95 = .ok (.newarray .int, 2) := by decide +kernel
theorem dX13_init_97 : decode cX13_init 97 = .ok (.putfield 44, 3) := by decide +kernel
theorem dX13_init_100 : decode cX13_init 100 = .ok (.aload_n 0, 1) := by decide +kernel
theorem dX13_init_101 : decode cX13_init 101 = .ok (.iconst 4, 1) := by decide +kernel
theorem dX13_init_102 : decode cX13_init 102 = .ok (.newarray .int, 2) := by decide +kernel
theorem dX13_init_104 : decode cX13_init 104 = .ok (.putfield 47, 3) := by decide +kernel
theorem dX13_init_107 : decode cX13_init 107 = .ok (.aload_n 0, 1) := by decide +kernel
theorem dX13_init_108 : decode cX13_init 108 = .ok (.sipush 1000, 3) := by decide +kernel
theorem dX13_init_111 : decode cX13_init 111 = .ok (.newarray .int, 2) := by decide +kernel
theorem dX13_init_113 : decode cX13_init 113 = .ok (.putfield 50, 3) := by decide +kernel
theorem dX13_init_116 : decode cX13_init 116 = .ok (.aload_n 0, 1) := by decide +kernel
theorem dX13_init_117 : decode cX13_init 117 = .ok (.iconst (-1), 1) := by decide +kernel
theorem dX13_init_118 : decode cX13_init 118 = .ok (.putfield 53, 3) := by decide +kernel
theorem dX13_init_121 : decode cX13_init 121 = .ok (.aload_n 0, 1) := by decide +kernel
theorem dX13_init_122 : decode cX13_init 122 = .ok (.bipush 13, 2) := by decide +kernel
theorem dX13_init_124 : decode cX13_init 124 = .ok (.anewarray 57, 3) := by decide +kernel
theorem dX13_init_127 : decode cX13_init 127 = .ok (.dup, 1) := by decide +kernel
theorem dX13_init_128 : decode cX13_init 128 = .ok (.iconst 0, 1) := by decide +kernel
theorem dX13_init_129 : decode cX13_init 129 = .ok (.ldc 59, 2) := by decide +kernel
theorem dX13_init_131 : decode cX13_init 131 = .ok (.aastore, 1) := by decide +kernel
theorem dX13_init_132 : decode cX13_init 132 = .ok (.dup, 1) := by decide +kernel
theorem dX13_init_133 : decode cX13_init 133 = .ok (.iconst 1, 1) := by decide +kernel
theorem dX13_init_134 : decode cX13_init 134 = .ok (.ldc 61, 2) := by decide +kernel
theorem dX13_init_136 : decode cX13_init 136 = .ok (.aastore, 1) := by decide +kernel
theorem dX13_init_137 : decode cX13_init 137 = .ok (.dup, 1) := by decide +kernel
theorem dX13_init_138 : decode cX13_init 138 = .ok (.iconst 2, 1) := by decide +kernel
theorem dX13_init_139 : decode cX13_init 139 = .ok (.ldc 63, 2) := by decide +kernel
theorem dX13_init_141 : decode cX13_init 141 = .ok (.aastore, 1) := by decide +kernel
theorem dX13_init_142 : decode cX13_init 142 = .ok (.dup, 1) := by decide +kernel
theorem dX13_init_143 : decode cX13_init 143 = .ok (.iconst 3, 1) := by decide +kernel
theorem dX13_init_144 : decode cX13_init 144 = .ok (.ldc 65, 2) := by decide +kernel
theorem dX13_init_146 : decode cX13_init 146 = .ok (.aastore, 1) := by decide +kernel
theorem dX13_init_147 : decode cX13_init 147 = .ok (.dup, 1) := by decide +kernel
theorem dX13_init_148 : decode cX13_init 148 = .ok (.iconst 4, 1) := by decide +kernel
theorem dX13_init_149 : decode cX13_init 149 = .ok (.ldc 67, 2) := by decide +kernel
theorem dX13_init_151 : decode cX13_init 151 = .ok (.aastore, 1) := by decide +kernel
theorem dX13_init_152 : decode cX13_init 152 = .ok (.dup, 1) := by decide +kernel
theorem dX13_init_153 : decode cX13_init 153 = .ok (.iconst 5, 1) := by decide +kernel
theorem dX13_init_154 : decode cX13_init 154 = .ok (.ldc 69, 2) := by decide +kernel
theorem dX13_init_156 : decode cX13_init 156 = .ok (.aastore, 1) := by decide +kernel
theorem dX13_init_157 : decode cX13_init 157 = .ok (.dup, 1) := by decide +kernel
theorem dX13_init_158 : decode cX13_init 158 = .ok (.bipush 6, 2) := by decide +kernel
theorem dX13_init_160 : decode cX13_init 160 = .ok (.ldc 71, 2) := by decide +kernel
theorem dX13_init_162 : decode cX13_init 162 = .ok (.aastore, 1) := by decide +kernel
theorem dX13_init_163 : decode cX13_init 163 = .ok (.dup, 1) := by decide +kernel
theorem dX13_init_164 : decode cX13_init 164 = .ok (.bipush 7, 2) := by decide +kernel
theorem dX13_init_166 : decode cX13_init 166 = .ok (.ldc 73, 2) := by decide +kernel
theorem dX13_init_168 : decode cX13_init 168 = .ok (.aastore, 1) := by decide +kernel
theorem dX13_init_169 : decode cX13_init 169 = .ok (.dup, 1) := by decide +kernel
theorem dX13_init_170 : decode cX13_init 170 = .ok (.bipush 8, 2) := by decide +kernel
theorem dX13_init_172 : decode cX13_init 172 = .ok (.ldc 75, 2) := by decide +kernel
theorem dX13_init_174 : decode cX13_init 174 = .ok (.aastore, 1) := by decide +kernel
theorem dX13_init_175 : decode cX13_init 175 = .ok (.dup, 1) := by decide +kernel
theorem dX13_init_176 : decode cX13_init 176 = .ok (.bipush 9, 2) := by decide +kernel
theorem dX13_init_178 : decode cX13_init 178 = .ok (.ldc 77, 2) := by decide +kernel
theorem dX13_init_180 : decode cX13_init 180 = .ok (.aastore, 1) := by decide +kernel
theorem dX13_init_181 : decode cX13_init 181 = .ok (.dup, 1) := by decide +kernel
theorem dX13_init_182 : decode cX13_init 182 = .ok (.bipush 10, 2) := by decide +kernel
theorem dX13_init_184 : decode cX13_init 184 = .ok (.ldc 79, 2) := by decide +kernel
theorem dX13_init_186 : decode cX13_init 186 = .ok (.aastore, 1) := by decide +kernel
theorem dX13_init_187 : decode cX13_init 187 = .ok (.dup, 1) := by decide +kernel
theorem dX13_init_188 : decode cX13_init 188 = .ok (.bipush 11, 2) := by decide +kernel
theorem dX13_init_190 : decode cX13_init 190 = .ok (.ldc 81, 2) := by decide +kernel
theorem dX13_init_192 : decode cX13_init 192 = .ok (.aastore, 1) := by decide +kernel
theorem dX13_init_193 : decode cX13_init 193 = .ok (.dup, 1) := by decide +kernel
theorem dX13_init_194 : decode cX13_init 194 = .ok (.bipush 12, 2) := by decide +kernel
theorem dX13_init_196 : decode cX13_init 196 = .ok (.ldc 83, 2) := by decide +kernel
theorem dX13_init_198 : decode cX13_init 198 = .ok (.aastore, 1) := by decide +kernel
theorem dX13_init_199 : decode cX13_init 199 = .ok (.putfield 85, 3) := by decide +kernel
theorem dX13_init_202 : decode cX13_init 202 = .ok (.aload_n 0, 1) := by decide +kernel
theorem dX13_init_203 : decode cX13_init 203 = .ok (.bipush 8, 2) := by decide +kernel
theorem dX13_init_205 : decode cX13_init 205 = .ok (.anewarray 57, 3) := by decide +kernel
theorem dX13_init_208 : decode cX13_init 208 = .ok (.dup, 1) := by decide +kernel
theorem dX13_init_209 : decode cX13_init 209 = .ok (.iconst 0, 1) := by decide +kernel
theorem dX13_init_210 : decode cX13_init 210 = .ok (.ldc 89, 2) := by decide +kernel
theorem dX13_init_212 : decode cX13_init 212 = .ok (.aastore, 1) := by decide +kernel
theorem dX13_init_213 : decode cX13_init 213 = .ok (.dup, 1) := by decide +kernel
theorem dX13_init_214 : decode cX13_init 214 = .ok (.iconst 1, 1) := by decide +kernel
theorem dX13_init_215 : decode cX13_init 215 = .ok (.ldc 91, 2) := by decide +kernel
theorem dX13_init_217 : decode cX13_init 217 = .ok (.aastore, 1) := by decide +kernel
theorem dX13_init_218 : decode cX13_init 218 = .ok (.dup, 1) := by decide +kernel
theorem dX13_init_219 : decode cX13_init 219 = .ok (.iconst 2, 1) := by decide +kernel
theorem dX13_init_220 : decode cX13_init 220 = .ok (.ldc 93, 2) := by decide +kernel
theorem dX13_init_222 : decode cX13_init 222 = .ok (.aastore, 1) := by decide +kernel
theorem dX13_init_223 : decode cX13_init 223 = .ok (.dup, 1) := by decide +kernel
theorem dX13_init_224 : decode cX13_init 224 = .ok (.iconst 3, 1) := by decide +kernel
theorem dX13_init_225 : decode cX13_init 225 = .ok (.ldc 95, 2) := by decide +kernel
theorem dX13_init_227 : decode cX13_init 227 = .ok (.aastore, 1) := by decide +kernel
theorem dX13_init_228 : decode cX13_init 228 = .ok (.dup, 1) := by decide +kernel
theorem dX13_init_229 : decode cX13_init 229 = .ok (.iconst 4, 1) := by decide +kernel
theorem dX13_init_230 : decode cX13_init 230 = .ok (.ldc 97, 2) := by decide +kernel
theorem dX13_init_232 : decode cX13_init 232 = .ok (.aastore, 1) := by decide +kernel
theorem dX13_init_233 : decode cX13_init 233 = .ok (.dup, 1) := by decide +kernel
theorem dX13_init_234 : decode cX13_init 234 = .ok (.iconst 5, 1) := by decide +kernel
theorem dX13_init_235 : decode cX13_init 235 = .ok (.ldc 99, 2) := by decide +kernel
theorem dX13_init_237 : decode cX13_init 237 = .ok (.aastore, 1) := by decide +kernel
theorem dX13_init_238 : decode cX13_init 238 = .ok (.dup, 1) := by decide +kernel
theorem dX13_init_239 : decode cX13_init 239 = .ok (.bipush 6, 2) := by decide +kernel
theorem dX13_init_241 : decode cX13_init 241 = .ok (.ldc 101, 2) := by decide +kernel
theorem dX13_init_243 : decode cX13_init 243 = .ok (.aastore, 1) := by decide +kernel
theorem dX13_init_244 : decode cX13_init 244 = .ok (.dup, 1) := by decide +kernel
theorem dX13_init_245 : decode cX13_init 245 = .ok (.bipush 7, 2) := by decide +kernel
theorem dX13_init_247 : decode cX13_init 247 = .ok (.ldc 103, 2) := by decide +kernel
theorem dX13_init_249 : decode cX13_init 249 = .ok (.aastore, 1) := by decide +kernel
theorem dX13_init_250 : decode cX13_init 250 = .ok (.putfield 105, 3) := by decide +kernel
theorem dX13_init_253 : decode cX13_init 253 = .ok (.aload_n 0, 1) := by decide +kernel
theorem dX13_init_254 : decode cX13_init 254 = .ok (.bipush 9, 2) := by decide +kernel
theorem dX13_init_256 : decode cX13_init 256 = .ok (.anewarray 57, 3) := by decide +kernel
theorem dX13_init_259 : decode cX13_init 259 = .ok (.dup, 1) := by decide +kernel
theorem dX13_init_260 : decode cX13_init 260 = .ok (.iconst 0, 1) := by decide +kernel
theorem dX13_init_261 : decode cX13_init 261 = .ok (.ldc 108, 2) := by decide +kernel
theorem dX13_init_263 : decode cX13_init 263 = .ok (.aastore, 1) := by decide +kernel
theorem dX13_init_264 : decode cX13_init 264 = .ok (.dup, 1) := by decide +kernel
theorem dX13_init_265 : decode cX13_init 265 = .ok (.iconst 1, 1) := by decide +kernel
theorem dX13_init_266 : decode cX13_init 266 = .ok (.ldc 110, 2) := by decide +kernel
theorem dX13_init_268 : decode cX13_init 268 = .ok (.aastore, 1) := by decide +kernel
theorem dX13_init_269 : decode cX13_init 269 = .ok (.dup, 1) := by decide +kernel
theorem dX13_init_270 : decode cX13_init 270 = .ok (.iconst 2, 1) := by decide +kernel
theorem dX13_init_271 : decode cX13_init 271 = .ok (.ldc 112, 2) := by decide +kernel
theorem dX13_init_273 : decode cX13_init 273 = .ok (.aastore, 1) := by decide +kernel
theorem dX13_init_274 : decode cX13_init 274 = .ok (.dup, 1) := by decide +kernel
theorem dX13_init_275 : decode cX13_init 275 = .ok (.iconst 3, 1) := by decide +kernel
theorem dX13_init_276 : decode cX13_init 276 = .ok (.ldc 114, 2) := by decide +kernel
theorem dX13_init_278 : decode cX13_init 278 = .ok (.aastore, 1) := by decide +kernel
theorem dX13_init_279 : decode cX13_init 279 = .ok (.dup, 1) := by decide +kernel
theorem dX13_init_280 : decode cX13_init 280 = .ok (.iconst 4, 1) := by decide +kernel
theorem dX13_init_281 : decode cX13_init 281 = .ok (.ldc 116, 2) := by decide +kernel
theorem dX13_init_283 : decode cX13_init 283 = .ok (.aastore, 1) := by decide +kernel
theorem dX13_init_284 : decode cX13_init 284 = .ok (.dup, 1) := by decide +kernel
theorem dX13_init_285 : decode cX13_init 285 = .ok (.iconst 5, 1) := by decide +kernel
theorem dX13_init_286 : decode cX13_init 286 = .ok (.ldc 118, 2) := by decide +kernel
theorem dX13_init_288 : decode cX13_init 288 = .ok (.aastore, 1) := by decide +kernel
theorem dX13_init_289 : decode cX13_init 289 = .ok (.dup, 1) := by decide +kernel
theorem dX13_init_290 : decode cX13_init 290 = .ok (.bipush 6, 2) := by decide +kernel
theorem dX13_init_292 : decode cX13_init 292 = .ok (.ldc 120, 2) := by decide +kernel
theorem dX13_init_294 : decode cX13_init 294 = .ok (.aastore, 1) := by decide +kernel
theorem dX13_init_295 : decode cX13_init 295 = .ok (.dup, 1) := by decide +kernel
theorem dX13_init_296 : decode cX13_init 296 = .ok (.bipush 7, 2) := by decide +kernel
theorem dX13_init_298 : decode cX13_init 298 = .ok (.ldc 122, 2) := by decide +kernel
theorem dX13_init_300 : decode cX13_init 300 = .ok (.aastore, 1) := by decide +kernel
theorem dX13_init_301 : decode cX13_init 301 = .ok (.dup, 1) := by decide +kernel
theorem dX13_init_302 : decode cX13_init 302 = .ok (.bipush 8, 2) := by decide +kernel
theorem dX13_init_304 : decode cX13_init 304 = .ok (.ldc 124, 2) := by decide +kernel
theorem dX13_init_306 : decode cX13_init 306 = .ok (.aastore, 1) := by decide +kernel
theorem dX13_init_307 : decode cX13_init 307 = .ok (.putfield 126, 3) := by decide +kernel
theorem dX13_init_310 : decode cX13_init 310 = .ok (.aload_n 0, 1) := by decide +kernel
theorem dX13_init_311 : decode cX13_init 311 = .ok (.bipush 33, 2) := by decide +kernel
theorem dX13_init_313 : decode cX13_init 313 = .ok (.anewarray 57, 3) := by decide +kernel
theorem dX13_init_316 : decode cX13_init 316 = .ok (.dup, 1) := by decide +kernel
theorem dX13_init_317 : decode cX13_init 317 = .ok (.iconst 0, 1) := by decide +kernel
theorem dX13_init_318 : decode cX13_init 318 = .ok (.ldc 129, 2) := by decide +kernel
theorem dX13_init_320 : decode cX13_init 320 = .ok (.aastore, 1) := by decide +kernel
theorem dX13_init_321 : decode cX13_init 321 = .ok (.dup, 1) := by decide +kernel
theorem dX13_init_322 : decode cX13_init 322 = .ok (.iconst 1, 1) := by decide +kernel
theorem dX13_init_323 : decode cX13_init 323 = .ok (.ldc 131, 2) := by decide +kernel
theorem dX13_init_325 : decode cX13_init 325 = .ok (.aastore, 1) := by decide +kernel
theorem dX13_init_326 : decode cX13_init 326 = .ok (.dup, 1) := by decide +kernel
theorem dX13_init_327 : decode cX13_init 327 = .ok (.iconst 2, 1) := by decide +kernel
theorem dX13_init_328 : decode cX13_init 328 = .ok (.ldc 133, 2) := by decide +kernel
theorem dX13_init_330 : decode cX13_init 330 = .ok (.aastore, 1) := by decide +kernel
theorem dX13_init_331 : decode cX13_init 331 = .ok (.dup, 1) := by decide +kernel
theorem dX13_init_332 : decode cX13_init 332 = .ok (.iconst 3, 1) := by decide +kernel
theorem dX13_init_333 : decode cX13_init 333 = .ok (.ldc 135, 2) := by decide +kernel
theorem dX13_init_335 : decode cX13_init 335 = .ok (.aastore, 1) := by decide +kernel
theorem dX13_init_336 : decode cX13_init 336 = .ok (.dup, 1) := by decide +kernel
theorem dX13_init_337 : decode cX13_init 337 = .ok (.iconst 4, 1) := by decide +kernel
theorem dX13_init_338 : decode cX13_init 338 = .ok (.ldc 137, 2) := by decide +kernel
theorem dX13_init_340 : decode cX13_init 340 = .ok (.aastore, 1) := by decide +kernel
theorem dX13_init_341 : decode cX13_init 341 = .ok (.dup, 1) := by decide +kernel
theorem dX13_init_342 : decode cX13_init 342 = .ok (.iconst 5, 1) := by decide +kernel
theorem dX13_init_343 : decode cX13_init 343 = .ok (.ldc 139, 2) := by decide +kernel
theorem dX13_init_345 : decode cX13_init 345 = .ok (.aastore, 1) := by decide +kernel
theorem dX13_init_346 : decode cX13_init 346 = .ok (.dup, 1) := by decide +kernel
theorem dX13_init_347 : decode cX13_init 347 = .ok (.bipush 6, 2) := by decide +kernel
theorem dX13_init_349 : decode cX13_init 349 = .ok (.ldc 141, 2) := by decide +kernel
theorem dX13_init_351 : decode cX13_init 351 = .ok (.aastore, 1) := by decide +kernel
theorem dX13_init_352 : decode cX13_init 352 = .ok (.dup, 1) := by decide +kernel
theorem dX13_init_353 : decode cX13_init 353 = .ok (.bipush 7, 2) := by decide +kernel
theorem dX13_init_355 : decode cX13_init 355 = .ok (.ldc 143, 2) := by decide +kernel
theorem dX13_init_357 : decode cX13_init 357 = .ok (.aastore, 1) := by decide +kernel
theorem dX13_init_358 : decode cX13_init 358 = .ok (.dup, 1) := by decide +kernel
theorem dX13_init_359 : decode cX13_init 359 = .ok (.bipush 8, 2) := by decide +kernel
theorem dX13_init_361 : decode cX13_init 361 = .ok (.ldc 145, 2) := by decide +kernel
theorem dX13_init_363 : decode cX13_init 363 = .ok (.aastore, 1) := by decide +kernel
theorem dX13_init_364 : decode cX13_init 364 = .ok (.dup, 1) := by decide +kernel
theorem dX13_init_365 : decode cX13_init 365 = .ok (.bipush 9, 2) := by decide +kernel
theorem dX13_init_367 : decode cX13_init 367 = .ok (.ldc 147, 2) := by decide +kernel
theorem dX13_init_369 : decode cX13_init 369 = .ok (.aastore, 1) := by decide +kernel
theorem dX13_init_370 : decode cX13_init 370 = .ok (.dup, 1) := by decide +kernel
theorem dX13_init_371 : decode cX13_init 371 = .ok (.bipush 10, 2) := by decide +kernel
theorem dX13_init_373 : decode cX13_init 373 = .ok (.ldc 149, 2) := by decide +kernel
theorem dX13_init_375 : decode cX13_init 375 = .ok (.aastore, 1) := by decide +kernel
theorem dX13_init_376 : decode cX13_init 376 = .ok (.dup, 1) := by decide +kernel
theorem dX13_init_377 : decode cX13_init 377 = .ok (.bipush 11, 2) := by decide +kernel
theorem dX13_init_379 : decode cX13_init 379 = .ok (.ldc 151, 2) := by decide +kernel
theorem dX13_init_381 : decode cX13_init 381 = .ok (.aastore, 1) := by decide +kernel
theorem dX13_init_382 : decode cX13_init 382 = .ok (.dup, 1) := by decide +kernel
theorem dX13_init_383 : decode cX13_init 383 = .ok (.bipush 12, 2) := by decide +kernel
theorem dX13_init_385 : decode cX13_init 385 = .ok (.ldc 153, 2) := by decide +kernel
theorem dX13_init_387 : decode cX13_init 387 = .ok (.aastore, 1) := by decide +kernel
theorem dX13_init_388 : decode cX13_init 388 = .ok (.dup, 1) := by decide +kernel
theorem dX13_init_389 : decode cX13_init 389 = .ok (.bipush 13, 2) := by decide +kernel
theorem dX13_init_391 : decode cX13_init 391 = .ok (.ldc 155, 2) := by decide +kernel
theorem dX13_init_393 : decode cX13_init 393 = .ok (.aastore, 1) := by decide +kernel
theorem dX13_init_394 : decode cX13_init 394 = .ok (.dup, 1) := by decide +kernel
theorem dX13_init_395 : decode cX13_init 395 = .ok (.bipush 14, 2) := by decide +kernel
theorem dX13_init_397 : decode cX13_init 397 = .ok (.ldc 157, 2) := by decide +kernel
theorem dX13_init_399 : decode cX13_init 399 = .ok (.aastore, 1) := by decide +kernel
theorem dX13_init_400 : decode cX13_init 400 = .ok (.dup, 1) := by decide +kernel
theorem dX13_init_401 : decode cX13_init 401 = .ok (.bipush 15, 2) := by decide +kernel
theorem dX13_init_403 : decode cX13_init 403 = .ok (.ldc 159, 2) := by decide +kernel
theorem dX13_init_405 : decode cX13_init 405 = .ok (.aastore, 1) := by decide +kernel
theorem dX13_init_406 : decode cX13_init 406 = .ok (.dup, 1) := by decide +kernel
theorem dX13_init_407 : decode cX13_init 407 = .ok (.bipush 16, 2) := by decide +kernel
theorem dX13_init_409 : decode cX13_init 409 = .ok (.ldc 161, 2) := by decide +kernel
theorem dX13_init_411 : decode cX13_init 411 = .ok (.aastore, 1) := by decide +kernel
theorem dX13_init_412 : decode cX13_init 412 = .ok (.dup, 1) := by decide +kernel
theorem dX13_init_413 : decode cX13_init 413 = .ok (.bipush 17, 2) := by decide +kernel
theorem dX13_init_415 : decode cX13_init 415 = .ok (.ldc 163, 2) := by decide +kernel
theorem dX13_init_417 : decode cX13_init 417 = .ok (.aastore, 1) := by decide +kernel
theorem dX13_init_418 : decode cX13_init 418 = .ok (.dup, 1) := by decide +kernel
theorem dX13_init_419 : decode cX13_init 419 = .ok (.bipush 18, 2) := by decide +kernel
theorem dX13_init_421 : decode cX13_init 421 = .ok (.ldc 165, 2) := by decide +kernel
theorem dX13_init_423 : decode cX13_init 423 = .ok (.aastore, 1) := by decide +kernel
theorem dX13_init_424 : decode cX13_init 424 = .ok (.dup, 1) := by decide +kernel
theorem dX13_init_425 : decode cX13_init 425 = .ok (.bipush 19, 2) := by decide +kernel
theorem dX13_init_427 : decode cX13_init 427 = .ok (.ldc 167, 2) := by decide +kernel
theorem dX13_init_429 : decode cX13_init 429 = .ok (.aastore, 1) := by decide +kernel
theorem dX13_init_430 : decode cX13_init 430 = .ok (.dup, 1) := by decide +kernel
theorem dX13_init_431 : decode cX13_init 431 = .ok (.bipush 20, 2) := by decide +kernel
theorem dX13_init_433 : decode cX13_init 433 = .ok (.ldc 169, 2) := by decide +kernel
theorem dX13_init_435 : decode cX13_init 435 = .ok (.aastore, 1) := by decide +kernel
theorem dX13_init_436 : decode cX13_init 436 = .ok (.dup, 1) := by decide +kernel
theorem dX13_init_437 : decode cX13_init 437 = .ok (.bipush 21, 2) := by decide +kernel
theorem dX13_init_439 : decode cX13_init 439 = .ok (.ldc 171, 2) := by decide +kernel
theorem dX13_init_441 : decode cX13_init 441 = .ok (.aastore, 1) := by decide +kernel
theorem dX13_init_442 : decode cX13_init 442 = .ok (.dup, 1) := by decide +kernel
theorem dX13_init_443 : decode cX13_init 443 = .ok (.bipush 22, 2) := by decide +kernel
theorem dX13_init_445 : decode cX13_init 445 = .ok (.ldc 173, 2) := by decide +kernel
theorem dX13_init_447 : decode cX13_init 447 = .ok (.aastore, 1) := by decide +kernel
theorem dX13_init_448 : decode cX13_init 448 = .ok (.dup, 1) := by decide +kernel
theorem dX13_init_449 : decode cX13_init 449 = .ok (.bipush 23, 2) := by decide +kernel
theorem dX13_init_451 : decode cX13_init 451 = .ok (.ldc 175, 2) := by decide +kernel
theorem dX13_init_453 : decode cX13_init 453 = .ok (.aastore, 1) := by decide +kernel
theorem dX13_init_454 : decode cX13_init 454 = .ok (.dup, 1) := by decide +kernel
theorem dX13_init_455 : decode cX13_init 455 = .ok (.bipush 24, 2) := by decide +kernel
theorem dX13_init_457 : decode cX13_init 457 = .ok (.ldc 177, 2) := by decide +kernel
theorem dX13_init_459 : decode cX13_init 459 = .ok (.aastore, 1) := by decide +kernel
theorem dX13_init_460 : decode cX13_init 460 = .ok (.dup, 1) := by decide +kernel
theorem dX13_init_461 : decode cX13_init 461 = .ok (.bipush 25, 2) := by decide +kernel
theorem dX13_init_463 : decode cX13_init 463 = .ok (.ldc 179, 2) := by decide +kernel
theorem dX13_init_465 : decode cX13_init 465 = .ok (.aastore, 1) := by decide +kernel
theorem dX13_init_466 : decode cX13_init 466 = .ok (.dup, 1) := by decide +kernel
theorem dX13_init_467 : decode cX13_init 467 = .ok (.bipush 26, 2) := by decide +kernel
theorem dX13_init_469 : decode cX13_init 469 = .ok (.ldc 181, 2) := by decide +kernel
theorem dX13_init_471 : decode cX13_init 471 = .ok (.aastore, 1) := by decide +kernel
theorem dX13_init_472 : decode cX13_init 472 = .ok (.dup, 1) := by decide +kernel
theorem dX13_init_473 : decode cX13_init 473 = .ok (.bipush 27, 2) := by decide +kernel
theorem dX13_init_475 : decode cX13_init 475 = .ok (.ldc 183, 2) := by decide +kernel
theorem dX13_init_477 : decode cX13_init 477 = .ok (.aastore, 1) := by decide +kernel
theorem dX13_init_478 : decode cX13_init 478 = .ok (.dup, 1) := by decide +kernel
theorem dX13_init_479 : decode cX13_init 479 = .ok (.bipush 28, 2) := by decide +kernel
theorem dX13_init_481 : decode cX13_init 481 = .ok (.ldc 185, 2) := by decide +kernel
theorem dX13_init_483 : decode cX13_init 483 = .ok (.aastore, 1) := by decide +kernel
theorem dX13_init_484 : decode cX13_init 484 = .ok (.dup, 1) := by decide +kernel
theorem dX13_init_485 : decode cX13_init 485 = .ok (.bipush 29, 2) := by decide +kernel
theorem dX13_init_487 : decode cX13_init 487 = .ok (.ldc 187, 2) := by decide +kernel
theorem dX13_init_489 : decode cX13_init 489 = .ok (.aastore, 1) := by decide +kernel
theorem dX13_init_490 : decode cX13_init 490 = .ok (.dup, 1) := by decide +kernel
theorem dX13_init_491 : decode cX13_init 491 = .ok (.bipush 30, 2) := by decide +kernel
theorem dX13_init_493 : decode cX13_init 493 = .ok (.ldc 189, 2) := by decide +kernel
theorem dX13_init_495 : decode cX13_init 495 = .ok (.aastore, 1) := by decide +kernel
theorem dX13_init_496 : decode cX13_init 496 = .ok (.dup, 1) := by decide +kernel
theorem dX13_init_497 : decode cX13_init 497 = .ok (.bipush 31, 2) := by decide +kernel
theorem dX13_init_499 : decode cX13_init 499 = .ok (.ldc 191, 2) := by decide +kernel
theorem dX13_init_501 : decode cX13_init 501 = .ok (.aastore, 1) := by decide +kernel
theorem dX13_init_502 : decode cX13_init 502 = .ok (.dup, 1) := by decide +kernel
theorem dX13_init_503 : decode cX13_init 503 = .ok (.bipush 32, 2) := by decide +kernel
theorem dX13_init_505 : decode cX13_init 505 = .ok (.ldc 193, 2) := by decide +kernel
theorem dX13_init_507 : decode cX13_init 507 = .ok (.aastore, 1) := by decide +kernel
theorem dX13_init_508 : decode cX13_init 508 = .ok (.putfield 195, 3) := by decide +kernel
theorem dX13_init_511 : decode cX13_init 511 = .ok (.aload_n 0, 1) := by decide +kernel
theorem dX13_init_512 : decode cX13_init 512 = .ok (.bipush 32, 2) := by decide +kernel
theorem dX13_init_514 : decode cX13_init 514 = .ok (.newarray .int, 2) := by decide +kernel
theorem dX13_init_516 : decode cX13_init 516 = .ok (.putfield 198, 3) := by decide +kernel
theorem dX13_init_519 : decode cX13_init 519 = .ok (.aload_n 0, 1) := by decide +kernel
theorem dX13_init_520 : decode cX13_init 520 = .ok (.bipush 32, 2) := by decide +kernel
theorem dX13_init_522 : decode cX13_init 522 = .ok (.newarray .int, 2) := by decide +kernel
theorem dX13_init_524 : decode cX13_init 524 = .ok (.putfield 201, 3) := by decide +kernel
theorem dX13_init_527 : decode cX13_init 527 = .ok (.aload_n 0, 1) := by decide +kernel
theorem dX13_init_528 : decode cX13_init 528 = .ok (.sipush 400, 3) := by decide +kernel
theorem dX13_init_531 : decode cX13_init 531 = .ok (.newarray .int, 2) := by decide +kernel
theorem dX13_init_533 : decode cX13_init 533 = .ok (.putfield 204, 3) := by decide +kernel
theorem dX13_init_536 : decode cX13_init 536 = .ok (.aload_n 0, 1) := by decide +kernel
theorem dX13_init_537 : decode cX13_init 537 = .ok (.sipush 400, 3) := by decide +kernel
theorem dX13_init_540 : decode cX13_init 540 = .ok (.newarray .int, 2) := by decide +kernel
theorem dX13_init_542 : decode cX13_init 542 = .ok (.putfield 207, 3) := by decide +kernel
theorem dX13_init_545 : decode cX13_init 545 = .ok (.aload_n 0, 1) := by decide +kernel
theorem dX13_init_546 : decode cX13_init 546 = .ok (.sipush 400, 3) := by decide +kernel
theorem dX13_init_549 : decode cX13_init 549 = .ok (.newarray .int, 2) := by decide +kernel
theorem dX13_init_551 : decode cX13_init 551 = .ok (.putfield 210, 3) := by decide +kernel
theorem dX13_init_554 : decode cX13_init 554 = .ok (.aload_n 0, 1) := by decide +kernel
theorem dX13_init_555 : decode cX13_init 555 = .ok (.bipush 80, 2) := by decide +kernel
theorem dX13_init_557 : decode cX13_init 557 = .ok (.newarray .int, 2) := by decide +kernel
theorem dX13_init_559 : decode cX13_init 559 = .ok (.putfield 213, 3) := by decide +kernel
theorem dX13_init_562 : decode cX13_init 562 = .ok (.aload_n 0, 1) := by decide +kernel
theorem dX13_init_563 : decode cX13_init 563 = .ok (.bipush 12, 2) := by decide +kernel
theorem dX13_init_565 : decode cX13_init 565 = .ok (.anewarray 57, 3) := by decide +kernel
theorem dX13_init_568 : decode cX13_init 568 = .ok (.dup, 1) := by decide +kernel
theorem dX13_init_569 : decode cX13_init 569 = .ok (.iconst 0, 1) := by decide +kernel
theorem dX13_init_570 : decode cX13_init 570 = .ok (.ldc 129, 2) := by decide +kernel
theorem dX13_init_572 : decode cX13_init 572 = .ok (.aastore, 1) := by decide +kernel
theorem dX13_init_573 : decode cX13_init 573 = .ok (.dup, 1) := by decide +kernel
theorem dX13_init_574 : decode cX13_init 574 = .ok (.iconst 1, 1) := by decide +kernel
theorem dX13_init_575 : decode cX13_init 575 = .ok (.ldc 124, 2) := by decide +kernel
theorem dX13_init_577 : decode cX13_init 577 = .ok (.aastore, 1) := by decide +kernel
theorem dX13_init_578 : decode cX13_init 578 = .ok (.dup, 1) := by decide +kernel
theorem dX13_init_579 : decode cX13_init 579 = .ok (.iconst 2, 1) := by decide +kernel
theorem dX13_init_580 : decode cX13_init 580 = .ok (.ldc 110, 2) := by decide +kernel
theorem dX13_init_582 : decode cX13_init 582 = .ok (.aastore, 1) := by decide +kernel
theorem dX13_init_583 : decode cX13_init 583 = .ok (.dup, 1) := by decide +kernel
theorem dX13_init_584 : decode cX13_init 584 = .ok (.iconst 3, 1) := by decide +kernel
theorem dX13_init_585 : decode cX13_init 585 = .ok (.ldc 112, 2) := by decide +kernel
theorem dX13_init_587 : decode cX13_init 587 = .ok (.aastore, 1) := by decide +kernel
theorem dX13_init_588 : decode cX13_init 588 = .ok (.dup, 1) := by decide +kernel
theorem dX13_init_589 : decode cX13_init 589 = .ok (.iconst 4, 1) := by decide +kernel
theorem dX13_init_590 : decode cX13_init 590 = .ok (.ldc 116, 2) := by decide +kernel
theorem dX13_init_592 : decode cX13_init 592 = .ok (.aastore, 1) := by decide +kernel
theorem dX13_init_593 : decode cX13_init 593 = .ok (.dup, 1) := by decide +kernel
theorem dX13_init_594 : decode cX13_init 594 = .ok (.iconst 5, 1) := by decide +kernel
theorem dX13_init_595 : decode cX13_init 595 = .ok (.ldc 118, 2) := by decide +kernel
theorem dX13_init_597 : decode cX13_init 597 = .ok (.aastore, 1) := by decide +kernel
theorem dX13_init_598 : decode cX13_init 598 = .ok (.dup, 1) := by decide +kernel
theorem dX13_init_599 : decode cX13_init 599 = .ok (.bipush 6, 2) := by decide +kernel
theorem dX13_init_601 : decode cX13_init 601 = .ok (.ldc 185, 2) := by decide +kernel
theorem dX13_init_603 : decode cX13_init 603 = .ok (.aastore, 1) := by decide +kernel
theorem dX13_init_604 : decode cX13_init 604 = .ok (.dup, 1) := by decide +kernel
theorem dX13_init_605 : decode cX13_init 605 = .ok (.bipush 7, 2) := by decide +kernel
theorem dX13_init_607 : decode cX13_init 607 = .ok (.ldc 187, 2) := by decide +kernel
theorem dX13_init_609 : decode cX13_init 609 = .ok (.aastore, 1) := by decide +kernel
theorem dX13_init_610 : decode cX13_init 610 = .ok (.dup, 1) := by decide +kernel
theorem dX13_init_611 : decode cX13_init 611 = .ok (.bipush 8, 2) := by decide +kernel
theorem dX13_init_613 : decode cX13_init 613 = .ok (.ldc 137, 2) := by decide +kernel
theorem dX13_init_615 : decode cX13_init 615 = .ok (.aastore, 1) := by decide +kernel
theorem dX13_init_616 : decode cX13_init 616 = .ok (.dup, 1) := by decide +kernel
theorem dX13_init_617 : decode cX13_init 617 = .ok (.bipush 9, 2) := by decide +kernel
theorem dX13_init_619 : decode cX13_init 619 = .ok (.ldc 189, 2) := by decide +kernel
theorem dX13_init_621 : decode cX13_init 621 = .ok (.aastore, 1) := by decide +kernel
theorem dX13_init_622 : decode cX13_init 622 = .ok (.dup, 1) := by decide +kernel
theorem dX13_init_623 : decode cX13_init 623 = .ok (.bipush 10, 2) := by decide +kernel
theorem dX13_init_625 : decode cX13_init 625 = .ok (.ldc 191, 2) := by decide +kernel
theorem dX13_init_627 : decode cX13_init 627 = .ok (.aastore, 1) := by decide +kernel
theorem dX13_init_628 : decode cX13_init 628 = .ok (.dup, 1) := by decide +kernel
theorem dX13_init_629 : decode cX13_init 629 = .ok (.bipush 11, 2) := by decide +kernel
theorem dX13_init_631 : decode cX13_init 631 = .ok (.ldc 193, 2) := by decide +kernel
theorem dX13_init_633 : decode cX13_init 633 = .ok (.aastore, 1) := by decide +kernel
theorem dX13_init_634 : decode cX13_init 634 = .ok (.putfield 216, 3) := by decide +kernel
theorem dX13_init_637 : decode cX13_init 637 = .ok (.aload_n 0, 1) := by decide +kernel
theorem dX13_init_638 : decode cX13_init 638 = .ok (.bipush 12, 2) := by decide +kernel
theorem dX13_init_640 : decode cX13_init 640 = .ok (.newarray .int, 2) := by decide +kernel
theorem dX13_init_642 : decode cX13_init 642 = .ok (.dup, 1) := by decide +kernel
theorem dX13_init_643 : decode cX13_init 643 = .ok (.iconst 0, 1) := by decide +kernel
theorem dX13_init_644 : decode cX13_init 644 = .ok (.iconst (-1), 1) := by decide +kernel
theorem dX13_init_645 : decode cX13_init 645 = .ok (.iastore, 1) := by decide +kernel
theorem dX13_init_646 : decode cX13_init 646 = .ok (.dup, 1) := by decide +kernel
theorem dX13_init_647 : decode cX13_init 647 = .ok (.iconst 1, 1) := by decide +kernel
theorem dX13_init_648 : decode cX13_init 648 = .ok (.iconst 1, 1) := by decide +kernel
theorem dX13_init_649 : decode cX13_init 649 = .ok (.iastore, 1) := by decide +kernel
theorem dX13_init_650 : decode cX13_init 650 = .ok (.dup, 1) := by decide +kernel
theorem dX13_init_651 : decode cX13_init 651 = .ok (.iconst 2, 1) := by decide +kernel
theorem dX13_init_652 : decode cX13_init 652 = .ok (.iconst 2, 1) := by decide +kernel
theorem dX13_init_653 : decode cX13_init 653 = .ok (.iastore, 1) := by decide +kernel
theorem dX13_init_654 : decode cX13_init 654 = .ok (.dup, 1) := by decide +kernel
theorem dX13_init_655 : decode cX13_init 655 = .ok (.iconst 3, 1) := by decide +kernel
theorem dX13_init_656 : decode cX13_init 656 = .ok (.iconst 3, 1) := by decide +kernel
theorem dX13_init_657 : decode cX13_init 657 = .ok (.iastore, 1) := by decide +kernel
theorem dX13_init_658 : decode cX13_init 658 = .ok (.dup, 1) := by decide +kernel
theorem dX13_init_659 : decode cX13_init 659 = .ok (.iconst 4, 1) := by decide +kernel
theorem dX13_init_660 : decode cX13_init 660 = .ok (.iconst 4, 1) := by decide +kernel
theorem dX13_init_661 : decode cX13_init 661 = .ok (.iastore, 1) := by decide +kernel
theorem dX13_init_662 : decode cX13_init 662 = .ok (.dup, 1) := by decide +kernel
theorem dX13_init_663 : decode cX13_init 663 = .ok (.iconst 5, 1) := by decide +kernel
theorem dX13_init_664 : decode cX13_init 664 = .ok (.iconst 5, 1) := by decide +kernel
theorem dX13_init_665 : decode cX13_init 665 = .ok (.iastore, 1) := by decide +kernel
theorem dX13_init_666 : decode cX13_init 666 = .ok (.dup, 1) := by decide +kernel
theorem dX13_init_667 : decode cX13_init 667 = .ok (.bipush 6, 2) := by decide +kernel
theorem dX13_init_669 : decode cX13_init 669 = .ok (.bipush 6, 2) := by decide +kernel
theorem dX13_init_671 : decode cX13_init 671 = .ok (.iastore, 1) := by decide +kernel
theorem dX13_init_672 : decode cX13_init 672 = .ok (.dup, 1) := by decide +kernel
theorem dX13_init_673 : decode cX13_init 673 = .ok (.bipush 7, 2) := by decide +kernel
theorem dX13_init_675 : decode cX13_init 675 = .ok (.bipush 7, 2) := by decide +kernel
theorem dX13_init_677 : decode cX13_init 677 = .ok (.iastore, 1) := by decide +kernel
theorem dX13_init_678 : decode cX13_init 678 = .ok (.dup, 1) := by decide +kernel
theorem dX13_init_679 : decode cX13_init 679 = .ok (.bipush 8, 2) := by decide +kernel
theorem dX13_init_681 : decode cX13_init 681 = .ok (.bipush 8, 2) := by decide +kernel
theorem dX13_init_683 : decode cX13_init 683 = .ok (.iastore, 1) := by decide +kernel
theorem dX13_init_684 : decode cX13_init 684 = .ok (.dup, 1) := by decide +kernel
theorem dX13_init_685 : decode cX13_init 685 = .ok (.bipush 9, 2) := by decide +kernel
theorem dX13_init_687 : decode cX13_init 687 = .ok (.bipush 9, 2) := by decide +kernel
theorem dX13_init_689 : decode cX13_init 689 = .ok (.iastore, 1) := by decide +kernel
theorem dX13_init_690 : decode cX13_init 690 = .ok (.dup, 1) := by decide +kernel
theorem dX13_init_691 : decode cX13_init 691 = .ok (.bipush 10, 2) := by decide +kernel
theorem dX13_init_693 : decode cX13_init 693 = .ok (.bipush 11, 2) := by decide +kernel
theorem dX13_init_695 : decode cX13_init 695 = .ok (.iastore, 1) := by decide +kernel
theorem dX13_init_696 : decode cX13_init 696 = .ok (.dup, 1) := by decide +kernel
theorem dX13_init_697 : decode cX13_init 697 = .ok (.bipush 11, 2) := by decide +kernel
theorem dX13_init_699 : decode cX13_init 699 = .ok (.bipush 12, 2) := by decide +kernel
theorem dX13_init_701 : decode cX13_init 701 = .ok (.iastore, 1) := by decide +kernel
theorem dX13_init_702 : decode cX13_init 702 = .ok (.putfield 219, 3) := by decide +kernel
theorem dX13_init_705 : decode cX13_init 705 = .ok (.aload_n 0, 1) := by decide +kernel
theorem dX13_init_706 : decode cX13_init 706 = .ok (.sipush 200, 3) := by decide +kernel
theorem dX13_init_709 : decode cX13_init 709 = .ok (.newarray .int, 2) := by decide +kernel
theorem dX13_init_711 : decode cX13_init 711 = .ok (.putfield 222, 3) := by decide +kernel
theorem dX13_init_714 : decode cX13_init 714 = .ok (.aload_n 0, 1) := by decide +kernel
theorem dX13_init_715 : decode cX13_init 715 = .ok (.sipush 200, 3) := by decide +kernel
theorem dX13_init_718 : decode cX13_init 718 = .ok (.newarray .int, 2) := by decide +kernel
theorem dX13_init_720 : decode cX13_init 720 = .ok (.putfield 225, 3) := by decide +kernel
theorem dX13_init_723 : decode cX13_init 723 = .ok (.aload_n 0, 1) := by decide +kernel
theorem dX13_init_724 : decode cX13_init 724 = .ok (.getfield 9, 3) := by decide +kernel
theorem dX13_init_727 : decode cX13_init 727 = .ok (.invokestatic 228, 3) := by decide +kernel
theorem dX13_init_730 : decode cX13_init 730 = .ok (.return_, 1) := by decide +kernel
theorem dX13_thrown_0 : decode cX13_thrown 0 = .ok (.aload_n 0, 1) := by decide +kernel
theorem dX13_thrown_1 : decode cX13_thrown 1 = .ok (.getfield 231, 3) := by decide +kernel
theorem dX13_thrown_4 : decode cX13_thrown 4 = .ok (.ireturn, 1) := by decide +kernel
theorem dX13_raise_0 : decode cX13_raise 0 = .ok (.aload_n 0, 1) := by decide +kernel
theorem dX13_raise_1 : decode cX13_raise 1 = .ok (.iload_n 1, 1) := by decide +kernel
theorem dX13_raise_2 : decode cX13_raise 2 = .ok (.putfield 231, 3) := by decide +kernel
theorem dX13_raise_5 : decode cX13_raise 5 = .ok (.iconst 0, 1) := by decide +kernel
theorem dX13_raise_6 : decode cX13_raise 6 = .ok (.ireturn, 1) := by decide +kernel
theorem dX13_inRange_0 : decode cX13_inRange 0 = .ok (.iload_n 0, 1) := by decide +kernel
theorem dX13_inRange_1 : decode cX13_inRange 1 = .ok (.iload_n 1, 1) := by decide +kernel
theorem dX13_inRange_2 : decode cX13_inRange 2 = .ok (.if_icmp .lt 12, 3) := by decide +kernel
theorem dX13_inRange_5 : decode cX13_inRange 5 = .ok (.iload_n 0, 1) := by decide +kernel
theorem dX13_inRange_6 : decode cX13_inRange 6 = .ok (.iload_n 2, 1) := by decide +kernel
theorem dX13_inRange_7 : decode cX13_inRange 7 = .ok (.if_icmp .gt 7, 3) := by decide +kernel
theorem dX13_inRange_10 : decode cX13_inRange 10 = .ok (.iconst 1, 1) := by decide +kernel
theorem dX13_inRange_11 : decode cX13_inRange 11 = .ok (.goto 4, 3) := by decide +kernel
theorem dX13_inRange_14 : decode cX13_inRange 14 = .ok (.iconst 0, 1) := by decide +kernel
theorem dX13_inRange_15 : decode cX13_inRange 15 = .ok (.ireturn, 1) := by decide +kernel
theorem dX13_clear_0 : decode cX13_clear 0 = .ok (.iconst 0, 1) := by decide +kernel
theorem dX13_clear_1 : decode cX13_clear 1 = .ok (.istore_n 1, 1) := by decide +kernel
theorem dX13_clear_2 : decode cX13_clear 2 = .ok (.iload_n 1, 1) := by decide +kernel
theorem dX13_clear_3 : decode cX13_clear 3 = .ok (.sipush 700, 3) := by decide +kernel
theorem dX13_clear_6 : decode cX13_clear 6 = .ok (.if_icmp .ge 13, 3) := by decide +kernel
theorem dX13_clear_9 : decode cX13_clear 9 = .ok (.aload_n 0, 1) := by decide +kernel
theorem dX13_clear_10 : decode cX13_clear 10 = .ok (.iload_n 1, 1) := by decide +kernel
theorem dX13_clear_11 : decode cX13_clear 11 = .ok (.iconst 0, 1) := by decide +kernel
theorem dX13_clear_12 : decode cX13_clear 12 = .ok (.iastore, 1) := by decide +kernel
theorem dX13_clear_13 : decode cX13_clear 13 = .ok (.iinc 1 1, 3) := by decide +kernel
theorem dX13_clear_16 : decode cX13_clear 16 = .ok (.goto (-14), 3) := by decide +kernel
theorem dX13_clear_19 : decode cX13_clear 19 = .ok (.aload_n 0, 1) := by decide +kernel
theorem dX13_clear_20 : decode cX13_clear 20 = .ok (.iconst 2, 1) := by decide +kernel
theorem dX13_clear_21 : decode cX13_clear 21 = .ok (.iconst (-1), 1) := by decide +kernel
theorem dX13_clear_22 : decode cX13_clear 22 = .ok (.iastore, 1) := by decide +kernel
theorem dX13_clear_23 : decode cX13_clear 23 = .ok (.return_, 1) := by decide +kernel
theorem dX13_ofPin_0 : decode cX13_ofPin 0 = .ok (.aload_n 0, 1) := by decide +kernel
theorem dX13_ofPin_1 : decode cX13_ofPin 1 = .ok (.getfield 9, 3) := by decide +kernel
theorem dX13_ofPin_4 : decode cX13_ofPin 4 = .ok (.iconst 4, 1) := by decide +kernel
theorem dX13_ofPin_5 : decode cX13_ofPin 5 = .ok (.bipush 6, 2) := by decide +kernel
theorem dX13_ofPin_7 : decode cX13_ofPin 7 = .ok (.iload_n 1, 1) := by decide +kernel
theorem dX13_ofPin_8 : decode cX13_ofPin 8 = .ok (.imul, 1) := by decide +kernel
theorem dX13_ofPin_9 : decode cX13_ofPin 9 = .ok (.iadd, 1) := by decide +kernel
theorem dX13_ofPin_10 : decode cX13_ofPin 10 = .ok (.iload_n 2, 1) := by decide +kernel
theorem dX13_ofPin_11 : decode cX13_ofPin 11 = .ok (.iadd, 1) := by decide +kernel
theorem dX13_ofPin_12 : decode cX13_ofPin 12 = .ok (.iaload, 1) := by decide +kernel
theorem dX13_ofPin_13 : decode cX13_ofPin 13 = .ok (.ireturn, 1) := by decide +kernel
theorem dX13_putPin_0 : decode cX13_putPin 0 = .ok (.aload_n 0, 1) := by decide +kernel
theorem dX13_putPin_1 : decode cX13_putPin 1 = .ok (.getfield 9, 3) := by decide +kernel
theorem dX13_putPin_4 : decode cX13_putPin 4 = .ok (.iconst 4, 1) := by decide +kernel
theorem dX13_putPin_5 : decode cX13_putPin 5 = .ok (.bipush 6, 2) := by decide +kernel
theorem dX13_putPin_7 : decode cX13_putPin 7 = .ok (.iload_n 1, 1) := by decide +kernel
theorem dX13_putPin_8 : decode cX13_putPin 8 = .ok (.imul, 1) := by decide +kernel
theorem dX13_putPin_9 : decode cX13_putPin 9 = .ok (.iadd, 1) := by decide +kernel
theorem dX13_putPin_10 : decode cX13_putPin 10 = .ok (.iload_n 2, 1) := by decide +kernel
theorem dX13_putPin_11 : decode cX13_putPin 11 = .ok (.iadd, 1) := by decide +kernel
theorem dX13_putPin_12 : decode cX13_putPin 12 = .ok (.iload_n 3, 1) := by decide +kernel
theorem dX13_putPin_13 : decode cX13_putPin 13 = .ok (.iastore, 1) := by decide +kernel
theorem dX13_putPin_14 : decode cX13_putPin 14 = .ok (.return_, 1) := by decide +kernel
theorem dX13_of_0 : decode cX13_of 0 = .ok (.aload_n 0, 1) := by decide +kernel
theorem dX13_of_1 : decode cX13_of 1 = .ok (.getfield 9, 3) := by decide +kernel
theorem dX13_of_4 : decode cX13_of 4 = .ok (.sipush 560, 3) := by decide +kernel
theorem dX13_of_7 : decode cX13_of 7 = .ok (.bipush 35, 2) := by decide +kernel
theorem dX13_of_9 : decode cX13_of 9 = .ok (.iload_n 1, 1) := by decide +kernel
theorem dX13_of_10 : decode cX13_of 10 = .ok (.imul, 1) := by decide +kernel
theorem dX13_of_11 : decode cX13_of 11 = .ok (.iadd, 1) := by decide +kernel
theorem dX13_of_12 : decode cX13_of 12 = .ok (.iload_n 2, 1) := by decide +kernel
theorem dX13_of_13 : decode cX13_of 13 = .ok (.iadd, 1) := by decide +kernel
theorem dX13_of_14 : decode cX13_of 14 = .ok (.iaload, 1) := by decide +kernel
theorem dX13_of_15 : decode cX13_of 15 = .ok (.ireturn, 1) := by decide +kernel
theorem dX13_set_0 : decode cX13_set 0 = .ok (.aload_n 0, 1) := by decide +kernel
theorem dX13_set_1 : decode cX13_set 1 = .ok (.getfield 9, 3) := by decide +kernel
theorem dX13_set_4 : decode cX13_set 4 = .ok (.sipush 560, 3) := by decide +kernel
theorem dX13_set_7 : decode cX13_set 7 = .ok (.bipush 35, 2) := by decide +kernel
theorem dX13_set_9 : decode cX13_set 9 = .ok (.iload_n 1, 1) := by decide +kernel
theorem dX13_set_10 : decode cX13_set 10 = .ok (.imul, 1) := by decide +kernel
theorem dX13_set_11 : decode cX13_set 11 = .ok (.iadd, 1) := by decide +kernel
theorem dX13_set_12 : decode cX13_set 12 = .ok (.iload_n 2, 1) := by decide +kernel
theorem dX13_set_13 : decode cX13_set 13 = .ok (.iadd, 1) := by decide +kernel
theorem dX13_set_14 : decode cX13_set 14 = .ok (.iload_n 3, 1) := by decide +kernel
theorem dX13_set_15 : decode cX13_set 15 = .ok (.iastore, 1) := by decide +kernel
theorem dX13_set_16 : decode cX13_set 16 = .ok (.return_, 1) := by decide +kernel
theorem dX13_add_0 : decode cX13_add 0 = .ok (.aload_n 0, 1) := by decide +kernel
theorem dX13_add_1 : decode cX13_add 1 = .ok (.getfield 9, 3) := by decide +kernel
theorem dX13_add_4 : decode cX13_add 4 = .ok (.sipush 560, 3) := by decide +kernel
theorem dX13_add_7 : decode cX13_add 7 = .ok (.bipush 35, 2) := by decide +kernel
theorem dX13_add_9 : decode cX13_add 9 = .ok (.iload_n 1, 1) := by decide +kernel
theorem dX13_add_10 : decode cX13_add 10 = .ok (.imul, 1) := by decide +kernel
theorem dX13_add_11 : decode cX13_add 11 = .ok (.iadd, 1) := by decide +kernel
theorem dX13_add_12 : decode cX13_add 12 = .ok (.iload_n 2, 1) := by decide +kernel
theorem dX13_add_13 : decode cX13_add 13 = .ok (.iadd, 1) := by decide +kernel
theorem dX13_add_14 : decode cX13_add 14 = .ok (.dup2, 1) := by decide +kernel
theorem dX13_add_15 : decode cX13_add 15 = .ok (.iaload, 1) := by decide +kernel
theorem dX13_add_16 : decode cX13_add 16 = .ok (.iload_n 3, 1) := by decide +kernel
theorem dX13_add_17 : decode cX13_add 17 = .ok (.iadd, 1) := by decide +kernel
theorem dX13_add_18 : decode cX13_add 18 = .ok (.iastore, 1) := by decide +kernel
theorem dX13_add_19 : decode cX13_add 19 = .ok (.return_, 1) := by decide +kernel
theorem dX13_note_0 : decode cX13_note 0 = .ok (.aload_n 0, 1) := by decide +kernel
theorem dX13_note_1 : decode cX13_note 1 = .ok (.iload_n 1, 1) := by decide +kernel
theorem dX13_note_2 : decode cX13_note 2 = .ok (.bipush 29, 2) := by decide +kernel
theorem dX13_note_4 : decode cX13_note 4 = .ok (.iload_n 2, 1) := by decide +kernel
theorem dX13_note_5 : decode cX13_note 5 = .ok (.iadd, 1) := by decide +kernel
theorem dX13_note_6 : decode cX13_note 6 = .ok (.iconst 1, 1) := by decide +kernel
theorem dX13_note_7 : decode cX13_note 7 = .ok (.invokevirtual 234, 3) := by decide +kernel
theorem dX13_note_10 : decode cX13_note 10 = .ok (.return_, 1) := by decide +kernel
theorem dX13_setting_0 : decode cX13_setting 0 = .ok (.aload_n 0, 1) := by decide +kernel
theorem dX13_setting_1 : decode cX13_setting 1 = .ok (.getfield 9, 3) := by decide +kernel
theorem dX13_setting_4 : decode cX13_setting 4 = .ok (.sipush 476, 3) := by decide +kernel
theorem dX13_setting_7 : decode cX13_setting 7 = .ok (.bipush 21, 2) := by decide +kernel
theorem dX13_setting_9 : decode cX13_setting 9 = .ok (.iload_n 1, 1) := by decide +kernel
theorem dX13_setting_10 : decode cX13_setting 10 = .ok (.imul, 1) := by decide +kernel
theorem dX13_setting_11 : decode cX13_setting 11 = .ok (.iadd, 1) := by decide +kernel
theorem dX13_setting_12 : decode cX13_setting 12 = .ok (.iload_n 2, 1) := by decide +kernel
theorem dX13_setting_13 : decode cX13_setting 13 = .ok (.iadd, 1) := by decide +kernel
theorem dX13_setting_14 : decode cX13_setting 14 = .ok (.iaload, 1) := by decide +kernel
theorem dX13_setting_15 : decode cX13_setting 15 = .ok (.ireturn, 1) := by decide +kernel
theorem dX13_code_0 : decode cX13_code 0 = .ok (.aload_n 0, 1) := by decide +kernel
theorem dX13_code_1 : decode cX13_code 1 = .ok (.getfield 9, 3) := by decide +kernel
theorem dX13_code_4 : decode cX13_code 4 = .ok (.sipush 284, 3) := by decide +kernel
theorem dX13_code_7 : decode cX13_code 7 = .ok (.bipush 6, 2) := by decide +kernel
theorem dX13_code_9 : decode cX13_code 9 = .ok (.iload_n 1, 1) := by decide +kernel
theorem dX13_code_10 : decode cX13_code 10 = .ok (.imul, 1) := by decide +kernel
theorem dX13_code_11 : decode cX13_code 11 = .ok (.iadd, 1) := by decide +kernel
theorem dX13_code_12 : decode cX13_code 12 = .ok (.iload_n 2, 1) := by decide +kernel
theorem dX13_code_13 : decode cX13_code 13 = .ok (.iadd, 1) := by decide +kernel
theorem dX13_code_14 : decode cX13_code 14 = .ok (.iaload, 1) := by decide +kernel
theorem dX13_code_15 : decode cX13_code 15 = .ok (.ireturn, 1) := by decide +kernel
theorem dX13_codeOf_0 : decode cX13_codeOf 0 = .ok (.aload_n 0, 1) := by decide +kernel
theorem dX13_codeOf_1 : decode cX13_codeOf 1 = .ok (.aload_n 0, 1) := by decide +kernel
theorem dX13_codeOf_2 : decode cX13_codeOf 2 = .ok (.iload_n 1, 1) := by decide +kernel
theorem dX13_codeOf_3 : decode cX13_codeOf 3 = .ok (.iconst 1, 1) := by decide +kernel
theorem dX13_codeOf_4 : decode cX13_codeOf 4 = .ok (.invokevirtual 238, 3) := by decide +kernel
theorem dX13_codeOf_7 : decode cX13_codeOf 7 = .ok (.iload_n 2, 1) := by decide +kernel
theorem dX13_codeOf_8 : decode cX13_codeOf 8 = .ok (.invokevirtual 242, 3) := by decide +kernel
theorem dX13_codeOf_11 : decode cX13_codeOf 11 = .ok (.ireturn, 1) := by decide +kernel
theorem dX13_exists_0 : decode cX13_exists 0 = .ok (.iload_n 1, 1) := by decide +kernel
theorem dX13_exists_1 : decode cX13_exists 1 = .ok (.iconst 0, 1) := by decide +kernel
theorem dX13_exists_2 : decode cX13_exists 2 = .ok (.iconst 3, 1) := by decide +kernel
theorem dX13_exists_3 : decode cX13_exists 3 = .ok (.invokestatic 245, 3) := by decide +kernel
theorem dX13_exists_6 : decode cX13_exists 6 = .ok (.ifCond .eq 17, 3) := by decide +kernel
theorem dX13_exists_9 : decode cX13_exists 9 = .ok (.aload_n 0, 1) := by decide +kernel
theorem dX13_exists_10 : decode cX13_exists 10 = .ok (.iload_n 1, 1) := by decide +kernel
theorem dX13_exists_11 : decode cX13_exists 11 = .ok (.iconst 0, 1) := by decide +kernel
theorem dX13_exists_12 : decode cX13_exists 12 = .ok (.invokevirtual 249, 3) := by decide +kernel
theorem dX13_exists_15 : decode cX13_exists 15 = .ok (.iconst 1, 1) := by decide +kernel
theorem dX13_exists_16 : decode cX13_exists 16 = .ok (.if_icmp .ne 7, 3) := by decide +kernel
theorem dX13_exists_19 : decode cX13_exists 19 = .ok (.iconst 1, 1) := by decide +kernel
theorem dX13_exists_20 : decode cX13_exists 20 = .ok (.goto 4, 3) := by decide +kernel
theorem dX13_exists_23 : decode cX13_exists 23 = .ok (.iconst 0, 1) := by decide +kernel
theorem dX13_exists_24 : decode cX13_exists 24 = .ok (.ireturn, 1) := by decide +kernel
theorem dX13_isPin_0 : decode cX13_isPin 0 = .ok (.iload_n 0, 1) := by decide +kernel
theorem dX13_isPin_1 : decode cX13_isPin 1 = .ok (.iconst 0, 1) := by decide +kernel
theorem dX13_isPin_2 : decode cX13_isPin 2 = .ok (.bipush 15, 2) := by decide +kernel
theorem dX13_isPin_4 : decode cX13_isPin 4 = .ok (.invokestatic 245, 3) := by decide +kernel
theorem dX13_isPin_7 : decode cX13_isPin 7 = .ok (.ireturn, 1) := by decide +kernel
theorem dX13_instructionCount_0 : decode cX13_instructionCount 0 = .ok (.aload_n 0, 1) := by decide +kernel
theorem dX13_instructionCount_1 : decode cX13_instructionCount 1 = .ok (.iconst 0, 1) := by decide +kernel
theorem dX13_instructionCount_2 : decode cX13_instructionCount 2 = .ok (.putfield 231, 3) := by decide +kernel
theorem dX13_instructionCount_5 : decode cX13_instructionCount 5 = .ok (.aload_n 0, 1) := by decide +kernel
theorem dX13_instructionCount_6 : decode cX13_instructionCount 6 = .ok (.getfield 9, 3) := by decide +kernel
theorem dX13_instructionCount_9 : decode cX13_instructionCount 9 = .ok (.iconst 0, 1) := by decide +kernel
theorem dX13_instructionCount_10 : decode cX13_instructionCount 10 = .ok (.iaload, 1) := by decide +kernel
theorem dX13_instructionCount_11 : decode cX13_instructionCount 11 = .ok (.ireturn, 1) := by decide +kernel
theorem dX13_engines_0 : decode cX13_engines 0 = .ok (.aload_n 0, 1) := by decide +kernel
theorem dX13_engines_1 : decode cX13_engines 1 = .ok (.iconst 0, 1) := by decide +kernel
theorem dX13_engines_2 : decode cX13_engines 2 = .ok (.putfield 231, 3) := by decide +kernel
theorem dX13_engines_5 : decode cX13_engines 5 = .ok (.iconst 0, 1) := by decide +kernel
theorem dX13_engines_6 : decode cX13_engines 6 = .ok (.istore_n 1, 1) := by decide +kernel
theorem dX13_engines_7 : decode cX13_engines 7 = .ok (.iconst 0, 1) := by decide +kernel
theorem dX13_engines_8 : decode cX13_engines 8 = .ok (.istore_n 2, 1) := by decide +kernel
theorem dX13_engines_9 : decode cX13_engines 9 = .ok (.iload_n 2, 1) := by decide +kernel
theorem dX13_engines_10 : decode cX13_engines 10 = .ok (.iconst 4, 1) := by decide +kernel
theorem dX13_engines_11 : decode cX13_engines 11 = .ok (.if_icmp .ge 20, 3) := by decide +kernel
theorem dX13_engines_14 : decode cX13_engines 14 = .ok (.iload_n 1, 1) := by decide +kernel
theorem dX13_engines_15 : decode cX13_engines 15 = .ok (.aload_n 0, 1) := by decide +kernel
theorem dX13_engines_16 : decode cX13_engines 16 = .ok (.iload_n 2, 1) := by decide +kernel
theorem dX13_engines_17 : decode cX13_engines 17 = .ok (.iconst 0, 1) := by decide +kernel
theorem dX13_engines_18 : decode cX13_engines 18 = .ok (.invokevirtual 249, 3) := by decide +kernel
theorem dX13_engines_21 : decode cX13_engines 21 = .ok (.iload_n 2, 1) := by decide +kernel
theorem dX13_engines_22 : decode cX13_engines 22 = .ok (.ishl, 1) := by decide +kernel
theorem dX13_engines_23 : decode cX13_engines 23 = .ok (.ior, 1) := by decide +kernel
theorem dX13_engines_24 : decode cX13_engines 24 = .ok (.istore_n 1, 1) := by decide +kernel
theorem dX13_engines_25 : decode cX13_engines 25 = .ok (.iinc 2 1, 3) := by decide +kernel
theorem dX13_engines_28 : decode cX13_engines 28 = .ok (.goto (-19), 3) := by decide +kernel
theorem dX13_engines_31 : decode cX13_engines 31 = .ok (.iload_n 1, 1) := by decide +kernel
theorem dX13_engines_32 : decode cX13_engines 32 = .ok (.ireturn, 1) := by decide +kernel
theorem dX13_clock_0 : decode cX13_clock 0 = .ok (.aload_n 0, 1) := by decide +kernel
theorem dX13_clock_1 : decode cX13_clock 1 = .ok (.iconst 0, 1) := by decide +kernel
theorem dX13_clock_2 : decode cX13_clock 2 = .ok (.putfield 231, 3) := by decide +kernel
theorem dX13_clock_5 : decode cX13_clock 5 = .ok (.aload_n 0, 1) := by decide +kernel
theorem dX13_clock_6 : decode cX13_clock 6 = .ok (.getfield 9, 3) := by decide +kernel
theorem dX13_clock_9 : decode cX13_clock 9 = .ok (.iconst 1, 1) := by decide +kernel
theorem dX13_clock_10 : decode cX13_clock 10 = .ok (.iaload, 1) := by decide +kernel
theorem dX13_clock_11 : decode cX13_clock 11 = .ok (.ireturn, 1) := by decide +kernel
theorem dX13_levelOf_0 : decode cX13_levelOf 0 = .ok (.aload_n 0, 1) := by decide +kernel
theorem dX13_levelOf_1 : decode cX13_levelOf 1 = .ok (.iload_n 1, 1) := by decide +kernel
theorem dX13_levelOf_2 : decode cX13_levelOf 2 = .ok (.aload_n 0, 1) := by decide +kernel
theorem dX13_levelOf_3 : decode cX13_levelOf 3 = .ok (.iload_n 1, 1) := by decide +kernel
theorem dX13_levelOf_4 : decode cX13_levelOf 4 = .ok (.iconst 1, 1) := by decide +kernel
theorem dX13_levelOf_5 : decode cX13_levelOf 5 = .ok (.invokevirtual 252, 3) := by decide +kernel
theorem dX13_levelOf_8 : decode cX13_levelOf 8 = .ok (.iconst 1, 1) := by decide +kernel
theorem dX13_levelOf_9 : decode cX13_levelOf 9 = .ok (.if_icmp .ne 7, 3) := by decide +kernel
theorem dX13_levelOf_12 : decode cX13_levelOf 12 = .ok (.iconst 0, 1) := by decide +kernel
theorem dX13_levelOf_13 : decode cX13_levelOf 13 = .ok (.goto 4, 3) := by decide +kernel
theorem dX13_levelOf_16 : decode cX13_levelOf 16 = .ok (.iconst 2, 1) := by decide +kernel
theorem dX13_levelOf_17 : decode cX13_levelOf 17 = .ok (.invokevirtual 252, 3) := by decide +kernel
theorem dX13_levelOf_20 : decode cX13_levelOf 20 = .ok (.ireturn, 1) := by decide +kernel
theorem dX13_level_0 : decode cX13_level 0 = .ok (.aload_n 0, 1) := by decide +kernel
theorem dX13_level_1 : decode cX13_level 1 = .ok (.iconst 0, 1) := by decide +kernel
theorem dX13_level_2 : decode cX13_level 2 = .ok (.putfield 231, 3) := by decide +kernel
theorem dX13_level_5 : decode cX13_level 5 = .ok (.iload_n 1, 1) := by decide +kernel
theorem dX13_level_6 : decode cX13_level 6 = .ok (.invokestatic 255, 3) := by decide +kernel
theorem dX13_level_9 : decode cX13_level 9 = .ok (.ifCond .ne 9, 3) := by decide +kernel
theorem dX13_level_12 : decode cX13_level 12 = .ok (.aload_n 0, 1) := by decide +kernel
theorem dX13_level_13 : decode cX13_level 13 = .ok (.iconst 1, 1) := by decide +kernel
theorem dX13_level_14 : decode cX13_level 14 = .ok (.invokevirtual 259, 3) := by decide +kernel
theorem dX13_level_17 : decode cX13_level 17 = .ok (.ireturn, 1) := by decide +kernel
theorem dX13_level_18 : decode cX13_level 18 = .ok (.aload_n 0, 1) := by decide +kernel
theorem dX13_level_19 : decode cX13_level 19 = .ok (.iload_n 1, 1) := by decide +kernel
theorem dX13_level_20 : decode cX13_level 20 = .ok (.invokevirtual 262, 3) := by decide +kernel
theorem dX13_level_23 : decode cX13_level 23 = .ok (.ireturn, 1) := by decide +kernel
theorem dX13_tellPin_0 : decode cX13_tellPin 0 = .ok (.aload_n 0, 1) := by decide +kernel
theorem dX13_tellPin_1 : decode cX13_tellPin 1 = .ok (.iconst 0, 1) := by decide +kernel
theorem dX13_tellPin_2 : decode cX13_tellPin 2 = .ok (.putfield 231, 3) := by decide +kernel
theorem dX13_tellPin_5 : decode cX13_tellPin 5 = .ok (.iload_n 1, 1) := by decide +kernel
theorem dX13_tellPin_6 : decode cX13_tellPin 6 = .ok (.invokestatic 255, 3) := by decide +kernel
theorem dX13_tellPin_9 : decode cX13_tellPin 9 = .ok (.ifCond .ne 9, 3) := by decide +kernel
theorem dX13_tellPin_12 : decode cX13_tellPin 12 = .ok (.aload_n 0, 1) := by decide +kernel
theorem dX13_tellPin_13 : decode cX13_tellPin 13 = .ok (.iconst 1, 1) := by decide +kernel
theorem dX13_tellPin_14 : decode cX13_tellPin 14 = .ok (.invokevirtual 259, 3) := by decide +kernel
theorem dX13_tellPin_17 : decode cX13_tellPin 17 = .ok (.ireturn, 1) := by decide +kernel
theorem dX13_tellPin_18 : decode cX13_tellPin 18 = .ok (.aload_n 0, 1) := by decide +kernel
theorem dX13_tellPin_19 : decode cX13_tellPin 19 = .ok (.iload_n 1, 1) := by decide +kernel
theorem dX13_tellPin_20 : decode cX13_tellPin 20 = .ok (.iload_n 2, 1) := by decide +kernel
theorem dX13_tellPin_21 : decode cX13_tellPin 21 = .ok (.invokevirtual 252, 3) := by decide +kernel
theorem dX13_tellPin_24 : decode cX13_tellPin 24 = .ok (.ireturn, 1) := by decide +kernel
theorem dX13_latch_0 : decode cX13_latch 0 = .ok (.aload_n 0, 1) := by decide +kernel
theorem dX13_latch_1 : decode cX13_latch 1 = .ok (.iload_n 1, 1) := by decide +kernel
theorem dX13_latch_2 : decode cX13_latch 2 = .ok (.iconst 0, 1) := by decide +kernel
theorem dX13_latch_3 : decode cX13_latch 3 = .ok (.invokevirtual 265, 3) := by decide +kernel
theorem dX13_latch_6 : decode cX13_latch 6 = .ok (.ireturn, 1) := by decide +kernel
theorem dX13_isOutput_0 : decode cX13_isOutput 0 = .ok (.aload_n 0, 1) := by decide +kernel
theorem dX13_isOutput_1 : decode cX13_isOutput 1 = .ok (.iload_n 1, 1) := by decide +kernel
theorem dX13_isOutput_2 : decode cX13_isOutput 2 = .ok (.iconst 1, 1) := by decide +kernel
theorem dX13_isOutput_3 : decode cX13_isOutput 3 = .ok (.invokevirtual 265, 3) := by decide +kernel
theorem dX13_isOutput_6 : decode cX13_isOutput 6 = .ok (.iconst 1, 1) := by decide +kernel
theorem dX13_isOutput_7 : decode cX13_isOutput 7 = .ok (.if_icmp .ne 7, 3) := by decide +kernel
theorem dX13_isOutput_10 : decode cX13_isOutput 10 = .ok (.iconst 1, 1) := by decide +kernel
theorem dX13_isOutput_11 : decode cX13_isOutput 11 = .ok (.goto 4, 3) := by decide +kernel
theorem dX13_isOutput_14 : decode cX13_isOutput 14 = .ok (.iconst 0, 1) := by decide +kernel
theorem dX13_isOutput_15 : decode cX13_isOutput 15 = .ok (.ireturn, 1) := by decide +kernel
theorem dX13_flag_0 : decode cX13_flag 0 = .ok (.aload_n 0, 1) := by decide +kernel
theorem dX13_flag_1 : decode cX13_flag 1 = .ok (.iconst 0, 1) := by decide +kernel
theorem dX13_flag_2 : decode cX13_flag 2 = .ok (.putfield 231, 3) := by decide +kernel
theorem dX13_flag_5 : decode cX13_flag 5 = .ok (.iload_n 1, 1) := by decide +kernel
theorem dX13_flag_6 : decode cX13_flag 6 = .ok (.iconst 0, 1) := by decide +kernel
theorem dX13_flag_7 : decode cX13_flag 7 = .ok (.bipush 7, 2) := by decide +kernel
theorem dX13_flag_9 : decode cX13_flag 9 = .ok (.invokestatic 245, 3) := by decide +kernel
theorem dX13_flag_12 : decode cX13_flag 12 = .ok (.ifCond .ne 9, 3) := by decide +kernel
theorem dX13_flag_15 : decode cX13_flag 15 = .ok (.aload_n 0, 1) := by decide +kernel
theorem dX13_flag_16 : decode cX13_flag 16 = .ok (.iconst 1, 1) := by decide +kernel
theorem dX13_flag_17 : decode cX13_flag 17 = .ok (.invokevirtual 259, 3) := by decide +kernel
theorem dX13_flag_20 : decode cX13_flag 20 = .ok (.ireturn, 1) := by decide +kernel
theorem dX13_flag_21 : decode cX13_flag 21 = .ok (.aload_n 0, 1) := by decide +kernel
theorem dX13_flag_22 : decode cX13_flag 22 = .ok (.getfield 9, 3) := by decide +kernel
theorem dX13_flag_25 : decode cX13_flag 25 = .ok (.bipush 100, 2) := by decide +kernel
theorem dX13_flag_27 : decode cX13_flag 27 = .ok (.iload_n 1, 1) := by decide +kernel
theorem dX13_flag_28 : decode cX13_flag 28 = .ok (.iadd, 1) := by decide +kernel
theorem dX13_flag_29 : decode cX13_flag 29 = .ok (.iaload, 1) := by decide +kernel
theorem dX13_flag_30 : decode cX13_flag 30 = .ok (.ireturn, 1) := by decide +kernel
theorem dX13_memory_0 : decode cX13_memory 0 = .ok (.aload_n 0, 1) := by decide +kernel
theorem dX13_memory_1 : decode cX13_memory 1 = .ok (.iconst 0, 1) := by decide +kernel
theorem dX13_memory_2 : decode cX13_memory 2 = .ok (.putfield 231, 3) := by decide +kernel
theorem dX13_memory_5 : decode cX13_memory 5 = .ok (.iload_n 1, 1) := by decide +kernel
theorem dX13_memory_6 : decode cX13_memory 6 = .ok (.iconst 0, 1) := by decide +kernel
theorem dX13_memory_7 : decode cX13_memory 7 = .ok (.bipush 15, 2) := by decide +kernel
theorem dX13_memory_9 : decode cX13_memory 9 = .ok (.invokestatic 245, 3) := by decide +kernel
theorem dX13_memory_12 : decode cX13_memory 12 = .ok (.ifCond .ne 9, 3) := by decide +kernel
theorem dX13_memory_15 : decode cX13_memory 15 = .ok (.aload_n 0, 1) := by decide +kernel
theorem dX13_memory_16 : decode cX13_memory 16 = .ok (.iconst 1, 1) := by decide +kernel
theorem dX13_memory_17 : decode cX13_memory 17 = .ok (.invokevirtual 259, 3) := by decide +kernel
theorem dX13_memory_20 : decode cX13_memory 20 = .ok (.ireturn, 1) := by decide +kernel
theorem dX13_memory_21 : decode cX13_memory 21 = .ok (.aload_n 0, 1) := by decide +kernel
theorem dX13_memory_22 : decode cX13_memory 22 = .ok (.getfield 9, 3) := by decide +kernel
theorem dX13_memory_25 : decode cX13_memory 25 = .ok (.bipush 108, 2) := by decide +kernel
theorem dX13_memory_27 : decode cX13_memory 27 = .ok (.iload_n 1, 1) := by decide +kernel
theorem dX13_memory_28 : decode cX13_memory 28 = .ok (.iadd, 1) := by decide +kernel
theorem dX13_memory_29 : decode cX13_memory 29 = .ok (.iaload, 1) := by decide +kernel
theorem dX13_memory_30 : decode cX13_memory 30 = .ok (.ireturn, 1) := by decide +kernel
theorem dX13_portOwner_0 : decode cX13_portOwner 0 = .ok (.aload_n 0, 1) := by decide +kernel
theorem dX13_portOwner_1 : decode cX13_portOwner 1 = .ok (.iconst 0, 1) := by decide +kernel
theorem dX13_portOwner_2 : decode cX13_portOwner 2 = .ok (.putfield 231, 3) := by decide +kernel
theorem dX13_portOwner_5 : decode cX13_portOwner 5 = .ok (.aload_n 0, 1) := by decide +kernel
theorem dX13_portOwner_6 : decode cX13_portOwner 6 = .ok (.getfield 9, 3) := by decide +kernel
theorem dX13_portOwner_9 : decode cX13_portOwner 9 = .ok (.iconst 2, 1) := by decide +kernel
theorem dX13_portOwner_10 : decode cX13_portOwner 10 = .ok (.iaload, 1) := by decide +kernel
theorem dX13_portOwner_11 : decode cX13_portOwner 11 = .ok (.ireturn, 1) := by decide +kernel
theorem dX13_tell_0 : decode cX13_tell 0 = .ok (.aload_n 0, 1) := by decide +kernel
theorem dX13_tell_1 : decode cX13_tell 1 = .ok (.iconst 0, 1) := by decide +kernel
theorem dX13_tell_2 : decode cX13_tell 2 = .ok (.putfield 231, 3) := by decide +kernel
theorem dX13_tell_5 : decode cX13_tell 5 = .ok (.aload_n 0, 1) := by decide +kernel
theorem dX13_tell_6 : decode cX13_tell 6 = .ok (.iload_n 1, 1) := by decide +kernel
theorem dX13_tell_7 : decode cX13_tell 7 = .ok (.invokevirtual 268, 3) := by decide +kernel
theorem dX13_tell_10 : decode cX13_tell 10 = .ok (.ifCond .ne 9, 3) := by decide +kernel
theorem dX13_tell_13 : decode cX13_tell 13 = .ok (.aload_n 0, 1) := by decide +kernel
theorem dX13_tell_14 : decode cX13_tell 14 = .ok (.iconst 1, 1) := by decide +kernel
theorem dX13_tell_15 : decode cX13_tell 15 = .ok (.invokevirtual 259, 3) := by decide +kernel
theorem dX13_tell_18 : decode cX13_tell 18 = .ok (.ireturn, 1) := by decide +kernel
theorem dX13_tell_19 : decode cX13_tell 19 = .ok (.aload_n 0, 1) := by decide +kernel
theorem dX13_tell_20 : decode cX13_tell 20 = .ok (.iload_n 1, 1) := by decide +kernel
theorem dX13_tell_21 : decode cX13_tell 21 = .ok (.iload_n 2, 1) := by decide +kernel
theorem dX13_tell_22 : decode cX13_tell 22 = .ok (.invokevirtual 238, 3) := by decide +kernel
theorem dX13_tell_25 : decode cX13_tell 25 = .ok (.ireturn, 1) := by decide +kernel
theorem dX13_pc_0 : decode cX13_pc 0 = .ok (.aload_n 0, 1) := by decide +kernel
theorem dX13_pc_1 : decode cX13_pc 1 = .ok (.iload_n 1, 1) := by decide +kernel
theorem dX13_pc_2 : decode cX13_pc 2 = .ok (.iconst 1, 1) := by decide +kernel
theorem dX13_pc_3 : decode cX13_pc 3 = .ok (.invokevirtual 271, 3) := by decide +kernel
theorem dX13_pc_6 : decode cX13_pc 6 = .ok (.ireturn, 1) := by decide +kernel
theorem dX13_register_0 : decode cX13_register 0 = .ok (.aload_n 0, 1) := by decide +kernel
theorem dX13_register_1 : decode cX13_register 1 = .ok (.iconst 0, 1) := by decide +kernel
theorem dX13_register_2 : decode cX13_register 2 = .ok (.putfield 231, 3) := by decide +kernel
theorem dX13_register_5 : decode cX13_register 5 = .ok (.aload_n 0, 1) := by decide +kernel
theorem dX13_register_6 : decode cX13_register 6 = .ok (.iload_n 1, 1) := by decide +kernel
theorem dX13_register_7 : decode cX13_register 7 = .ok (.invokevirtual 268, 3) := by decide +kernel
theorem dX13_register_10 : decode cX13_register 10 = .ok (.ifCond .eq 12, 3) := by decide +kernel
theorem dX13_register_13 : decode cX13_register 13 = .ok (.iload_n 2, 1) := by decide +kernel
theorem dX13_register_14 : decode cX13_register 14 = .ok (.iconst 0, 1) := by decide +kernel
theorem dX13_register_15 : decode cX13_register 15 = .ok (.iconst 3, 1) := by decide +kernel
theorem dX13_register_16 : decode cX13_register 16 = .ok (.invokestatic 245, 3) := by decide +kernel
theorem dX13_register_19 : decode cX13_register 19 = .ok (.ifCond .ne 9, 3) := by decide +kernel
theorem dX13_register_22 : decode cX13_register 22 = .ok (.aload_n 0, 1) := by decide +kernel
theorem dX13_register_23 : decode cX13_register 23 = .ok (.iconst 1, 1) := by decide +kernel
theorem dX13_register_24 : decode cX13_register 24 = .ok (.invokevirtual 259, 3) := by decide +kernel
theorem dX13_register_27 : decode cX13_register 27 = .ok (.ireturn, 1) := by decide +kernel
theorem dX13_register_28 : decode cX13_register 28 = .ok (.aload_n 0, 1) := by decide +kernel
theorem dX13_register_29 : decode cX13_register 29 = .ok (.iload_n 1, 1) := by decide +kernel
theorem dX13_register_30 : decode cX13_register 30 = .ok (.iconst 2, 1) := by decide +kernel
theorem dX13_register_31 : decode cX13_register 31 = .ok (.iload_n 2, 1) := by decide +kernel
theorem dX13_register_32 : decode cX13_register 32 = .ok (.iadd, 1) := by decide +kernel
theorem dX13_register_33 : decode cX13_register 33 = .ok (.invokevirtual 238, 3) := by decide +kernel
theorem dX13_register_36 : decode cX13_register 36 = .ok (.ireturn, 1) := by decide +kernel
theorem dX13_fill_0 : decode cX13_fill 0 = .ok (.aload_n 0, 1) := by decide +kernel
theorem dX13_fill_1 : decode cX13_fill 1 = .ok (.iload_n 1, 1) := by decide +kernel
theorem dX13_fill_2 : decode cX13_fill 2 = .ok (.bipush 6, 2) := by decide +kernel
theorem dX13_fill_4 : decode cX13_fill 4 = .ok (.invokevirtual 271, 3) := by decide +kernel
theorem dX13_fill_7 : decode cX13_fill 7 = .ok (.ireturn, 1) := by decide +kernel
theorem dX13_spent_0 : decode cX13_spent 0 = .ok (.aload_n 0, 1) := by decide +kernel
theorem dX13_spent_1 : decode cX13_spent 1 = .ok (.iload_n 1, 1) := by decide +kernel
theorem dX13_spent_2 : decode cX13_spent 2 = .ok (.bipush 7, 2) := by decide +kernel
theorem dX13_spent_4 : decode cX13_spent 4 = .ok (.invokevirtual 271, 3) := by decide +kernel
theorem dX13_spent_7 : decode cX13_spent 7 = .ok (.ireturn, 1) := by decide +kernel
theorem dX13_delayLeft_0 : decode cX13_delayLeft 0 = .ok (.aload_n 0, 1) := by decide +kernel
theorem dX13_delayLeft_1 : decode cX13_delayLeft 1 = .ok (.iload_n 1, 1) := by decide +kernel
theorem dX13_delayLeft_2 : decode cX13_delayLeft 2 = .ok (.bipush 8, 2) := by decide +kernel
theorem dX13_delayLeft_4 : decode cX13_delayLeft 4 = .ok (.invokevirtual 271, 3) := by decide +kernel
theorem dX13_delayLeft_7 : decode cX13_delayLeft 7 = .ok (.ireturn, 1) := by decide +kernel
theorem dX13_stall_0 : decode cX13_stall 0 = .ok (.aload_n 0, 1) := by decide +kernel
theorem dX13_stall_1 : decode cX13_stall 1 = .ok (.iload_n 1, 1) := by decide +kernel
theorem dX13_stall_2 : decode cX13_stall 2 = .ok (.bipush 9, 2) := by decide +kernel
theorem dX13_stall_4 : decode cX13_stall 4 = .ok (.invokevirtual 271, 3) := by decide +kernel
theorem dX13_stall_7 : decode cX13_stall 7 = .ok (.ireturn, 1) := by decide +kernel
theorem dX13_isEnabled_0 : decode cX13_isEnabled 0 = .ok (.aload_n 0, 1) := by decide +kernel
theorem dX13_isEnabled_1 : decode cX13_isEnabled 1 = .ok (.iload_n 1, 1) := by decide +kernel
theorem dX13_isEnabled_2 : decode cX13_isEnabled 2 = .ok (.iconst 0, 1) := by decide +kernel
theorem dX13_isEnabled_3 : decode cX13_isEnabled 3 = .ok (.invokevirtual 271, 3) := by decide +kernel
theorem dX13_isEnabled_6 : decode cX13_isEnabled 6 = .ok (.iconst 1, 1) := by decide +kernel
theorem dX13_isEnabled_7 : decode cX13_isEnabled 7 = .ok (.if_icmp .ne 7, 3) := by decide +kernel
theorem dX13_isEnabled_10 : decode cX13_isEnabled 10 = .ok (.iconst 1, 1) := by decide +kernel
theorem dX13_isEnabled_11 : decode cX13_isEnabled 11 = .ok (.goto 4, 3) := by decide +kernel
theorem dX13_isEnabled_14 : decode cX13_isEnabled 14 = .ok (.iconst 0, 1) := by decide +kernel
theorem dX13_isEnabled_15 : decode cX13_isEnabled 15 = .ok (.ireturn, 1) := by decide +kernel
theorem dX13_queueSize_0 : decode cX13_queueSize 0 = .ok (.aload_n 0, 1) := by decide +kernel
theorem dX13_queueSize_1 : decode cX13_queueSize 1 = .ok (.iload_n 1, 1) := by decide +kernel
theorem dX13_queueSize_2 : decode cX13_queueSize 2 = .ok (.iload_n 2, 1) := by decide +kernel
theorem dX13_queueSize_3 : decode cX13_queueSize 3 = .ok (.ifCond .eq 8, 3) := by decide +kernel
theorem dX13_queueSize_6 : decode cX13_queueSize 6 = .ok (.bipush 12, 2) := by decide +kernel
theorem dX13_queueSize_8 : decode cX13_queueSize 8 = .ok (.goto 5, 3) := by decide +kernel
theorem dX13_queueSize_11 : decode cX13_queueSize 11 = .ok (.bipush 11, 2) := by decide +kernel
theorem dX13_queueSize_13 : decode cX13_queueSize 13 = .ok (.invokevirtual 271, 3) := by decide +kernel
theorem dX13_queueSize_16 : decode cX13_queueSize 16 = .ok (.ireturn, 1) := by decide +kernel
theorem dX13_unsigned_0 : decode cX13_unsigned 0 = .ok (.iload_n 0, 1) := by decide +kernel
theorem dX13_unsigned_1 : decode cX13_unsigned 1 = .ok (.i2l, 1) := by decide +kernel
theorem dX13_unsigned_2 : decode cX13_unsigned 2 = .ok (.ldc2_w 274, 3) := by decide +kernel
theorem dX13_unsigned_5 : decode cX13_unsigned 5 = .ok (.land, 1) := by decide +kernel
theorem dX13_unsigned_6 : decode cX13_unsigned 6 = .ok (.lreturn, 1) := by decide +kernel
theorem dX13_queued_0 : decode cX13_queued 0 = .ok (.aload_n 0, 1) := by decide +kernel
theorem dX13_queued_1 : decode cX13_queued 1 = .ok (.iconst 0, 1) := by decide +kernel
theorem dX13_queued_2 : decode cX13_queued 2 = .ok (.putfield 231, 3) := by decide +kernel
theorem dX13_queued_5 : decode cX13_queued 5 = .ok (.aload_n 0, 1) := by decide +kernel
theorem dX13_queued_6 : decode cX13_queued 6 = .ok (.iload_n 1, 1) := by decide +kernel
theorem dX13_queued_7 : decode cX13_queued 7 = .ok (.invokevirtual 268, 3) := by decide +kernel
theorem dX13_queued_10 : decode cX13_queued 10 = .ok (.ifCond .eq 7, 3) := by decide +kernel
theorem dX13_queued_13 : decode cX13_queued 13 = .ok (.iload_n 3, 1) := by decide +kernel
theorem dX13_queued_14 : decode cX13_queued 14 = .ok (.ifCond .ge 10, 3) := by decide +kernel
theorem dX13_queued_17 : decode cX13_queued 17 = .ok (.aload_n 0, 1) := by decide +kernel
theorem dX13_queued_18 : decode cX13_queued 18 = .ok (.iconst 1, 1) := by decide +kernel
theorem dX13_queued_19 : decode cX13_queued 19 = .ok (.invokevirtual 259, 3) := by decide +kernel
theorem dX13_queued_22 : decode cX13_queued 22 = .ok (.i2l, 1) := by decide +kernel
theorem dX13_queued_23 : decode cX13_queued 23 = .ok (.lreturn, 1) := by decide +kernel
theorem dX13_queued_24 : decode cX13_queued 24 = .ok (.iload_n 3, 1) := by decide +kernel
theorem dX13_queued_25 : decode cX13_queued 25 = .ok (.aload_n 0, 1) := by decide +kernel
theorem dX13_queued_26 : decode cX13_queued 26 = .ok (.iload_n 1, 1) := by decide +kernel
theorem dX13_queued_27 : decode cX13_queued 27 = .ok (.iload_n 2, 1) := by decide +kernel
theorem dX13_queued_28 : decode cX13_queued 28 = .ok (.ifCond .eq 8, 3) := by decide +kernel
theorem dX13_queued_31 : decode cX13_queued 31 = .ok (.bipush 12, 2) := by decide +kernel
theorem dX13_queued_33 : decode cX13_queued 33 = .ok (.goto 5, 3) := by decide +kernel
theorem dX13_queued_36 : decode cX13_queued 36 = .ok (.bipush 11, 2) := by decide +kernel
theorem dX13_queued_38 : decode cX13_queued 38 = .ok (.invokevirtual 238, 3) := by decide +kernel
theorem dX13_queued_41 : decode cX13_queued 41 = .ok (.if_icmp .ge 7, 3) := by decide +kernel
theorem dX13_queued_44 : decode cX13_queued 44 = .ok (.iconst 1, 1) := by decide +kernel
theorem dX13_queued_45 : decode cX13_queued 45 = .ok (.goto 4, 3) := by decide +kernel
theorem dX13_queued_48 : decode cX13_queued 48 = .ok (.iconst 0, 1) := by decide +kernel
theorem dX13_queued_49 : decode cX13_queued 49 = .ok (.istore 4, 2) := by decide +kernel
theorem dX13_queued_51 : decode cX13_queued 51 = .ok (.iload 4, 2) := by decide +kernel
theorem dX13_queued_53 : decode cX13_queued 53 = .ok (.ifCond .eq 27, 3) := by decide +kernel
theorem dX13_queued_56 : decode cX13_queued 56 = .ok (.aload_n 0, 1) := by decide +kernel
theorem dX13_queued_57 : decode cX13_queued 57 = .ok (.iload_n 1, 1) := by decide +kernel
theorem dX13_queued_58 : decode cX13_queued 58 = .ok (.iload_n 2, 1) := by decide +kernel
theorem dX13_queued_59 : decode cX13_queued 59 = .ok (.ifCond .eq 8, 3) := by decide +kernel
theorem dX13_queued_62 : decode cX13_queued 62 = .ok (.bipush 21, 2) := by decide +kernel
theorem dX13_queued_64 : decode cX13_queued 64 = .ok (.goto 5, 3) := by decide +kernel
theorem dX13_queued_67 : decode cX13_queued 67 = .ok (.bipush 13, 2) := by decide +kernel
theorem dX13_queued_69 : decode cX13_queued 69 = .ok (.iload_n 3, 1) := by decide +kernel
theorem dX13_queued_70 : decode cX13_queued 70 = .ok (.iadd, 1) := by decide +kernel
theorem dX13_queued_71 : decode cX13_queued 71 = .ok (.invokevirtual 238, 3) := by decide +kernel
theorem dX13_queued_74 : decode cX13_queued 74 = .ok (.invokestatic 276, 3) := by decide +kernel
theorem dX13_queued_77 : decode cX13_queued 77 = .ok (.goto 6, 3) := by decide +kernel
theorem dX13_queued_80 : decode cX13_queued 80 = .ok (.ldc2_w 280, 3) := by decide +kernel
theorem dX13_queued_83 : decode cX13_queued 83 = .ok (.lreturn, 1) := by decide +kernel
theorem dX13_isFull_0 : decode cX13_isFull 0 = .ok (.aload_n 0, 1) := by decide +kernel
theorem dX13_isFull_1 : decode cX13_isFull 1 = .ok (.iload_n 1, 1) := by decide +kernel
theorem dX13_isFull_2 : decode cX13_isFull 2 = .ok (.iload_n 2, 1) := by decide +kernel
theorem dX13_isFull_3 : decode cX13_isFull 3 = .ok (.ifCond .eq 8, 3) := by decide +kernel
theorem dX13_isFull_6 : decode cX13_isFull 6 = .ok (.bipush 12, 2) := by decide +kernel
theorem dX13_isFull_8 : decode cX13_isFull 8 = .ok (.goto 5, 3) := by decide +kernel
theorem dX13_isFull_11 : decode cX13_isFull 11 = .ok (.bipush 11, 2) := by decide +kernel
theorem dX13_isFull_13 : decode cX13_isFull 13 = .ok (.invokevirtual 238, 3) := by decide +kernel
theorem dX13_isFull_16 : decode cX13_isFull 16 = .ok (.aload_n 0, 1) := by decide +kernel
theorem dX13_isFull_17 : decode cX13_isFull 17 = .ok (.iload_n 1, 1) := by decide +kernel
theorem dX13_isFull_18 : decode cX13_isFull 18 = .ok (.iload_n 2, 1) := by decide +kernel
theorem dX13_isFull_19 : decode cX13_isFull 19 = .ok (.ifCond .eq 8, 3) := by decide +kernel
theorem dX13_isFull_22 : decode cX13_isFull 22 = .ok (.bipush 20, 2) := by decide +kernel
theorem dX13_isFull_24 : decode cX13_isFull 24 = .ok (.goto 5, 3) := by decide +kernel
theorem dX13_isFull_27 : decode cX13_isFull 27 = .ok (.bipush 19, 2) := by decide +kernel
theorem dX13_isFull_29 : decode cX13_isFull 29 = .ok (.invokevirtual 249, 3) := by decide +kernel
theorem dX13_isFull_32 : decode cX13_isFull 32 = .ok (.if_icmp .lt 7, 3) := by decide +kernel
theorem dX13_isFull_35 : decode cX13_isFull 35 = .ok (.iconst 1, 1) := by decide +kernel
theorem dX13_isFull_36 : decode cX13_isFull 36 = .ok (.goto 4, 3) := by decide +kernel
theorem dX13_isFull_39 : decode cX13_isFull 39 = .ok (.iconst 0, 1) := by decide +kernel
theorem dX13_isFull_40 : decode cX13_isFull 40 = .ok (.ireturn, 1) := by decide +kernel
theorem dX13_append_0 : decode cX13_append 0 = .ok (.iload_n 2, 1) := by decide +kernel
theorem dX13_append_1 : decode cX13_append 1 = .ok (.ifCond .eq 8, 3) := by decide +kernel
theorem dX13_append_4 : decode cX13_append 4 = .ok (.bipush 12, 2) := by decide +kernel
theorem dX13_append_6 : decode cX13_append 6 = .ok (.goto 5, 3) := by decide +kernel
theorem dX13_append_9 : decode cX13_append 9 = .ok (.bipush 11, 2) := by decide +kernel
theorem dX13_append_11 : decode cX13_append 11 = .ok (.istore 4, 2) := by decide +kernel
theorem dX13_append_13 : decode cX13_append 13 = .ok (.aload_n 0, 1) := by decide +kernel
theorem dX13_append_14 : decode cX13_append 14 = .ok (.iload_n 1, 1) := by decide +kernel
theorem dX13_append_15 : decode cX13_append 15 = .ok (.iload_n 2, 1) := by decide +kernel
theorem dX13_append_16 : decode cX13_append 16 = .ok (.ifCond .eq 8, 3) := by decide +kernel
theorem dX13_append_19 : decode cX13_append 19 = .ok (.bipush 21, 2) := by decide +kernel
theorem dX13_append_21 : decode cX13_append 21 = .ok (.goto 5, 3) := by decide +kernel
theorem dX13_append_24 : decode cX13_append 24 = .ok (.bipush 13, 2) := by decide +kernel
theorem dX13_append_26 : decode cX13_append 26 = .ok (.aload_n 0, 1) := by decide +kernel
theorem dX13_append_27 : decode cX13_append 27 = .ok (.iload_n 1, 1) := by decide +kernel
theorem dX13_append_28 : decode cX13_append 28 = .ok (.iload 4, 2) := by decide +kernel
theorem dX13_append_30 : decode cX13_append 30 = .ok (.invokevirtual 238, 3) := by decide +kernel
theorem dX13_append_33 : decode cX13_append 33 = .ok (.iadd, 1) := by decide +kernel
theorem dX13_append_34 : decode cX13_append 34 = .ok (.iload_n 3, 1) := by decide +kernel
theorem dX13_append_35 : decode cX13_append 35 = .ok (.invokevirtual 282, 3) := by decide +kernel
theorem dX13_append_38 : decode cX13_append 38 = .ok (.aload_n 0, 1) := by decide +kernel
theorem dX13_append_39 : decode cX13_append 39 = .ok (.iload_n 1, 1) := by decide +kernel
theorem dX13_append_40 : decode cX13_append 40 = .ok (.iload 4, 2) := by decide +kernel
theorem dX13_append_42 : decode cX13_append 42 = .ok (.iconst 1, 1) := by decide +kernel
theorem dX13_append_43 : decode cX13_append 43 = .ok (.invokevirtual 234, 3) := by decide +kernel
theorem dX13_append_46 : decode cX13_append 46 = .ok (.return_, 1) := by decide +kernel
theorem dX13_removeFirst_0 : decode cX13_removeFirst 0 = .ok (.iload_n 2, 1) := by decide +kernel
theorem dX13_removeFirst_1 : decode cX13_removeFirst 1 = .ok (.ifCond .eq 8, 3) := by decide +kernel
theorem dX13_removeFirst_4 : decode cX13_removeFirst 4 = .ok (.bipush 21, 2) := by decide +kernel
theorem dX13_removeFirst_6 : decode cX13_removeFirst 6 = .ok (.goto 5, 3) := by decide +kernel
theorem dX13_removeFirst_9 : decode cX13_removeFirst 9 = .ok (.bipush 13, 2) := by decide +kernel
theorem dX13_removeFirst_11 : decode cX13_removeFirst 11 = .ok (.istore_n 3, 1) := by decide +kernel
theorem dX13_removeFirst_12 : decode cX13_removeFirst 12 = .ok (.iload_n 2, 1) := by decide +kernel
theorem dX13_removeFirst_13 : decode cX13_removeFirst 13 = .ok (.ifCond .eq 8, 3) := by decide +kernel
theorem dX13_removeFirst_16 : decode cX13_removeFirst 16 = .ok (.bipush 12, 2) := by decide +kernel
theorem dX13_removeFirst_18 : decode cX13_removeFirst 18 = .ok (.goto 5, 3) := by decide +kernel
theorem dX13_removeFirst_21 : decode cX13_removeFirst 21 = .ok (.bipush 11, 2) := by decide +kernel
theorem dX13_removeFirst_23 : decode cX13_removeFirst 23 = .ok (.istore 4, 2) := by decide +kernel
theorem dX13_removeFirst_25 : decode cX13_removeFirst 25 = .ok (.aload_n 0, 1) := by decide +kernel
theorem dX13_removeFirst_26 : decode cX13_removeFirst 26 = .ok (.iload_n 1, 1) := by decide +kernel
theorem dX13_removeFirst_27 : decode cX13_removeFirst 27 = .ok (.iload_n 3, 1) := by decide +kernel
theorem dX13_removeFirst_28 : decode cX13_removeFirst 28 = .ok (.invokevirtual 238, 3) := by decide +kernel
theorem dX13_removeFirst_31 : decode cX13_removeFirst 31 = .ok (.istore 5, 2) := by decide +kernel
theorem dX13_removeFirst_33 : decode cX13_removeFirst 33 = .ok (.iconst 1, 1) := by decide +kernel
theorem dX13_removeFirst_34 : decode cX13_removeFirst 34 = .ok (.istore 6, 2) := by decide +kernel
theorem dX13_removeFirst_36 : decode cX13_removeFirst 36 = .ok (.iload 6, 2) := by decide +kernel
theorem dX13_removeFirst_38 : decode cX13_removeFirst 38 = .ok (.aload_n 0, 1) := by decide +kernel
theorem dX13_removeFirst_39 : decode cX13_removeFirst 39 = .ok (.iload_n 1, 1) := by decide +kernel
theorem dX13_removeFirst_40 : decode cX13_removeFirst 40 = .ok (.iload 4, 2) := by decide +kernel
theorem dX13_removeFirst_42 : decode cX13_removeFirst 42 = .ok (.invokevirtual 238, 3) := by decide +kernel
theorem dX13_removeFirst_45 : decode cX13_removeFirst 45 = .ok (.if_icmp .ge 29, 3) := by decide +kernel
theorem dX13_removeFirst_48 : decode cX13_removeFirst 48 = .ok (.aload_n 0, 1) := by decide +kernel
theorem dX13_removeFirst_49 : decode cX13_removeFirst 49 = .ok (.iload_n 1, 1) := by decide +kernel
theorem dX13_removeFirst_50 : decode cX13_removeFirst 50 = .ok (.iload_n 3, 1) := by decide +kernel
theorem dX13_removeFirst_51 : decode cX13_removeFirst 51 = .ok (.iload 6, 2) := by decide +kernel
theorem dX13_removeFirst_53 : decode cX13_removeFirst 53 = .ok (.iadd, 1) := by decide +kernel
theorem dX13_removeFirst_54 : decode cX13_removeFirst 54 = .ok (.iconst 1, 1) := by decide +kernel
theorem dX13_removeFirst_55 : decode cX13_removeFirst 55 = .ok (.isub, 1) := by decide +kernel
theorem dX13_removeFirst_56 : decode cX13_removeFirst 56 = .ok (.aload_n 0, 1) := by decide +kernel
theorem dX13_removeFirst_57 : decode cX13_removeFirst 57 = .ok (.iload_n 1, 1) := by decide +kernel
theorem dX13_removeFirst_58 : decode cX13_removeFirst 58 = .ok (.iload_n 3, 1) := by decide +kernel
theorem dX13_removeFirst_59 : decode cX13_removeFirst 59 = .ok (.iload 6, 2) := by decide +kernel
theorem dX13_removeFirst_61 : decode cX13_removeFirst 61 = .ok (.iadd, 1) := by decide +kernel
theorem dX13_removeFirst_62 : decode cX13_removeFirst 62 = .ok (.invokevirtual 238, 3) := by decide +kernel
theorem dX13_removeFirst_65 : decode cX13_removeFirst 65 = .ok (.invokevirtual 282, 3) := by decide +kernel
theorem dX13_removeFirst_68 : decode cX13_removeFirst 68 = .ok (.iinc 6 1, 3) := by decide +kernel
theorem dX13_removeFirst_71 : decode cX13_removeFirst 71 = .ok (.goto (-35), 3) := by decide +kernel
theorem dX13_removeFirst_74 : decode cX13_removeFirst 74 = .ok (.aload_n 0, 1) := by decide +kernel
theorem dX13_removeFirst_75 : decode cX13_removeFirst 75 = .ok (.iload_n 1, 1) := by decide +kernel
theorem dX13_removeFirst_76 : decode cX13_removeFirst 76 = .ok (.iload 4, 2) := by decide +kernel
theorem dX13_removeFirst_78 : decode cX13_removeFirst 78 = .ok (.iconst (-1), 1) := by decide +kernel
theorem dX13_removeFirst_79 : decode cX13_removeFirst 79 = .ok (.invokevirtual 234, 3) := by decide +kernel
theorem dX13_removeFirst_82 : decode cX13_removeFirst 82 = .ok (.iload 5, 2) := by decide +kernel
theorem dX13_removeFirst_84 : decode cX13_removeFirst 84 = .ok (.ireturn, 1) := by decide +kernel
theorem dX13_applyScheduled_0 : decode cX13_applyScheduled 0 = .ok (.iconst 0, 1) := by decide +kernel
theorem dX13_applyScheduled_1 : decode cX13_applyScheduled 1 = .ok (.istore_n 1, 1) := by decide +kernel
theorem dX13_applyScheduled_2 : decode cX13_applyScheduled 2 = .ok (.iconst 0, 1) := by decide +kernel
theorem dX13_applyScheduled_3 : decode cX13_applyScheduled 3 = .ok (.istore_n 2, 1) := by decide +kernel
theorem dX13_applyScheduled_4 : decode cX13_applyScheduled 4 = .ok (.iload_n 2, 1) := by decide +kernel
theorem dX13_applyScheduled_5 : decode cX13_applyScheduled 5 = .ok (.aload_n 0, 1) := by decide +kernel
theorem dX13_applyScheduled_6 : decode cX13_applyScheduled 6 = .ok (.getfield 9, 3) := by decide +kernel
theorem dX13_applyScheduled_9 : decode cX13_applyScheduled 9 = .ok (.iconst 3, 1) := by decide +kernel
theorem dX13_applyScheduled_10 : decode cX13_applyScheduled 10 = .ok (.iaload, 1) := by decide +kernel
theorem dX13_applyScheduled_11 : decode cX13_applyScheduled 11 = .ok (.if_icmp .ge 96, 3) := by decide +kernel
theorem dX13_applyScheduled_14 : decode cX13_applyScheduled 14 = .ok (.bipush 124, 2) := by decide +kernel
theorem dX13_applyScheduled_16 : decode cX13_applyScheduled 16 = .ok (.iconst 3, 1) := by decide +kernel
theorem dX13_applyScheduled_17 : decode cX13_applyScheduled 17 = .ok (.iload_n 2, 1) := by decide +kernel
theorem dX13_applyScheduled_18 : decode cX13_applyScheduled 18 = .ok (.imul, 1) := by decide +kernel
theorem dX13_applyScheduled_19 : decode cX13_applyScheduled 19 = .ok (.iadd, 1) := by decide +kernel
theorem dX13_applyScheduled_20 : decode cX13_applyScheduled 20 = .ok (.istore_n 3, 1) := by decide +kernel
theorem dX13_applyScheduled_21 : decode cX13_applyScheduled 21 = .ok (.aload_n 0, 1) := by decide +kernel
theorem dX13_applyScheduled_22 : decode cX13_applyScheduled 22 = .ok (.getfield 9, 3) := by decide +kernel
theorem dX13_applyScheduled_25 : decode cX13_applyScheduled 25 = .ok (.iload_n 3, 1) := by decide +kernel
theorem dX13_applyScheduled_26 : decode cX13_applyScheduled 26 = .ok (.iaload, 1) := by decide +kernel
theorem dX13_applyScheduled_27 : decode cX13_applyScheduled 27 = .ok (.aload_n 0, 1) := by decide +kernel
theorem dX13_applyScheduled_28 : decode cX13_applyScheduled 28 = .ok (.getfield 9, 3) := by decide +kernel
theorem dX13_applyScheduled_31 : decode cX13_applyScheduled 31 = .ok (.iconst 1, 1) := by decide +kernel
theorem dX13_applyScheduled_32 : decode cX13_applyScheduled 32 = .ok (.iaload, 1) := by decide +kernel
theorem dX13_applyScheduled_33 : decode cX13_applyScheduled 33 = .ok (.if_icmp .ne 27, 3) := by decide +kernel
theorem dX13_applyScheduled_36 : decode cX13_applyScheduled 36 = .ok (.aload_n 0, 1) := by decide +kernel
theorem dX13_applyScheduled_37 : decode cX13_applyScheduled 37 = .ok (.aload_n 0, 1) := by decide +kernel
theorem dX13_applyScheduled_38 : decode cX13_applyScheduled 38 = .ok (.getfield 9, 3) := by decide +kernel
theorem dX13_applyScheduled_41 : decode cX13_applyScheduled 41 = .ok (.iload_n 3, 1) := by decide +kernel
theorem dX13_applyScheduled_42 : decode cX13_applyScheduled 42 = .ok (.iconst 1, 1) := by decide +kernel
theorem dX13_applyScheduled_43 : decode cX13_applyScheduled 43 = .ok (.iadd, 1) := by decide +kernel
theorem dX13_applyScheduled_44 : decode cX13_applyScheduled 44 = .ok (.iaload, 1) := by decide +kernel
theorem dX13_applyScheduled_45 : decode cX13_applyScheduled 45 = .ok (.iconst 2, 1) := by decide +kernel
theorem dX13_applyScheduled_46 : decode cX13_applyScheduled 46 = .ok (.aload_n 0, 1) := by decide +kernel
theorem dX13_applyScheduled_47 : decode cX13_applyScheduled 47 = .ok (.getfield 9, 3) := by decide +kernel
theorem dX13_applyScheduled_50 : decode cX13_applyScheduled 50 = .ok (.iload_n 3, 1) := by decide +kernel
theorem dX13_applyScheduled_51 : decode cX13_applyScheduled 51 = .ok (.iconst 2, 1) := by decide +kernel
theorem dX13_applyScheduled_52 : decode cX13_applyScheduled 52 = .ok (.iadd, 1) := by decide +kernel
theorem dX13_applyScheduled_53 : decode cX13_applyScheduled 53 = .ok (.iaload, 1) := by decide +kernel
theorem dX13_applyScheduled_54 : decode cX13_applyScheduled 54 = .ok (.invokevirtual 284, 3) := by decide +kernel
theorem dX13_applyScheduled_57 : decode cX13_applyScheduled 57 = .ok (.goto 44, 3) := by decide +kernel
theorem dX13_applyScheduled_60 : decode cX13_applyScheduled 60 = .ok (.iconst 0, 1) := by decide +kernel
theorem dX13_applyScheduled_61 : decode cX13_applyScheduled 61 = .ok (.istore 4, 2) := by decide +kernel
theorem dX13_applyScheduled_63 : decode cX13_applyScheduled 63 = .ok (.iload 4, 2) := by decide +kernel
theorem dX13_applyScheduled_65 : decode cX13_applyScheduled 65 = .ok (.iconst 3, 1) := by decide +kernel
theorem dX13_applyScheduled_66 : decode cX13_applyScheduled 66 = .ok (.if_icmp .ge 32, 3) := by decide +kernel
theorem dX13_applyScheduled_69 : decode cX13_applyScheduled 69 = .ok (.aload_n 0, 1) := by decide +kernel
theorem dX13_applyScheduled_70 : decode cX13_applyScheduled 70 = .ok (.getfield 9, 3) := by decide +kernel
theorem dX13_applyScheduled_73 : decode cX13_applyScheduled 73 = .ok (.bipush 124, 2) := by decide +kernel
theorem dX13_applyScheduled_75 : decode cX13_applyScheduled 75 = .ok (.iconst 3, 1) := by decide +kernel
theorem dX13_applyScheduled_76 : decode cX13_applyScheduled 76 = .ok (.iload_n 1, 1) := by decide +kernel
theorem dX13_applyScheduled_77 : decode cX13_applyScheduled 77 = .ok (.imul, 1) := by decide +kernel
theorem dX13_applyScheduled_78 : decode cX13_applyScheduled 78 = .ok (.iadd, 1) := by decide +kernel
theorem dX13_applyScheduled_79 : decode cX13_applyScheduled 79 = .ok (.iload 4, 2) := by decide +kernel
theorem dX13_applyScheduled_81 : decode cX13_applyScheduled 81 = .ok (.iadd, 1) := by decide +kernel
theorem dX13_applyScheduled_82 : decode cX13_applyScheduled 82 = .ok (.aload_n 0, 1) := by decide +kernel
theorem dX13_applyScheduled_83 : decode cX13_applyScheduled 83 = .ok (.getfield 9, 3) := by decide +kernel
theorem dX13_applyScheduled_86 : decode cX13_applyScheduled 86 = .ok (.iload_n 3, 1) := by decide +kernel
theorem dX13_applyScheduled_87 : decode cX13_applyScheduled 87 = .ok (.iload 4, 2) := by decide +kernel
theorem dX13_applyScheduled_89 : decode cX13_applyScheduled 89 = .ok (.iadd, 1) := by decide +kernel
theorem dX13_applyScheduled_90 : decode cX13_applyScheduled 90 = .ok (.iaload, 1) := by decide +kernel
theorem dX13_applyScheduled_91 : decode cX13_applyScheduled 91 = .ok (.iastore, 1) := by decide +kernel
theorem dX13_applyScheduled_92 : decode cX13_applyScheduled 92 = .ok (.iinc 4 1, 3) := by decide +kernel
theorem dX13_applyScheduled_95 : decode cX13_applyScheduled 95 = .ok (.goto (-32), 3) := by decide +kernel
theorem dX13_applyScheduled_98 : decode cX13_applyScheduled 98 = .ok (.iinc 1 1, 3) := by decide +kernel
theorem dX13_applyScheduled_101 : decode cX13_applyScheduled 101 = .ok (.iinc 2 1, 3) := by decide +kernel
theorem dX13_applyScheduled_104 : decode cX13_applyScheduled 104 = .ok (.goto (-100), 3) := by decide +kernel
theorem dX13_applyScheduled_107 : decode cX13_applyScheduled 107 = .ok (.aload_n 0, 1) := by decide +kernel
theorem dX13_applyScheduled_108 : decode cX13_applyScheduled 108 = .ok (.getfield 9, 3) := by decide +kernel
theorem dX13_applyScheduled_111 : decode cX13_applyScheduled 111 = .ok (.iconst 3, 1) := by decide +kernel
theorem dX13_applyScheduled_112 : decode cX13_applyScheduled 112 = .ok (.iload_n 1, 1) := by decide +kernel
theorem dX13_applyScheduled_113 : decode cX13_applyScheduled 113 = .ok (.iastore, 1) := by decide +kernel
theorem dX13_applyScheduled_114 : decode cX13_applyScheduled 114 = .ok (.return_, 1) := by decide +kernel
theorem dX13_readAll_0 : decode cX13_readAll 0 = .ok (.iconst 0, 1) := by decide +kernel
theorem dX13_readAll_1 : decode cX13_readAll 1 = .ok (.istore_n 1, 1) := by decide +kernel
theorem dX13_readAll_2 : decode cX13_readAll 2 = .ok (.iload_n 1, 1) := by decide +kernel
theorem dX13_readAll_3 : decode cX13_readAll 3 = .ok (.bipush 16, 2) := by decide +kernel
theorem dX13_readAll_5 : decode cX13_readAll 5 = .ok (.if_icmp .ge 20, 3) := by decide +kernel
theorem dX13_readAll_8 : decode cX13_readAll 8 = .ok (.aload_n 0, 1) := by decide +kernel
theorem dX13_readAll_9 : decode cX13_readAll 9 = .ok (.getfield 25, 3) := by decide +kernel
theorem dX13_readAll_12 : decode cX13_readAll 12 = .ok (.iload_n 1, 1) := by decide +kernel
theorem dX13_readAll_13 : decode cX13_readAll 13 = .ok (.aload_n 0, 1) := by decide +kernel
theorem dX13_readAll_14 : decode cX13_readAll 14 = .ok (.iload_n 1, 1) := by decide +kernel
theorem dX13_readAll_15 : decode cX13_readAll 15 = .ok (.invokevirtual 262, 3) := by decide +kernel
theorem dX13_readAll_18 : decode cX13_readAll 18 = .ok (.iastore, 1) := by decide +kernel
theorem dX13_readAll_19 : decode cX13_readAll 19 = .ok (.iinc 1 1, 3) := by decide +kernel
theorem dX13_readAll_22 : decode cX13_readAll 22 = .ok (.goto (-20), 3) := by decide +kernel
theorem dX13_readAll_25 : decode cX13_readAll 25 = .ok (.iconst 0, 1) := by decide +kernel
theorem dX13_readAll_26 : decode cX13_readAll 26 = .ok (.istore_n 1, 1) := by decide +kernel
theorem dX13_readAll_27 : decode cX13_readAll 27 = .ok (.iload_n 1, 1) := by decide +kernel
theorem dX13_readAll_28 : decode cX13_readAll 28 = .ok (.bipush 8, 2) := by decide +kernel
theorem dX13_readAll_30 : decode cX13_readAll 30 = .ok (.if_icmp .ge 24, 3) := by decide +kernel
theorem dX13_readAll_33 : decode cX13_readAll 33 = .ok (.aload_n 0, 1) := by decide +kernel
theorem dX13_readAll_34 : decode cX13_readAll 34 = .ok (.getfield 28, 3) := by decide +kernel
theorem dX13_readAll_37 : decode cX13_readAll 37 = .ok (.iload_n 1, 1) := by decide +kernel
theorem dX13_readAll_38 : decode cX13_readAll 38 = .ok (.aload_n 0, 1) := by decide +kernel
theorem dX13_readAll_39 : decode cX13_readAll 39 = .ok (.getfield 9, 3) := by decide +kernel
theorem dX13_readAll_42 : decode cX13_readAll 42 = .ok (.bipush 100, 2) := by decide +kernel
theorem dX13_readAll_44 : decode cX13_readAll 44 = .ok (.iload_n 1, 1) := by decide +kernel
theorem dX13_readAll_45 : decode cX13_readAll 45 = .ok (.iadd, 1) := by decide +kernel
theorem dX13_readAll_46 : decode cX13_readAll 46 = .ok (.iaload, 1) := by decide +kernel
theorem dX13_readAll_47 : decode cX13_readAll 47 = .ok (.iastore, 1) := by decide +kernel
theorem dX13_readAll_48 : decode cX13_readAll 48 = .ok (.iinc 1 1, 3) := by decide +kernel
theorem dX13_readAll_51 : decode cX13_readAll 51 = .ok (.goto (-24), 3) := by decide +kernel
theorem dX13_readAll_54 : decode cX13_readAll 54 = .ok (.aload_n 0, 1) := by decide +kernel
theorem dX13_readAll_55 : decode cX13_readAll 55 = .ok (.iconst 0, 1) := by decide +kernel
theorem dX13_readAll_56 : decode cX13_readAll 56 = .ok (.putfield 287, 3) := by decide +kernel
theorem dX13_readAll_59 : decode cX13_readAll 59 = .ok (.aload_n 0, 1) := by decide +kernel
theorem dX13_readAll_60 : decode cX13_readAll 60 = .ok (.iconst 0, 1) := by decide +kernel
theorem dX13_readAll_61 : decode cX13_readAll 61 = .ok (.putfield 290, 3) := by decide +kernel
theorem dX13_readAll_64 : decode cX13_readAll 64 = .ok (.return_, 1) := by decide +kernel
theorem dX13_countOn_0 : decode cX13_countOn 0 = .ok (.aload_n 0, 1) := by decide +kernel
theorem dX13_countOn_1 : decode cX13_countOn 1 = .ok (.getfield 31, 3) := by decide +kernel
theorem dX13_countOn_4 : decode cX13_countOn 4 = .ok (.iload_n 1, 1) := by decide +kernel
theorem dX13_countOn_5 : decode cX13_countOn 5 = .ok (.iconst 0, 1) := by decide +kernel
theorem dX13_countOn_6 : decode cX13_countOn 6 = .ok (.bastore, 1) := by decide +kernel
theorem dX13_countOn_7 : decode cX13_countOn 7 = .ok (.aload_n 0, 1) := by decide +kernel
theorem dX13_countOn_8 : decode cX13_countOn 8 = .ok (.getfield 35, 3) := by decide +kernel
theorem dX13_countOn_11 : decode cX13_countOn 11 = .ok (.iload_n 1, 1) := by decide +kernel
theorem dX13_countOn_12 : decode cX13_countOn 12 = .ok (.iconst (-1), 1) := by decide +kernel
