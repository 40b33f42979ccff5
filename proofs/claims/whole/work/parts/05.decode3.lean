theorem dX13_shiftOut_170 : decode cX13_shiftOut 170 = .ok (.aload_n 0, 1) := by decide +kernel
theorem dX13_shiftOut_171 : decode cX13_shiftOut 171 = .ok (.iload_n 1, 1) := by decide +kernel
theorem dX13_shiftOut_172 : decode cX13_shiftOut 172 = .ok (.iload_n 2, 1) := by decide +kernel
theorem dX13_shiftOut_173 : decode cX13_shiftOut 173 = .ok (.iload 6, 2) := by decide +kernel
theorem dX13_shiftOut_175 : decode cX13_shiftOut 175 = .ok (.iconst 5, 1) := by decide +kernel
theorem dX13_shiftOut_176 : decode cX13_shiftOut 176 = .ok (.invokevirtual 413, 3) := by decide +kernel
theorem dX13_shiftOut_179 : decode cX13_shiftOut 179 = .ok (.ireturn, 1) := by decide +kernel
set_option maxRecDepth 20000 in
theorem ggX13_write_X13_setting : GoodIn wsX13_write wsX13_setting := goodIn_r _ [9, 10, 24, 25, 26, 27, 28, 29, 30, 31, 32, 33, 34, 35, 36, 37, 38, 39, 40, 41, 42, 43, 44, 45, 46, 47, 48, 49, 50, 51, 52, 53, 54, 55, 56, 57, 58, 59, 60, 61, 62, 63, 64, 65, 66, 67, 68, 69, 70] (by decide +kernel) (by decide +kernel)
set_option maxRecDepth 20000 in
theorem gX13_write_X13_setting : GoodIn wsX13_write (wsV RX13 249 RX13 yX13_setting wsX13_setting) := goodIn_app (goodIn_of _ (by decide +kernel)) ggX13_write_X13_setting
set_option maxRecDepth 20000 in
theorem ggX13_write_X13_set : GoodIn wsX13_write wsX13_set := goodIn_r _ [14, 10, 24, 25, 26, 27, 28, 29, 30, 31, 32, 33, 34, 35, 36, 37, 38, 39, 40, 41, 42, 43, 44, 45, 46, 47, 48, 49, 50, 51, 52, 53, 54, 55, 56, 57, 58, 59, 60, 61, 62, 63, 64, 65, 66, 67, 68, 69, 70] (by decide +kernel) (by decide +kernel)
set_option maxRecDepth 20000 in
theorem gX13_write_X13_set : GoodIn wsX13_write (wsV RX13 282 RX13 yX13_set wsX13_set) := goodIn_app (goodIn_of _ (by decide +kernel)) ggX13_write_X13_set
set_option maxRecDepth 20000 in
theorem ggX13_write_X13_jumpToWord : GoodIn wsX13_write wsX13_jumpToWord := goodIn_r _ [18, 10, 19, 20, 21, 8, 22, 23, 24, 25, 26, 27, 28, 29, 30, 31, 32, 33, 34, 35, 36, 37, 38, 39, 40, 41, 42, 43, 44, 45, 46, 47, 48, 49, 50, 51, 52, 53, 54, 55, 56, 57, 58, 59, 60, 61, 62, 63, 64, 65, 66, 67, 68, 69, 70] (by decide +kernel) (by decide +kernel)
set_option maxRecDepth 20000 in
theorem gX13_write_X13_jumpToWord : GoodIn wsX13_write (wsV RX13 416 RX13 yX13_jumpToWord wsX13_jumpToWord) := goodIn_app (goodIn_of _ (by decide +kernel)) ggX13_write_X13_jumpToWord
theorem dX13_write_0 : decode cX13_write 0 = .ok (.iload_n 2, 1) := by decide +kernel
theorem dX13_write_1 : decode cX13_write 1 = .ok (.tableswitch 124 0 8 #[51, 96, 106, 124, 124, 124, 124, 51, 116], 51) := by decide +kernel
theorem dX13_write_52 : decode cX13_write 52 = .ok (.aload_n 0, 1) := by decide +kernel
theorem dX13_write_53 : decode cX13_write 53 = .ok (.getfield 35, 3) := by decide +kernel
theorem dX13_write_56 : decode cX13_write 56 = .ok (.iload_n 1, 1) := by decide +kernel
theorem dX13_write_57 : decode cX13_write 57 = .ok (.iload_n 2, 1) := by decide +kernel
theorem dX13_write_58 : decode cX13_write 58 = .ok (.iastore, 1) := by decide +kernel
theorem dX13_write_59 : decode cX13_write 59 = .ok (.aload_n 0, 1) := by decide +kernel
theorem dX13_write_60 : decode cX13_write 60 = .ok (.getfield 38, 3) := by decide +kernel
theorem dX13_write_63 : decode cX13_write 63 = .ok (.iload_n 1, 1) := by decide +kernel
theorem dX13_write_64 : decode cX13_write 64 = .ok (.aload_n 0, 1) := by decide +kernel
theorem dX13_write_65 : decode cX13_write 65 = .ok (.iload_n 1, 1) := by decide +kernel
theorem dX13_write_66 : decode cX13_write 66 = .ok (.iload 4, 2) := by decide +kernel
theorem dX13_write_68 : decode cX13_write 68 = .ok (.invokevirtual 249, 3) := by decide +kernel
theorem dX13_write_71 : decode cX13_write 71 = .ok (.iastore, 1) := by decide +kernel
theorem dX13_write_72 : decode cX13_write 72 = .ok (.aload_n 0, 1) := by decide +kernel
theorem dX13_write_73 : decode cX13_write 73 = .ok (.getfield 41, 3) := by decide +kernel
theorem dX13_write_76 : decode cX13_write 76 = .ok (.iload_n 1, 1) := by decide +kernel
theorem dX13_write_77 : decode cX13_write 77 = .ok (.aload_n 0, 1) := by decide +kernel
theorem dX13_write_78 : decode cX13_write 78 = .ok (.iload_n 1, 1) := by decide +kernel
theorem dX13_write_79 : decode cX13_write 79 = .ok (.iload 4, 2) := by decide +kernel
theorem dX13_write_81 : decode cX13_write 81 = .ok (.iconst 1, 1) := by decide +kernel
theorem dX13_write_82 : decode cX13_write 82 = .ok (.iadd, 1) := by decide +kernel
theorem dX13_write_83 : decode cX13_write 83 = .ok (.invokevirtual 249, 3) := by decide +kernel
theorem dX13_write_86 : decode cX13_write 86 = .ok (.iastore, 1) := by decide +kernel
theorem dX13_write_87 : decode cX13_write 87 = .ok (.aload_n 0, 1) := by decide +kernel
theorem dX13_write_88 : decode cX13_write 88 = .ok (.getfield 44, 3) := by decide +kernel
theorem dX13_write_91 : decode cX13_write 91 = .ok (.iload_n 1, 1) := by decide +kernel
theorem dX13_write_92 : decode cX13_write 92 = .ok (.iload_n 3, 1) := by decide +kernel
theorem dX13_write_93 : decode cX13_write 93 = .ok (.iastore, 1) := by decide +kernel
theorem dX13_write_94 : decode cX13_write 94 = .ok (.goto 31, 3) := by decide +kernel
theorem dX13_write_97 : decode cX13_write 97 = .ok (.aload_n 0, 1) := by decide +kernel
theorem dX13_write_98 : decode cX13_write 98 = .ok (.iload_n 1, 1) := by decide +kernel
theorem dX13_write_99 : decode cX13_write 99 = .ok (.iconst 2, 1) := by decide +kernel
theorem dX13_write_100 : decode cX13_write 100 = .ok (.iload_n 3, 1) := by decide +kernel
theorem dX13_write_101 : decode cX13_write 101 = .ok (.invokevirtual 282, 3) := by decide +kernel
theorem dX13_write_104 : decode cX13_write 104 = .ok (.goto 21, 3) := by decide +kernel
theorem dX13_write_107 : decode cX13_write 107 = .ok (.aload_n 0, 1) := by decide +kernel
theorem dX13_write_108 : decode cX13_write 108 = .ok (.iload_n 1, 1) := by decide +kernel
theorem dX13_write_109 : decode cX13_write 109 = .ok (.iconst 3, 1) := by decide +kernel
theorem dX13_write_110 : decode cX13_write 110 = .ok (.iload_n 3, 1) := by decide +kernel
theorem dX13_write_111 : decode cX13_write 111 = .ok (.invokevirtual 282, 3) := by decide +kernel
theorem dX13_write_114 : decode cX13_write 114 = .ok (.goto 11, 3) := by decide +kernel
theorem dX13_write_117 : decode cX13_write 117 = .ok (.aload_n 0, 1) := by decide +kernel
theorem dX13_write_118 : decode cX13_write 118 = .ok (.iload_n 3, 1) := by decide +kernel
theorem dX13_write_119 : decode cX13_write 119 = .ok (.invokevirtual 416, 3) := by decide +kernel
theorem dX13_write_122 : decode cX13_write 122 = .ok (.goto 3, 3) := by decide +kernel
theorem dX13_write_125 : decode cX13_write 125 = .ok (.iconst 0, 1) := by decide +kernel
theorem dX13_write_126 : decode cX13_write 126 = .ok (.ireturn, 1) := by decide +kernel
set_option maxRecDepth 20000 in
theorem ggX13_push_X13_of : GoodIn wsX13_push wsX13_of := goodIn_r _ [5, 6, 39, 40, 41, 42, 43, 44, 45, 46, 47, 48, 49, 50, 51, 52, 53, 54, 55, 56, 57, 58, 59, 60, 61, 62, 63, 64, 65, 66, 67, 68, 69, 70, 71, 72, 73, 74, 75, 76, 77, 78, 79, 80, 81, 82, 83, 84, 85] (by decide +kernel) (by decide +kernel)
set_option maxRecDepth 20000 in
theorem gX13_push_X13_of : GoodIn wsX13_push (wsV RX13 238 RX13 yX13_of wsX13_of) := goodIn_app (goodIn_of _ (by decide +kernel)) ggX13_push_X13_of
set_option maxRecDepth 20000 in
theorem ggX13_push_X13_setting : GoodIn wsX13_push wsX13_setting := goodIn_r _ [10, 6, 39, 40, 41, 42, 43, 44, 45, 46, 47, 48, 49, 50, 51, 52, 53, 54, 55, 56, 57, 58, 59, 60, 61, 62, 63, 64, 65, 66, 67, 68, 69, 70, 71, 72, 73, 74, 75, 76, 77, 78, 79, 80, 81, 82, 83, 84, 85] (by decide +kernel) (by decide +kernel)
set_option maxRecDepth 20000 in
theorem gX13_push_X13_setting : GoodIn wsX13_push (wsV RX13 249 RX13 yX13_setting wsX13_setting) := goodIn_app (goodIn_of _ (by decide +kernel)) ggX13_push_X13_setting
set_option maxRecDepth 20000 in
theorem ggX13_push_X13_isFull : GoodIn wsX13_push wsX13_isFull := goodIn_r _ [14, 1, 2, 3, 4, 5, 6, 7, 8, 9, 10, 39, 40, 41, 42, 43, 44, 45, 46, 47, 48, 49, 50, 51, 52, 53, 54, 55, 56, 57, 58, 59, 60, 61, 62, 63, 64, 65, 66, 67, 68, 69, 70, 71, 72, 73, 74, 75, 76, 77, 78, 79, 80, 81, 82, 83, 84, 85] (by decide +kernel) (by decide +kernel)
set_option maxRecDepth 20000 in
theorem gX13_push_X13_isFull : GoodIn wsX13_push (wsV RX13 392 RX13 yX13_isFull wsX13_isFull) := goodIn_app (goodIn_of _ (by decide +kernel)) ggX13_push_X13_isFull
set_option maxRecDepth 20000 in
theorem ggX13_push_X13_appendShifted : GoodIn wsX13_push wsX13_appendShifted := goodIn_r _ [18, 1, 2, 3, 4, 5, 6, 19, 20, 21, 22, 23, 24, 25, 26, 27, 28, 29, 30, 31, 32, 33, 34, 35, 36, 37, 38, 39, 40, 41, 42, 43, 44, 45, 46, 47, 48, 49, 50, 51, 52, 53, 54, 55, 56, 57, 58, 59, 60, 61, 62, 63, 64, 65, 66, 67, 68, 69, 70, 71, 72, 73, 74, 75, 76, 77, 78, 79, 80, 81, 82, 83, 84, 85] (by decide +kernel) (by decide +kernel)
set_option maxRecDepth 20000 in
theorem gX13_push_X13_appendShifted : GoodIn wsX13_push (wsV RX13 396 RX13 yX13_appendShifted wsX13_appendShifted) := goodIn_app (goodIn_of _ (by decide +kernel)) ggX13_push_X13_appendShifted
set_option maxRecDepth 20000 in
theorem ggX13_push_X13_emptyShifted : GoodIn wsX13_push wsX13_emptyShifted := goodIn_r _ [38, 23, 24, 25, 4, 26, 6, 39, 40, 41, 42, 43, 44, 45, 46, 47, 48, 49, 50, 51, 52, 53, 54, 55, 56, 57, 58, 59, 60, 61, 62, 63, 64, 65, 66, 67, 68, 69, 70, 71, 72, 73, 74, 75, 76, 77, 78, 79, 80, 81, 82, 83, 84, 85] (by decide +kernel) (by decide +kernel)
set_option maxRecDepth 20000 in
theorem gX13_push_X13_emptyShifted : GoodIn wsX13_push (wsV RX13 403 RX13 yX13_emptyShifted wsX13_emptyShifted) := goodIn_app (goodIn_of _ (by decide +kernel)) ggX13_push_X13_emptyShifted
set_option maxRecDepth 20000 in
theorem ggX13_push_X13_note : GoodIn wsX13_push wsX13_note := goodIn_r _ [34, 27, 28, 29, 4, 30, 6, 39, 40, 41, 42, 43, 44, 45, 46, 47, 48, 49, 50, 51, 52, 53, 54, 55, 56, 57, 58, 59, 60, 61, 62, 63, 64, 65, 66, 67, 68, 69, 70, 71, 72, 73, 74, 75, 76, 77, 78, 79, 80, 81, 82, 83, 84, 85] (by decide +kernel) (by decide +kernel)
set_option maxRecDepth 20000 in
theorem gX13_push_X13_note : GoodIn wsX13_push (wsV RX13 328 RX13 yX13_note wsX13_note) := goodIn_app (goodIn_of _ (by decide +kernel)) ggX13_push_X13_note
theorem dX13_push_0 : decode cX13_push 0 = .ok (.iload_n 2, 1) := by decide +kernel
theorem dX13_push_1 : decode cX13_push 1 = .ok (.ifCond .eq 22, 3) := by decide +kernel
theorem dX13_push_4 : decode cX13_push 4 = .ok (.aload_n 0, 1) := by decide +kernel
theorem dX13_push_5 : decode cX13_push 5 = .ok (.iload_n 1, 1) := by decide +kernel
theorem dX13_push_6 : decode cX13_push 6 = .ok (.bipush 6, 2) := by decide +kernel
theorem dX13_push_8 : decode cX13_push 8 = .ok (.invokevirtual 238, 3) := by decide +kernel
theorem dX13_push_11 : decode cX13_push 11 = .ok (.aload_n 0, 1) := by decide +kernel
theorem dX13_push_12 : decode cX13_push 12 = .ok (.iload_n 1, 1) := by decide +kernel
theorem dX13_push_13 : decode cX13_push 13 = .ok (.bipush 15, 2) := by decide +kernel
theorem dX13_push_15 : decode cX13_push 15 = .ok (.invokevirtual 249, 3) := by decide +kernel
theorem dX13_push_18 : decode cX13_push 18 = .ok (.if_icmp .ge 5, 3) := by decide +kernel
theorem dX13_push_21 : decode cX13_push 21 = .ok (.iconst 0, 1) := by decide +kernel
theorem dX13_push_22 : decode cX13_push 22 = .ok (.ireturn, 1) := by decide +kernel
theorem dX13_push_23 : decode cX13_push 23 = .ok (.aload_n 0, 1) := by decide +kernel
theorem dX13_push_24 : decode cX13_push 24 = .ok (.iload_n 1, 1) := by decide +kernel
theorem dX13_push_25 : decode cX13_push 25 = .ok (.iconst 1, 1) := by decide +kernel
theorem dX13_push_26 : decode cX13_push 26 = .ok (.invokevirtual 392, 3) := by decide +kernel
theorem dX13_push_29 : decode cX13_push 29 = .ok (.ifCond .ne 10, 3) := by decide +kernel
theorem dX13_push_32 : decode cX13_push 32 = .ok (.aload_n 0, 1) := by decide +kernel
theorem dX13_push_33 : decode cX13_push 33 = .ok (.iload_n 1, 1) := by decide +kernel
theorem dX13_push_34 : decode cX13_push 34 = .ok (.invokevirtual 396, 3) := by decide +kernel
theorem dX13_push_37 : decode cX13_push 37 = .ok (.iconst 0, 1) := by decide +kernel
theorem dX13_push_38 : decode cX13_push 38 = .ok (.ireturn, 1) := by decide +kernel
theorem dX13_push_39 : decode cX13_push 39 = .ok (.iload_n 3, 1) := by decide +kernel
theorem dX13_push_40 : decode cX13_push 40 = .ok (.ifCond .ne 5, 3) := by decide +kernel
theorem dX13_push_43 : decode cX13_push 43 = .ok (.iconst 3, 1) := by decide +kernel
theorem dX13_push_44 : decode cX13_push 44 = .ok (.ireturn, 1) := by decide +kernel
theorem dX13_push_45 : decode cX13_push 45 = .ok (.aload_n 0, 1) := by decide +kernel
theorem dX13_push_46 : decode cX13_push 46 = .ok (.iload_n 1, 1) := by decide +kernel
theorem dX13_push_47 : decode cX13_push 47 = .ok (.invokevirtual 403, 3) := by decide +kernel
theorem dX13_push_50 : decode cX13_push 50 = .ok (.aload_n 0, 1) := by decide +kernel
theorem dX13_push_51 : decode cX13_push 51 = .ok (.iload_n 1, 1) := by decide +kernel
theorem dX13_push_52 : decode cX13_push 52 = .ok (.iconst 5, 1) := by decide +kernel
theorem dX13_push_53 : decode cX13_push 53 = .ok (.invokevirtual 328, 3) := by decide +kernel
theorem dX13_push_56 : decode cX13_push 56 = .ok (.iconst 0, 1) := by decide +kernel
theorem dX13_push_57 : decode cX13_push 57 = .ok (.ireturn, 1) := by decide +kernel
set_option maxRecDepth 20000 in
theorem ggX13_pull_X13_of : GoodIn wsX13_pull wsX13_of := goodIn_r _ [5, 6, 31, 32, 33, 34, 35, 36, 37, 38, 39, 40, 41, 42, 43, 44, 45, 46, 47, 48, 49, 50, 51, 52, 53, 54, 55, 56, 57, 58, 59, 60, 61, 62, 63, 64, 65, 66, 67, 68, 69, 70, 71, 72, 73, 74, 75, 76, 77] (by decide +kernel) (by decide +kernel)
set_option maxRecDepth 20000 in
theorem gX13_pull_X13_of : GoodIn wsX13_pull (wsV RX13 238 RX13 yX13_of wsX13_of) := goodIn_app (goodIn_of _ (by decide +kernel)) ggX13_pull_X13_of
set_option maxRecDepth 20000 in
theorem ggX13_pull_X13_setting : GoodIn wsX13_pull wsX13_setting := goodIn_r _ [10, 6, 31, 32, 33, 34, 35, 36, 37, 38, 39, 40, 41, 42, 43, 44, 45, 46, 47, 48, 49, 50, 51, 52, 53, 54, 55, 56, 57, 58, 59, 60, 61, 62, 63, 64, 65, 66, 67, 68, 69, 70, 71, 72, 73, 74, 75, 76, 77] (by decide +kernel) (by decide +kernel)
set_option maxRecDepth 20000 in
theorem gX13_pull_X13_setting : GoodIn wsX13_pull (wsV RX13 249 RX13 yX13_setting wsX13_setting) := goodIn_app (goodIn_of _ (by decide +kernel)) ggX13_pull_X13_setting
set_option maxRecDepth 20000 in
theorem ggX13_pull_X13_refill : GoodIn wsX13_pull wsX13_refill := goodIn_r _ [14, 15, 16, 17, 4, 18, 1, 2, 3, 5, 6, 19, 20, 21, 22, 23, 24, 25, 26, 27, 28, 29, 30, 31, 32, 33, 34, 35, 36, 37, 38, 39, 40, 41, 42, 43, 44, 45, 46, 47, 48, 49, 50, 51, 52, 53, 54, 55, 56, 57, 58, 59, 60, 61, 62, 63, 64, 65, 66, 67, 68, 69, 70, 71, 72, 73, 74, 75, 76, 77] (by decide +kernel) (by decide +kernel)
set_option maxRecDepth 20000 in
theorem gX13_pull_X13_refill : GoodIn wsX13_pull (wsV RX13 410 RX13 yX13_refill wsX13_refill) := goodIn_app (goodIn_of _ (by decide +kernel)) ggX13_pull_X13_refill
set_option maxRecDepth 20000 in
theorem ggX13_pull_X13_set : GoodIn wsX13_pull wsX13_set := goodIn_r _ [22, 6, 31, 32, 33, 34, 35, 36, 37, 38, 39, 40, 41, 42, 43, 44, 45, 46, 47, 48, 49, 50, 51, 52, 53, 54, 55, 56, 57, 58, 59, 60, 61, 62, 63, 64, 65, 66, 67, 68, 69, 70, 71, 72, 73, 74, 75, 76, 77] (by decide +kernel) (by decide +kernel)
set_option maxRecDepth 20000 in
theorem gX13_pull_X13_set : GoodIn wsX13_pull (wsV RX13 282 RX13 yX13_set wsX13_set) := goodIn_app (goodIn_of _ (by decide +kernel)) ggX13_pull_X13_set
theorem dX13_pull_0 : decode cX13_pull 0 = .ok (.iload_n 2, 1) := by decide +kernel
theorem dX13_pull_1 : decode cX13_pull 1 = .ok (.ifCond .eq 22, 3) := by decide +kernel
theorem dX13_pull_4 : decode cX13_pull 4 = .ok (.aload_n 0, 1) := by decide +kernel
theorem dX13_pull_5 : decode cX13_pull 5 = .ok (.iload_n 1, 1) := by decide +kernel
theorem dX13_pull_6 : decode cX13_pull 6 = .ok (.bipush 7, 2) := by decide +kernel
theorem dX13_pull_8 : decode cX13_pull 8 = .ok (.invokevirtual 238, 3) := by decide +kernel
theorem dX13_pull_11 : decode cX13_pull 11 = .ok (.aload_n 0, 1) := by decide +kernel
theorem dX13_pull_12 : decode cX13_pull 12 = .ok (.iload_n 1, 1) := by decide +kernel
theorem dX13_pull_13 : decode cX13_pull 13 = .ok (.bipush 17, 2) := by decide +kernel
theorem dX13_pull_15 : decode cX13_pull 15 = .ok (.invokevirtual 249, 3) := by decide +kernel
theorem dX13_pull_18 : decode cX13_pull 18 = .ok (.if_icmp .ge 5, 3) := by decide +kernel
theorem dX13_pull_21 : decode cX13_pull 21 = .ok (.iconst 0, 1) := by decide +kernel
theorem dX13_pull_22 : decode cX13_pull 22 = .ok (.ireturn, 1) := by decide +kernel
theorem dX13_pull_23 : decode cX13_pull 23 = .ok (.aload_n 0, 1) := by decide +kernel
theorem dX13_pull_24 : decode cX13_pull 24 = .ok (.iload_n 1, 1) := by decide +kernel
theorem dX13_pull_25 : decode cX13_pull 25 = .ok (.bipush 11, 2) := by decide +kernel
theorem dX13_pull_27 : decode cX13_pull 27 = .ok (.invokevirtual 238, 3) := by decide +kernel
theorem dX13_pull_30 : decode cX13_pull 30 = .ok (.ifCond .le 10, 3) := by decide +kernel
theorem dX13_pull_33 : decode cX13_pull 33 = .ok (.aload_n 0, 1) := by decide +kernel
theorem dX13_pull_34 : decode cX13_pull 34 = .ok (.iload_n 1, 1) := by decide +kernel
theorem dX13_pull_35 : decode cX13_pull 35 = .ok (.invokevirtual 410, 3) := by decide +kernel
theorem dX13_pull_38 : decode cX13_pull 38 = .ok (.iconst 0, 1) := by decide +kernel
theorem dX13_pull_39 : decode cX13_pull 39 = .ok (.ireturn, 1) := by decide +kernel
theorem dX13_pull_40 : decode cX13_pull 40 = .ok (.iload_n 3, 1) := by decide +kernel
theorem dX13_pull_41 : decode cX13_pull 41 = .ok (.ifCond .ne 5, 3) := by decide +kernel
theorem dX13_pull_44 : decode cX13_pull 44 = .ok (.iconst 2, 1) := by decide +kernel
theorem dX13_pull_45 : decode cX13_pull 45 = .ok (.ireturn, 1) := by decide +kernel
theorem dX13_pull_46 : decode cX13_pull 46 = .ok (.aload_n 0, 1) := by decide +kernel
theorem dX13_pull_47 : decode cX13_pull 47 = .ok (.iload_n 1, 1) := by decide +kernel
theorem dX13_pull_48 : decode cX13_pull 48 = .ok (.iconst 5, 1) := by decide +kernel
theorem dX13_pull_49 : decode cX13_pull 49 = .ok (.aload_n 0, 1) := by decide +kernel
theorem dX13_pull_50 : decode cX13_pull 50 = .ok (.iload_n 1, 1) := by decide +kernel
theorem dX13_pull_51 : decode cX13_pull 51 = .ok (.iconst 2, 1) := by decide +kernel
theorem dX13_pull_52 : decode cX13_pull 52 = .ok (.invokevirtual 238, 3) := by decide +kernel
theorem dX13_pull_55 : decode cX13_pull 55 = .ok (.invokevirtual 282, 3) := by decide +kernel
theorem dX13_pull_58 : decode cX13_pull 58 = .ok (.aload_n 0, 1) := by decide +kernel
theorem dX13_pull_59 : decode cX13_pull 59 = .ok (.iload_n 1, 1) := by decide +kernel
theorem dX13_pull_60 : decode cX13_pull 60 = .ok (.bipush 7, 2) := by decide +kernel
theorem dX13_pull_62 : decode cX13_pull 62 = .ok (.iconst 0, 1) := by decide +kernel
theorem dX13_pull_63 : decode cX13_pull 63 = .ok (.invokevirtual 282, 3) := by decide +kernel
theorem dX13_pull_66 : decode cX13_pull 66 = .ok (.iconst 0, 1) := by decide +kernel
theorem dX13_pull_67 : decode cX13_pull 67 = .ok (.ireturn, 1) := by decide +kernel
theorem dX13_reversed_0 : decode cX13_reversed 0 = .ok (.iconst 0, 1) := by decide +kernel
theorem dX13_reversed_1 : decode cX13_reversed 1 = .ok (.istore_n 1, 1) := by decide +kernel
theorem dX13_reversed_2 : decode cX13_reversed 2 = .ok (.iconst 0, 1) := by decide +kernel
theorem dX13_reversed_3 : decode cX13_reversed 3 = .ok (.istore_n 2, 1) := by decide +kernel
theorem dX13_reversed_4 : decode cX13_reversed 4 = .ok (.iload_n 2, 1) := by decide +kernel
theorem dX13_reversed_5 : decode cX13_reversed 5 = .ok (.bipush 32, 2) := by decide +kernel
theorem dX13_reversed_7 : decode cX13_reversed 7 = .ok (.if_icmp .ge 22, 3) := by decide +kernel
theorem dX13_reversed_10 : decode cX13_reversed 10 = .ok (.iload_n 1, 1) := by decide +kernel
theorem dX13_reversed_11 : decode cX13_reversed 11 = .ok (.iload_n 0, 1) := by decide +kernel
theorem dX13_reversed_12 : decode cX13_reversed 12 = .ok (.iload_n 2, 1) := by decide +kernel
theorem dX13_reversed_13 : decode cX13_reversed 13 = .ok (.iushr, 1) := by decide +kernel
theorem dX13_reversed_14 : decode cX13_reversed 14 = .ok (.iconst 1, 1) := by decide +kernel
theorem dX13_reversed_15 : decode cX13_reversed 15 = .ok (.iand, 1) := by decide +kernel
theorem dX13_reversed_16 : decode cX13_reversed 16 = .ok (.bipush 31, 2) := by decide +kernel
theorem dX13_reversed_18 : decode cX13_reversed 18 = .ok (.iload_n 2, 1) := by decide +kernel
theorem dX13_reversed_19 : decode cX13_reversed 19 = .ok (.isub, 1) := by decide +kernel
theorem dX13_reversed_20 : decode cX13_reversed 20 = .ok (.ishl, 1) := by decide +kernel
theorem dX13_reversed_21 : decode cX13_reversed 21 = .ok (.ior, 1) := by decide +kernel
theorem dX13_reversed_22 : decode cX13_reversed 22 = .ok (.istore_n 1, 1) := by decide +kernel
theorem dX13_reversed_23 : decode cX13_reversed 23 = .ok (.iinc 2 1, 3) := by decide +kernel
theorem dX13_reversed_26 : decode cX13_reversed 26 = .ok (.goto (-22), 3) := by decide +kernel
theorem dX13_reversed_29 : decode cX13_reversed 29 = .ok (.iload_n 1, 1) := by decide +kernel
theorem dX13_reversed_30 : decode cX13_reversed 30 = .ok (.ireturn, 1) := by decide +kernel
set_option maxRecDepth 20000 in
theorem ggX13_move_X13_reversed : GoodIn wsX13_move wsX13_reversed := goodIn_r _ [4] (by decide +kernel) (by decide +kernel)
set_option maxRecDepth 20000 in
theorem gX13_move_X13_reversed : GoodIn wsX13_move (va_wsS RX13 419 yX13_reversed wsX13_reversed) := goodIn_app (goodIn_of _ (by decide +kernel)) ggX13_move_X13_reversed
set_option maxRecDepth 20000 in
theorem ggX13_move_X13_set : GoodIn wsX13_move wsX13_set := goodIn_r _ [8, 9, 31, 32, 33, 34, 35, 36, 37, 38, 39, 40, 41, 42, 43, 44, 45, 46, 47, 48, 49, 50, 51, 52, 53, 54, 55, 56, 57, 58, 59, 60, 61, 62, 63, 64, 65, 66, 67, 68, 69, 70, 71, 72, 73, 74, 75, 76, 77] (by decide +kernel) (by decide +kernel)
set_option maxRecDepth 20000 in
theorem gX13_move_X13_set : GoodIn wsX13_move (wsV RX13 282 RX13 yX13_set wsX13_set) := goodIn_app (goodIn_of _ (by decide +kernel)) ggX13_move_X13_set
set_option maxRecDepth 20000 in
theorem ggX13_move_X13_write : GoodIn wsX13_move wsX13_write := goodIn_r _ [13, 14, 15, 16, 17, 18, 19, 20, 3, 21, 9, 5, 6, 7, 8, 22, 23, 24, 25, 26, 27, 28, 29, 30, 31, 32, 33, 34, 35, 36, 37, 38, 39, 40, 41, 42, 43, 44, 45, 46, 47, 48, 49, 50, 51, 52, 53, 54, 55, 56, 57, 58, 59, 60, 61, 62, 63, 64, 65, 66, 67, 68, 69, 70, 71, 72, 73, 74, 75, 76, 77] (by decide +kernel) (by decide +kernel)
set_option maxRecDepth 20000 in
theorem gX13_move_X13_write : GoodIn wsX13_move (wsV RX13 413 RX13 yX13_write wsX13_write) := goodIn_app (goodIn_of _ (by decide +kernel)) ggX13_move_X13_write
theorem dX13_move_0 : decode cX13_move 0 = .ok (.iload_n 3, 1) := by decide +kernel
theorem dX13_move_1 : decode cX13_move 1 = .ok (.iconst 1, 1) := by decide +kernel
theorem dX13_move_2 : decode cX13_move 2 = .ok (.if_icmp .ne 10, 3) := by decide +kernel
theorem dX13_move_5 : decode cX13_move 5 = .ok (.iload 4, 2) := by decide +kernel
theorem dX13_move_7 : decode cX13_move 7 = .ok (.iconst (-1), 1) := by decide +kernel
theorem dX13_move_8 : decode cX13_move 8 = .ok (.ixor, 1) := by decide +kernel
theorem dX13_move_9 : decode cX13_move 9 = .ok (.goto 18, 3) := by decide +kernel
theorem dX13_move_12 : decode cX13_move 12 = .ok (.iload_n 3, 1) := by decide +kernel
theorem dX13_move_13 : decode cX13_move 13 = .ok (.iconst 2, 1) := by decide +kernel
theorem dX13_move_14 : decode cX13_move 14 = .ok (.if_icmp .ne 11, 3) := by decide +kernel
theorem dX13_move_17 : decode cX13_move 17 = .ok (.iload 4, 2) := by decide +kernel
theorem dX13_move_19 : decode cX13_move 19 = .ok (.invokestatic 419, 3) := by decide +kernel
theorem dX13_move_22 : decode cX13_move 22 = .ok (.goto 5, 3) := by decide +kernel
theorem dX13_move_25 : decode cX13_move 25 = .ok (.iload 4, 2) := by decide +kernel
theorem dX13_move_27 : decode cX13_move 27 = .ok (.istore 5, 2) := by decide +kernel
theorem dX13_move_29 : decode cX13_move 29 = .ok (.iload_n 2, 1) := by decide +kernel
theorem dX13_move_30 : decode cX13_move 30 = .ok (.iconst 4, 1) := by decide +kernel
theorem dX13_move_31 : decode cX13_move 31 = .ok (.if_icmp .ne 21, 3) := by decide +kernel
theorem dX13_move_34 : decode cX13_move 34 = .ok (.aload_n 0, 1) := by decide +kernel
theorem dX13_move_35 : decode cX13_move 35 = .ok (.iload_n 1, 1) := by decide +kernel
theorem dX13_move_36 : decode cX13_move 36 = .ok (.iconst 4, 1) := by decide +kernel
theorem dX13_move_37 : decode cX13_move 37 = .ok (.iload 5, 2) := by decide +kernel
theorem dX13_move_39 : decode cX13_move 39 = .ok (.invokevirtual 282, 3) := by decide +kernel
theorem dX13_move_42 : decode cX13_move 42 = .ok (.aload_n 0, 1) := by decide +kernel
theorem dX13_move_43 : decode cX13_move 43 = .ok (.iload_n 1, 1) := by decide +kernel
theorem dX13_move_44 : decode cX13_move 44 = .ok (.bipush 6, 2) := by decide +kernel
theorem dX13_move_46 : decode cX13_move 46 = .ok (.iconst 0, 1) := by decide +kernel
theorem dX13_move_47 : decode cX13_move 47 = .ok (.invokevirtual 282, 3) := by decide +kernel
theorem dX13_move_50 : decode cX13_move 50 = .ok (.iconst 0, 1) := by decide +kernel
theorem dX13_move_51 : decode cX13_move 51 = .ok (.ireturn, 1) := by decide +kernel
theorem dX13_move_52 : decode cX13_move 52 = .ok (.iload_n 2, 1) := by decide +kernel
theorem dX13_move_53 : decode cX13_move 53 = .ok (.iconst 5, 1) := by decide +kernel
theorem dX13_move_54 : decode cX13_move 54 = .ok (.if_icmp .ne 21, 3) := by decide +kernel
theorem dX13_move_57 : decode cX13_move 57 = .ok (.aload_n 0, 1) := by decide +kernel
theorem dX13_move_58 : decode cX13_move 58 = .ok (.iload_n 1, 1) := by decide +kernel
theorem dX13_move_59 : decode cX13_move 59 = .ok (.iconst 5, 1) := by decide +kernel
theorem dX13_move_60 : decode cX13_move 60 = .ok (.iload 5, 2) := by decide +kernel
theorem dX13_move_62 : decode cX13_move 62 = .ok (.invokevirtual 282, 3) := by decide +kernel
theorem dX13_move_65 : decode cX13_move 65 = .ok (.aload_n 0, 1) := by decide +kernel
theorem dX13_move_66 : decode cX13_move 66 = .ok (.iload_n 1, 1) := by decide +kernel
theorem dX13_move_67 : decode cX13_move 67 = .ok (.bipush 7, 2) := by decide +kernel
theorem dX13_move_69 : decode cX13_move 69 = .ok (.iconst 0, 1) := by decide +kernel
theorem dX13_move_70 : decode cX13_move 70 = .ok (.invokevirtual 282, 3) := by decide +kernel
theorem dX13_move_73 : decode cX13_move 73 = .ok (.iconst 0, 1) := by decide +kernel
theorem dX13_move_74 : decode cX13_move 74 = .ok (.ireturn, 1) := by decide +kernel
theorem dX13_move_75 : decode cX13_move 75 = .ok (.aload_n 0, 1) := by decide +kernel
theorem dX13_move_76 : decode cX13_move 76 = .ok (.iload_n 1, 1) := by decide +kernel
theorem dX13_move_77 : decode cX13_move 77 = .ok (.iload_n 2, 1) := by decide +kernel
theorem dX13_move_78 : decode cX13_move 78 = .ok (.iload 5, 2) := by decide +kernel
theorem dX13_move_80 : decode cX13_move 80 = .ok (.iconst 5, 1) := by decide +kernel
theorem dX13_move_81 : decode cX13_move 81 = .ok (.invokevirtual 413, 3) := by decide +kernel
theorem dX13_move_84 : decode cX13_move 84 = .ok (.ireturn, 1) := by decide +kernel
set_option maxRecDepth 20000 in
theorem ggX13_assign_X13_write : GoodIn wsX13_assign wsX13_write := goodIn_r _ [5, 6, 7, 8, 9, 10, 11, 12, 4, 13, 14, 15, 16, 17, 18, 19, 20, 21, 22, 23, 24, 25, 26, 27, 28, 29, 30, 31, 32, 33, 34, 35, 36, 37, 38, 39, 40, 41, 42, 43, 44, 45, 46, 47, 48, 49, 50, 51, 52, 53, 54, 55, 56, 57, 58, 59, 60, 61, 62, 63, 64, 65, 66, 67, 68, 69, 70, 71, 72, 73, 74] (by decide +kernel) (by decide +kernel)
set_option maxRecDepth 20000 in
theorem gX13_assign_X13_write : GoodIn wsX13_assign (wsV RX13 413 RX13 yX13_write wsX13_write) := goodIn_app (goodIn_of _ (by decide +kernel)) ggX13_assign_X13_write
theorem dX13_assign_0 : decode cX13_assign 0 = .ok (.aload_n 0, 1) := by decide +kernel
theorem dX13_assign_1 : decode cX13_assign 1 = .ok (.iload_n 1, 1) := by decide +kernel
theorem dX13_assign_2 : decode cX13_assign 2 = .ok (.iload_n 2, 1) := by decide +kernel
theorem dX13_assign_3 : decode cX13_assign 3 = .ok (.iload_n 3, 1) := by decide +kernel
theorem dX13_assign_4 : decode cX13_assign 4 = .ok (.bipush 7, 2) := by decide +kernel
theorem dX13_assign_6 : decode cX13_assign 6 = .ok (.invokevirtual 413, 3) := by decide +kernel
theorem dX13_assign_9 : decode cX13_assign 9 = .ok (.ireturn, 1) := by decide +kernel
set_option maxRecDepth 20000 in
theorem ggX13_access_X13_codeOf : GoodIn wsX13_access wsX13_codeOf := goodIn_r _ [6, 7, 8, 9, 5, 10, 1, 11, 12, 13, 14, 32, 33, 34, 35, 36, 37, 38, 39, 40, 41, 42, 43, 44, 45, 46, 47, 48, 49, 50, 51, 52, 53, 54, 55, 56, 57, 58, 59, 60, 61, 62, 63, 64, 65, 66, 67, 68, 69, 70, 71, 72, 73, 74, 75, 76, 77, 78] (by decide +kernel) (by decide +kernel)
set_option maxRecDepth 20000 in
theorem gX13_access_X13_codeOf : GoodIn wsX13_access (wsV RX13 293 RX13 yX13_codeOf wsX13_codeOf) := goodIn_app (goodIn_of _ (by decide +kernel)) ggX13_access_X13_codeOf
set_option maxRecDepth 20000 in
theorem ggX13_access_X13_of : GoodIn wsX13_access wsX13_of := goodIn_r _ [10, 1, 32, 33, 34, 35, 36, 37, 38, 39, 40, 41, 42, 43, 44, 45, 46, 47, 48, 49, 50, 51, 52, 53, 54, 55, 56, 57, 58, 59, 60, 61, 62, 63, 64, 65, 66, 67, 68, 69, 70, 71, 72, 73, 74, 75, 76, 77, 78] (by decide +kernel) (by decide +kernel)
set_option maxRecDepth 20000 in
theorem gX13_access_X13_of : GoodIn wsX13_access (wsV RX13 238 RX13 yX13_of wsX13_of) := goodIn_app (goodIn_of _ (by decide +kernel)) ggX13_access_X13_of
set_option maxRecDepth 20000 in
theorem ggX13_access_X13_source : GoodIn wsX13_access wsX13_source := goodIn_r _ [18, 19, 20, 21, 5, 22, 23, 24, 25, 26, 27, 1, 7, 8, 9, 10, 32, 33, 34, 35, 36, 37, 38, 39, 40, 41, 42, 43, 44, 45, 46, 47, 48, 49, 50, 51, 52, 53, 54, 55, 56, 57, 58, 59, 60, 61, 62, 63, 64, 65, 66, 67, 68, 69, 70, 71, 72, 73, 74, 75, 76, 77, 78] (by decide +kernel) (by decide +kernel)
set_option maxRecDepth 20000 in
theorem gX13_access_X13_source : GoodIn wsX13_access (wsV RX13 347 RX13 yX13_source wsX13_source) := goodIn_app (goodIn_of _ (by decide +kernel)) ggX13_access_X13_source
set_option maxRecDepth 20000 in
theorem ggX13_access_X13_set : GoodIn wsX13_access wsX13_set := goodIn_r _ [31, 1, 32, 33, 34, 35, 36, 37, 38, 39, 40, 41, 42, 43, 44, 45, 46, 47, 48, 49, 50, 51, 52, 53, 54, 55, 56, 57, 58, 59, 60, 61, 62, 63, 64, 65, 66, 67, 68, 69, 70, 71, 72, 73, 74, 75, 76, 77, 78] (by decide +kernel) (by decide +kernel)
set_option maxRecDepth 20000 in
theorem gX13_access_X13_set : GoodIn wsX13_access (wsV RX13 282 RX13 yX13_set wsX13_set) := goodIn_app (goodIn_of _ (by decide +kernel)) ggX13_access_X13_set
theorem dX13_access_0 : decode cX13_access 0 = .ok (.aload_n 0, 1) := by decide +kernel
theorem dX13_access_1 : decode cX13_access 1 = .ok (.iload_n 1, 1) := by decide +kernel
theorem dX13_access_2 : decode cX13_access 2 = .ok (.iconst 2, 1) := by decide +kernel
theorem dX13_access_3 : decode cX13_access 3 = .ok (.invokevirtual 293, 3) := by decide +kernel
theorem dX13_access_6 : decode cX13_access 6 = .ok (.istore_n 3, 1) := by decide +kernel
theorem dX13_access_7 : decode cX13_access 7 = .ok (.bipush 108, 2) := by decide +kernel
theorem dX13_access_9 : decode cX13_access 9 = .ok (.iload_n 3, 1) := by decide +kernel
theorem dX13_access_10 : decode cX13_access 10 = .ok (.bipush 16, 2) := by decide +kernel
theorem dX13_access_12 : decode cX13_access 12 = .ok (.if_icmp .ge 7, 3) := by decide +kernel
theorem dX13_access_15 : decode cX13_access 15 = .ok (.iload_n 3, 1) := by decide +kernel
theorem dX13_access_16 : decode cX13_access 16 = .ok (.goto 22, 3) := by decide +kernel
theorem dX13_access_19 : decode cX13_access 19 = .ok (.aload_n 0, 1) := by decide +kernel
theorem dX13_access_20 : decode cX13_access 20 = .ok (.iload_n 1, 1) := by decide +kernel
theorem dX13_access_21 : decode cX13_access 21 = .ok (.iload_n 3, 1) := by decide +kernel
theorem dX13_access_22 : decode cX13_access 22 = .ok (.bipush 16, 2) := by decide +kernel
theorem dX13_access_24 : decode cX13_access 24 = .ok (.if_icmp .ne 7, 3) := by decide +kernel
theorem dX13_access_27 : decode cX13_access 27 = .ok (.iconst 2, 1) := by decide +kernel
theorem dX13_access_28 : decode cX13_access 28 = .ok (.goto 4, 3) := by decide +kernel
theorem dX13_access_31 : decode cX13_access 31 = .ok (.iconst 3, 1) := by decide +kernel
theorem dX13_access_32 : decode cX13_access 32 = .ok (.invokevirtual 238, 3) := by decide +kernel
theorem dX13_access_35 : decode cX13_access 35 = .ok (.bipush 15, 2) := by decide +kernel
theorem dX13_access_37 : decode cX13_access 37 = .ok (.iand, 1) := by decide +kernel
theorem dX13_access_38 : decode cX13_access 38 = .ok (.iadd, 1) := by decide +kernel
theorem dX13_access_39 : decode cX13_access 39 = .ok (.istore 4, 2) := by decide +kernel
theorem dX13_access_41 : decode cX13_access 41 = .ok (.aload_n 0, 1) := by decide +kernel
theorem dX13_access_42 : decode cX13_access 42 = .ok (.iload_n 1, 1) := by decide +kernel
theorem dX13_access_43 : decode cX13_access 43 = .ok (.iconst 0, 1) := by decide +kernel
theorem dX13_access_44 : decode cX13_access 44 = .ok (.invokevirtual 293, 3) := by decide +kernel
theorem dX13_access_47 : decode cX13_access 47 = .ok (.bipush 12, 2) := by decide +kernel
theorem dX13_access_49 : decode cX13_access 49 = .ok (.if_icmp .ne 19, 3) := by decide +kernel
theorem dX13_access_52 : decode cX13_access 52 = .ok (.aload_n 0, 1) := by decide +kernel
theorem dX13_access_53 : decode cX13_access 53 = .ok (.getfield 9, 3) := by decide +kernel
theorem dX13_access_56 : decode cX13_access 56 = .ok (.iload 4, 2) := by decide +kernel
theorem dX13_access_58 : decode cX13_access 58 = .ok (.aload_n 0, 1) := by decide +kernel
theorem dX13_access_59 : decode cX13_access 59 = .ok (.iload_n 1, 1) := by decide +kernel
theorem dX13_access_60 : decode cX13_access 60 = .ok (.iload_n 2, 1) := by decide +kernel
theorem dX13_access_61 : decode cX13_access 61 = .ok (.invokevirtual 347, 3) := by decide +kernel
theorem dX13_access_64 : decode cX13_access 64 = .ok (.iastore, 1) := by decide +kernel
theorem dX13_access_65 : decode cX13_access 65 = .ok (.goto 54, 3) := by decide +kernel
theorem dX13_access_68 : decode cX13_access 68 = .ok (.iload_n 2, 1) := by decide +kernel
theorem dX13_access_69 : decode cX13_access 69 = .ok (.iconst 5, 1) := by decide +kernel
theorem dX13_access_70 : decode cX13_access 70 = .ok (.if_icmp .ne 27, 3) := by decide +kernel
theorem dX13_access_73 : decode cX13_access 73 = .ok (.aload_n 0, 1) := by decide +kernel
theorem dX13_access_74 : decode cX13_access 74 = .ok (.iload_n 1, 1) := by decide +kernel
theorem dX13_access_75 : decode cX13_access 75 = .ok (.iconst 5, 1) := by decide +kernel
theorem dX13_access_76 : decode cX13_access 76 = .ok (.aload_n 0, 1) := by decide +kernel
theorem dX13_access_77 : decode cX13_access 77 = .ok (.getfield 9, 3) := by decide +kernel
theorem dX13_access_80 : decode cX13_access 80 = .ok (.iload 4, 2) := by decide +kernel
theorem dX13_access_82 : decode cX13_access 82 = .ok (.iaload, 1) := by decide +kernel
theorem dX13_access_83 : decode cX13_access 83 = .ok (.invokevirtual 282, 3) := by decide +kernel
theorem dX13_access_86 : decode cX13_access 86 = .ok (.aload_n 0, 1) := by decide +kernel
theorem dX13_access_87 : decode cX13_access 87 = .ok (.iload_n 1, 1) := by decide +kernel
theorem dX13_access_88 : decode cX13_access 88 = .ok (.bipush 7, 2) := by decide +kernel
theorem dX13_access_90 : decode cX13_access 90 = .ok (.iconst 0, 1) := by decide +kernel
theorem dX13_access_91 : decode cX13_access 91 = .ok (.invokevirtual 282, 3) := by decide +kernel
theorem dX13_access_94 : decode cX13_access 94 = .ok (.goto 25, 3) := by decide +kernel
theorem dX13_access_97 : decode cX13_access 97 = .ok (.aload_n 0, 1) := by decide +kernel
theorem dX13_access_98 : decode cX13_access 98 = .ok (.iload_n 1, 1) := by decide +kernel
theorem dX13_access_99 : decode cX13_access 99 = .ok (.iload_n 2, 1) := by decide +kernel
theorem dX13_access_100 : decode cX13_access 100 = .ok (.iconst 1, 1) := by decide +kernel
theorem dX13_access_101 : decode cX13_access 101 = .ok (.if_icmp .ne 7, 3) := by decide +kernel
theorem dX13_access_104 : decode cX13_access 104 = .ok (.iconst 2, 1) := by decide +kernel
theorem dX13_access_105 : decode cX13_access 105 = .ok (.goto 4, 3) := by decide +kernel
theorem dX13_access_108 : decode cX13_access 108 = .ok (.iconst 3, 1) := by decide +kernel
theorem dX13_access_109 : decode cX13_access 109 = .ok (.aload_n 0, 1) := by decide +kernel
theorem dX13_access_110 : decode cX13_access 110 = .ok (.getfield 9, 3) := by decide +kernel
theorem dX13_access_113 : decode cX13_access 113 = .ok (.iload 4, 2) := by decide +kernel
theorem dX13_access_115 : decode cX13_access 115 = .ok (.iaload, 1) := by decide +kernel
theorem dX13_access_116 : decode cX13_access 116 = .ok (.invokevirtual 282, 3) := by decide +kernel
theorem dX13_access_119 : decode cX13_access 119 = .ok (.iconst 0, 1) := by decide +kernel
theorem dX13_access_120 : decode cX13_access 120 = .ok (.ireturn, 1) := by decide +kernel
set_option maxRecDepth 20000 in
theorem ggX13_count_X13_exists : GoodIn wsX13_count wsX13_exists := goodIn_r _ [6, 7, 8, 5, 9, 10, 11, 12, 13, 14, 23, 24, 25, 26, 27, 28, 29, 30, 31, 32, 33, 34, 35, 36, 37, 38, 39, 40, 41, 42, 43, 44, 45, 46, 47, 48, 49, 50, 51, 52, 53, 54, 55, 56, 57, 58, 59, 60, 61, 62, 63, 64, 65, 66, 67, 68, 69] (by decide +kernel) (by decide +kernel)
set_option maxRecDepth 20000 in
theorem gX13_count_X13_exists : GoodIn wsX13_count (wsV RX13 268 RX13 yX13_exists wsX13_exists) := goodIn_app (goodIn_of _ (by decide +kernel)) ggX13_count_X13_exists
set_option maxRecDepth 20000 in
theorem ggX13_count_X13_inRange : GoodIn wsX13_count wsX13_inRange := goodIn_r _ [9] (by decide +kernel) (by decide +kernel)
set_option maxRecDepth 20000 in
theorem gX13_count_X13_inRange : GoodIn wsX13_count (va_wsS RX13 245 yX13_inRange wsX13_inRange) := goodIn_app (goodIn_of _ (by decide +kernel)) ggX13_count_X13_inRange
set_option maxRecDepth 20000 in
theorem ggX13_count_X13_raise : GoodIn wsX13_count wsX13_raise := goodIn_r _ [18, 1, 23, 24, 25, 26, 27, 28, 29, 30, 31, 32, 33, 34, 35, 36, 37, 38, 39, 40, 41, 42, 43, 44, 45, 46, 47, 48, 49, 50, 51, 52, 53, 54, 55, 56, 57, 58, 59, 60, 61, 62, 63, 64, 65, 66, 67, 68, 69] (by decide +kernel) (by decide +kernel)
set_option maxRecDepth 20000 in
theorem gX13_count_X13_raise : GoodIn wsX13_count (wsV RX13 259 RX13 yX13_raise wsX13_raise) := goodIn_app (goodIn_of _ (by decide +kernel)) ggX13_count_X13_raise
set_option maxRecDepth 20000 in
theorem ggX13_count_X13_of : GoodIn wsX13_count wsX13_of := goodIn_r _ [22, 14, 23, 24, 25, 26, 27, 28, 29, 30, 31, 32, 33, 34, 35, 36, 37, 38, 39, 40, 41, 42, 43, 44, 45, 46, 47, 48, 49, 50, 51, 52, 53, 54, 55, 56, 57, 58, 59, 60, 61, 62, 63, 64, 65, 66, 67, 68, 69] (by decide +kernel) (by decide +kernel)
set_option maxRecDepth 20000 in
theorem gX13_count_X13_of : GoodIn wsX13_count (wsV RX13 238 RX13 yX13_of wsX13_of) := goodIn_app (goodIn_of _ (by decide +kernel)) ggX13_count_X13_of
theorem dX13_count_0 : decode cX13_count 0 = .ok (.aload_n 0, 1) := by decide +kernel
theorem dX13_count_1 : decode cX13_count 1 = .ok (.iconst 0, 1) := by decide +kernel
theorem dX13_count_2 : decode cX13_count 2 = .ok (.putfield 231, 3) := by decide +kernel
theorem dX13_count_5 : decode cX13_count 5 = .ok (.aload_n 0, 1) := by decide +kernel
theorem dX13_count_6 : decode cX13_count 6 = .ok (.iload_n 1, 1) := by decide +kernel
theorem dX13_count_7 : decode cX13_count 7 = .ok (.invokevirtual 268, 3) := by decide +kernel
theorem dX13_count_10 : decode cX13_count 10 = .ok (.ifCond .eq 12, 3) := by decide +kernel
theorem dX13_count_13 : decode cX13_count 13 = .ok (.iload_n 2, 1) := by decide +kernel
theorem dX13_count_14 : decode cX13_count 14 = .ok (.iconst 0, 1) := by decide +kernel
theorem dX13_count_15 : decode cX13_count 15 = .ok (.iconst 5, 1) := by decide +kernel
theorem dX13_count_16 : decode cX13_count 16 = .ok (.invokestatic 245, 3) := by decide +kernel
theorem dX13_count_19 : decode cX13_count 19 = .ok (.ifCond .ne 9, 3) := by decide +kernel
theorem dX13_count_22 : decode cX13_count 22 = .ok (.aload_n 0, 1) := by decide +kernel
theorem dX13_count_23 : decode cX13_count 23 = .ok (.iconst 1, 1) := by decide +kernel
theorem dX13_count_24 : decode cX13_count 24 = .ok (.invokevirtual 259, 3) := by decide +kernel
theorem dX13_count_27 : decode cX13_count 27 = .ok (.ireturn, 1) := by decide +kernel
theorem dX13_count_28 : decode cX13_count 28 = .ok (.aload_n 0, 1) := by decide +kernel
theorem dX13_count_29 : decode cX13_count 29 = .ok (.iload_n 1, 1) := by decide +kernel
theorem dX13_count_30 : decode cX13_count 30 = .ok (.bipush 29, 2) := by decide +kernel
theorem dX13_count_32 : decode cX13_count 32 = .ok (.iload_n 2, 1) := by decide +kernel
theorem dX13_count_33 : decode cX13_count 33 = .ok (.iadd, 1) := by decide +kernel
theorem dX13_count_34 : decode cX13_count 34 = .ok (.invokevirtual 238, 3) := by decide +kernel
theorem dX13_count_37 : decode cX13_count 37 = .ok (.ireturn, 1) := by decide +kernel
set_option maxRecDepth 20000 in
theorem ggX13_levelAt_X13_isPin : GoodIn wsX13_levelAt wsX13_isPin := goodIn_r _ [6, 7, 8, 5, 9] (by decide +kernel) (by decide +kernel)
set_option maxRecDepth 20000 in
theorem gX13_levelAt_X13_isPin : GoodIn wsX13_levelAt (va_wsS RX13 255 yX13_isPin wsX13_isPin) := goodIn_app (goodIn_of _ (by decide +kernel)) ggX13_levelAt_X13_isPin
set_option maxRecDepth 20000 in
theorem ggX13_levelAt_X13_inRange : GoodIn wsX13_levelAt wsX13_inRange := goodIn_r _ [9] (by decide +kernel) (by decide +kernel)
set_option maxRecDepth 20000 in
theorem gX13_levelAt_X13_inRange : GoodIn wsX13_levelAt (va_wsS RX13 245 yX13_inRange wsX13_inRange) := goodIn_app (goodIn_of _ (by decide +kernel)) ggX13_levelAt_X13_inRange
set_option maxRecDepth 20000 in
theorem ggX13_levelAt_X13_raise : GoodIn wsX13_levelAt wsX13_raise := goodIn_r _ [13, 1, 14, 15, 16, 17, 18, 19, 20, 21, 22, 23, 24, 25, 26, 27, 28, 29, 30, 31, 32, 33, 34, 35, 36, 37, 38, 39, 40, 41, 42, 43, 44, 45, 46, 47, 48, 49, 50, 51, 52, 53, 54, 55, 56, 57, 58, 59, 60] (by decide +kernel) (by decide +kernel)
set_option maxRecDepth 20000 in
theorem gX13_levelAt_X13_raise : GoodIn wsX13_levelAt (wsV RX13 259 RX13 yX13_raise wsX13_raise) := goodIn_app (goodIn_of _ (by decide +kernel)) ggX13_levelAt_X13_raise
theorem dX13_levelAt_0 : decode cX13_levelAt 0 = .ok (.aload_n 0, 1) := by decide +kernel
theorem dX13_levelAt_1 : decode cX13_levelAt 1 = .ok (.iconst 0, 1) := by decide +kernel
theorem dX13_levelAt_2 : decode cX13_levelAt 2 = .ok (.putfield 231, 3) := by decide +kernel
theorem dX13_levelAt_5 : decode cX13_levelAt 5 = .ok (.iload_n 1, 1) := by decide +kernel
theorem dX13_levelAt_6 : decode cX13_levelAt 6 = .ok (.invokestatic 255, 3) := by decide +kernel
theorem dX13_levelAt_9 : decode cX13_levelAt 9 = .ok (.ifCond .eq 13, 3) := by decide +kernel
theorem dX13_levelAt_12 : decode cX13_levelAt 12 = .ok (.iload_n 2, 1) := by decide +kernel
theorem dX13_levelAt_13 : decode cX13_levelAt 13 = .ok (.iconst 0, 1) := by decide +kernel
theorem dX13_levelAt_14 : decode cX13_levelAt 14 = .ok (.bipush 63, 2) := by decide +kernel
theorem dX13_levelAt_16 : decode cX13_levelAt 16 = .ok (.invokestatic 245, 3) := by decide +kernel
theorem dX13_levelAt_19 : decode cX13_levelAt 19 = .ok (.ifCond .ne 9, 3) := by decide +kernel
theorem dX13_levelAt_22 : decode cX13_levelAt 22 = .ok (.aload_n 0, 1) := by decide +kernel
theorem dX13_levelAt_23 : decode cX13_levelAt 23 = .ok (.iconst 1, 1) := by decide +kernel
theorem dX13_levelAt_24 : decode cX13_levelAt 24 = .ok (.invokevirtual 259, 3) := by decide +kernel
theorem dX13_levelAt_27 : decode cX13_levelAt 27 = .ok (.ireturn, 1) := by decide +kernel
theorem dX13_levelAt_28 : decode cX13_levelAt 28 = .ok (.aload_n 0, 1) := by decide +kernel
theorem dX13_levelAt_29 : decode cX13_levelAt 29 = .ok (.getfield 9, 3) := by decide +kernel
theorem dX13_levelAt_32 : decode cX13_levelAt 32 = .ok (.iconst 1, 1) := by decide +kernel
theorem dX13_levelAt_33 : decode cX13_levelAt 33 = .ok (.iaload, 1) := by decide +kernel
theorem dX13_levelAt_34 : decode cX13_levelAt 34 = .ok (.iconst 1, 1) := by decide +kernel
theorem dX13_levelAt_35 : decode cX13_levelAt 35 = .ok (.isub, 1) := by decide +kernel
theorem dX13_levelAt_36 : decode cX13_levelAt 36 = .ok (.iload_n 2, 1) := by decide +kernel
theorem dX13_levelAt_37 : decode cX13_levelAt 37 = .ok (.isub, 1) := by decide +kernel
theorem dX13_levelAt_38 : decode cX13_levelAt 38 = .ok (.istore_n 3, 1) := by decide +kernel
theorem dX13_levelAt_39 : decode cX13_levelAt 39 = .ok (.iload_n 3, 1) := by decide +kernel
theorem dX13_levelAt_40 : decode cX13_levelAt 40 = .ok (.ifCond .ge 7, 3) := by decide +kernel
theorem dX13_levelAt_43 : decode cX13_levelAt 43 = .ok (.iconst (-1), 1) := by decide +kernel
theorem dX13_levelAt_44 : decode cX13_levelAt 44 = .ok (.goto 20, 3) := by decide +kernel
theorem dX13_levelAt_47 : decode cX13_levelAt 47 = .ok (.aload_n 0, 1) := by decide +kernel
theorem dX13_levelAt_48 : decode cX13_levelAt 48 = .ok (.getfield 9, 3) := by decide +kernel
theorem dX13_levelAt_51 : decode cX13_levelAt 51 = .ok (.sipush 220, 3) := by decide +kernel
theorem dX13_levelAt_54 : decode cX13_levelAt 54 = .ok (.iload_n 3, 1) := by decide +kernel
theorem dX13_levelAt_55 : decode cX13_levelAt 55 = .ok (.bipush 64, 2) := by decide +kernel
theorem dX13_levelAt_57 : decode cX13_levelAt 57 = .ok (.irem, 1) := by decide +kernel
theorem dX13_levelAt_58 : decode cX13_levelAt 58 = .ok (.iadd, 1) := by decide +kernel
theorem dX13_levelAt_59 : decode cX13_levelAt 59 = .ok (.iaload, 1) := by decide +kernel
theorem dX13_levelAt_60 : decode cX13_levelAt 60 = .ok (.iload_n 1, 1) := by decide +kernel
theorem dX13_levelAt_61 : decode cX13_levelAt 61 = .ok (.ishr, 1) := by decide +kernel
theorem dX13_levelAt_62 : decode cX13_levelAt 62 = .ok (.iconst 1, 1) := by decide +kernel
theorem dX13_levelAt_63 : decode cX13_levelAt 63 = .ok (.iand, 1) := by decide +kernel
theorem dX13_levelAt_64 : decode cX13_levelAt 64 = .ok (.ireturn, 1) := by decide +kernel
set_option maxRecDepth 20000 in
theorem ggX13_edges_X13_tellPin : GoodIn wsX13_edges wsX13_tellPin := goodIn_r _ [5, 6, 7, 8, 4, 9, 10, 11, 12, 13, 14, 15, 16, 17, 18, 19, 20, 21, 22, 23, 24, 25, 26, 27, 28, 29, 30, 31, 32, 33, 34, 35, 36, 37, 38, 39, 40, 41, 42, 43, 44, 45, 46, 47, 48, 49, 50, 51, 52, 53, 54, 55, 56, 57, 58, 59, 60, 61, 62, 63, 64, 65, 66, 67, 68] (by decide +kernel) (by decide +kernel)
set_option maxRecDepth 20000 in
theorem gX13_edges_X13_tellPin : GoodIn wsX13_edges (wsV RX13 265 RX13 yX13_tellPin wsX13_tellPin) := goodIn_app (goodIn_of _ (by decide +kernel)) ggX13_edges_X13_tellPin
theorem dX13_edges_0 : decode cX13_edges 0 = .ok (.aload_n 0, 1) := by decide +kernel
theorem dX13_edges_1 : decode cX13_edges 1 = .ok (.iload_n 1, 1) := by decide +kernel
theorem dX13_edges_2 : decode cX13_edges 2 = .ok (.iconst 4, 1) := by decide +kernel
theorem dX13_edges_3 : decode cX13_edges 3 = .ok (.invokevirtual 265, 3) := by decide +kernel
theorem dX13_edges_6 : decode cX13_edges 6 = .ok (.ireturn, 1) := by decide +kernel
set_option maxRecDepth 20000 in
theorem ggX13_highTime_X13_tellPin : GoodIn wsX13_highTime wsX13_tellPin := goodIn_r _ [5, 6, 7, 8, 4, 9, 10, 11, 12, 13, 14, 15, 16, 17, 18, 19, 20, 21, 22, 23, 24, 25, 26, 27, 28, 29, 30, 31, 32, 33, 34, 35, 36, 37, 38, 39, 40, 41, 42, 43, 44, 45, 46, 47, 48, 49, 50, 51, 52, 53, 54, 55, 56, 57, 58, 59, 60, 61, 62, 63, 64, 65, 66, 67, 68] (by decide +kernel) (by decide +kernel)
set_option maxRecDepth 20000 in
theorem gX13_highTime_X13_tellPin : GoodIn wsX13_highTime (wsV RX13 265 RX13 yX13_tellPin wsX13_tellPin) := goodIn_app (goodIn_of _ (by decide +kernel)) ggX13_highTime_X13_tellPin
theorem dX13_highTime_0 : decode cX13_highTime 0 = .ok (.aload_n 0, 1) := by decide +kernel
theorem dX13_highTime_1 : decode cX13_highTime 1 = .ok (.iload_n 1, 1) := by decide +kernel
theorem dX13_highTime_2 : decode cX13_highTime 2 = .ok (.iconst 5, 1) := by decide +kernel
theorem dX13_highTime_3 : decode cX13_highTime 3 = .ok (.invokevirtual 265, 3) := by decide +kernel
theorem dX13_highTime_6 : decode cX13_highTime 6 = .ok (.ireturn, 1) := by decide +kernel
set_option maxRecDepth 20000 in
theorem ggX13_put_X13_exists : GoodIn wsX13_put wsX13_exists := goodIn_r _ [6, 7, 8, 5, 9, 10, 11, 12, 13, 14, 48, 49, 50, 51, 52, 53, 54, 55, 56, 57, 58, 59, 60, 61, 62, 63, 64, 65, 66, 67, 68, 69, 70, 71, 72, 73, 74, 75, 76, 77, 78, 79, 80, 81, 82, 83, 84, 85, 86, 87, 88, 89, 90, 91, 92, 93, 94] (by decide +kernel) (by decide +kernel)
set_option maxRecDepth 20000 in
theorem gX13_put_X13_exists : GoodIn wsX13_put (wsV RX13 268 RX13 yX13_exists wsX13_exists) := goodIn_app (goodIn_of _ (by decide +kernel)) ggX13_put_X13_exists
set_option maxRecDepth 20000 in
theorem ggX13_put_X13_raise : GoodIn wsX13_put wsX13_raise := goodIn_r _ [18, 1, 48, 49, 50, 51, 52, 53, 54, 55, 56, 57, 58, 59, 60, 61, 62, 63, 64, 65, 66, 67, 68, 69, 70, 71, 72, 73, 74, 75, 76, 77, 78, 79, 80, 81, 82, 83, 84, 85, 86, 87, 88, 89, 90, 91, 92, 93, 94] (by decide +kernel) (by decide +kernel)
set_option maxRecDepth 20000 in
theorem gX13_put_X13_raise : GoodIn wsX13_put (wsV RX13 259 RX13 yX13_raise wsX13_raise) := goodIn_app (goodIn_of _ (by decide +kernel)) ggX13_put_X13_raise
set_option maxRecDepth 20000 in
theorem ggX13_put_X13_isFull : GoodIn wsX13_put wsX13_isFull := goodIn_r _ [22, 23, 24, 25, 5, 26, 14, 10, 11, 12, 13, 48, 49, 50, 51, 52, 53, 54, 55, 56, 57, 58, 59, 60, 61, 62, 63, 64, 65, 66, 67, 68, 69, 70, 71, 72, 73, 74, 75, 76, 77, 78, 79, 80, 81, 82, 83, 84, 85, 86, 87, 88, 89, 90, 91, 92, 93, 94] (by decide +kernel) (by decide +kernel)
set_option maxRecDepth 20000 in
theorem gX13_put_X13_isFull : GoodIn wsX13_put (wsV RX13 392 RX13 yX13_isFull wsX13_isFull) := goodIn_app (goodIn_of _ (by decide +kernel)) ggX13_put_X13_isFull
set_option maxRecDepth 20000 in
theorem ggX13_put_X13_record : GoodIn wsX13_put wsX13_record := goodIn_r _ [30, 31, 32, 14, 33, 34, 5, 35, 48, 49, 50, 51, 52, 53, 54, 55, 56, 57, 58, 59, 60, 61, 62, 63, 64, 65, 66, 67, 68, 69, 70, 71, 72, 73, 74, 75, 76, 77, 78, 79, 80, 81, 82, 83, 84, 85, 86, 87, 88, 89, 90, 91, 92, 93, 94] (by decide +kernel) (by decide +kernel)
set_option maxRecDepth 20000 in
theorem gX13_put_X13_record : GoodIn wsX13_put (wsV RX13 422 RX13 yX13_record wsX13_record) := goodIn_app (goodIn_of _ (by decide +kernel)) ggX13_put_X13_record
set_option maxRecDepth 20000 in
theorem ggX13_put_X13_append : GoodIn wsX13_put wsX13_append := goodIn_r _ [39, 23, 24, 25, 5, 26, 14, 40, 41, 42, 43, 44, 45, 46, 47, 48, 49, 50, 51, 52, 53, 54, 55, 56, 57, 58, 59, 60, 61, 62, 63, 64, 65, 66, 67, 68, 69, 70, 71, 72, 73, 74, 75, 76, 77, 78, 79, 80, 81, 82, 83, 84, 85, 86, 87, 88, 89, 90, 91, 92, 93, 94] (by decide +kernel) (by decide +kernel)
set_option maxRecDepth 20000 in
theorem gX13_put_X13_append : GoodIn wsX13_put (wsV RX13 399 RX13 yX13_append wsX13_append) := goodIn_app (goodIn_of _ (by decide +kernel)) ggX13_put_X13_append
set_option maxRecDepth 20000 in
theorem ggX13_put_X13_of : GoodIn wsX13_put wsX13_of := goodIn_r _ [26, 14, 48, 49, 50, 51, 52, 53, 54, 55, 56, 57, 58, 59, 60, 61, 62, 63, 64, 65, 66, 67, 68, 69, 70, 71, 72, 73, 74, 75, 76, 77, 78, 79, 80, 81, 82, 83, 84, 85, 86, 87, 88, 89, 90, 91, 92, 93, 94] (by decide +kernel) (by decide +kernel)
set_option maxRecDepth 20000 in
theorem gX13_put_X13_of : GoodIn wsX13_put (wsV RX13 238 RX13 yX13_of wsX13_of) := goodIn_app (goodIn_of _ (by decide +kernel)) ggX13_put_X13_of
theorem dX13_put_0 : decode cX13_put 0 = .ok (.aload_n 0, 1) := by decide +kernel
theorem dX13_put_1 : decode cX13_put 1 = .ok (.iconst 0, 1) := by decide +kernel
theorem dX13_put_2 : decode cX13_put 2 = .ok (.putfield 231, 3) := by decide +kernel
theorem dX13_put_5 : decode cX13_put 5 = .ok (.aload_n 0, 1) := by decide +kernel
theorem dX13_put_6 : decode cX13_put 6 = .ok (.iload_n 1, 1) := by decide +kernel
theorem dX13_put_7 : decode cX13_put 7 = .ok (.invokevirtual 268, 3) := by decide +kernel
theorem dX13_put_10 : decode cX13_put 10 = .ok (.ifCond .ne 9, 3) := by decide +kernel
theorem dX13_put_13 : decode cX13_put 13 = .ok (.aload_n 0, 1) := by decide +kernel
theorem dX13_put_14 : decode cX13_put 14 = .ok (.iconst 1, 1) := by decide +kernel
theorem dX13_put_15 : decode cX13_put 15 = .ok (.invokevirtual 259, 3) := by decide +kernel
theorem dX13_put_18 : decode cX13_put 18 = .ok (.ireturn, 1) := by decide +kernel
theorem dX13_put_19 : decode cX13_put 19 = .ok (.aload_n 0, 1) := by decide +kernel
theorem dX13_put_20 : decode cX13_put 20 = .ok (.iload_n 1, 1) := by decide +kernel
theorem dX13_put_21 : decode cX13_put 21 = .ok (.iconst 0, 1) := by decide +kernel
theorem dX13_put_22 : decode cX13_put 22 = .ok (.invokevirtual 392, 3) := by decide +kernel
theorem dX13_put_25 : decode cX13_put 25 = .ok (.ifCond .eq 6, 3) := by decide +kernel
theorem dX13_put_28 : decode cX13_put 28 = .ok (.bipush (-2), 2) := by decide +kernel
theorem dX13_put_30 : decode cX13_put 30 = .ok (.ireturn, 1) := by decide +kernel
theorem dX13_put_31 : decode cX13_put 31 = .ok (.aload_n 0, 1) := by decide +kernel
theorem dX13_put_32 : decode cX13_put 32 = .ok (.invokevirtual 422, 3) := by decide +kernel
theorem dX13_put_35 : decode cX13_put 35 = .ok (.aload_n 0, 1) := by decide +kernel
theorem dX13_put_36 : decode cX13_put 36 = .ok (.iload_n 1, 1) := by decide +kernel
theorem dX13_put_37 : decode cX13_put 37 = .ok (.iconst 0, 1) := by decide +kernel
theorem dX13_put_38 : decode cX13_put 38 = .ok (.iload_n 2, 1) := by decide +kernel
theorem dX13_put_39 : decode cX13_put 39 = .ok (.invokevirtual 399, 3) := by decide +kernel
theorem dX13_put_42 : decode cX13_put 42 = .ok (.aload_n 0, 1) := by decide +kernel
theorem dX13_put_43 : decode cX13_put 43 = .ok (.iload_n 1, 1) := by decide +kernel
theorem dX13_put_44 : decode cX13_put 44 = .ok (.bipush 11, 2) := by decide +kernel
theorem dX13_put_46 : decode cX13_put 46 = .ok (.invokevirtual 238, 3) := by decide +kernel
theorem dX13_put_49 : decode cX13_put 49 = .ok (.ireturn, 1) := by decide +kernel
set_option maxRecDepth 20000 in
theorem ggX13_take_X13_exists : GoodIn wsX13_take wsX13_exists := goodIn_r _ [7, 8, 9, 6, 10, 11, 12, 13, 14, 15, 49, 50, 51, 52, 53, 54, 55, 56, 57, 58, 59, 60, 61, 62, 63, 64, 65, 66, 67, 68, 69, 70, 71, 72, 73, 74, 75, 76, 77, 78, 79, 80, 81, 82, 83, 84, 85, 86, 87, 88, 89, 90, 91, 92, 93, 94, 95] (by decide +kernel) (by decide +kernel)
set_option maxRecDepth 20000 in
theorem gX13_take_X13_exists : GoodIn wsX13_take (wsV RX13 268 RX13 yX13_exists wsX13_exists) := goodIn_app (goodIn_of _ (by decide +kernel)) ggX13_take_X13_exists
set_option maxRecDepth 20000 in
theorem ggX13_take_X13_raise : GoodIn wsX13_take wsX13_raise := goodIn_r _ [19, 1, 49, 50, 51, 52, 53, 54, 55, 56, 57, 58, 59, 60, 61, 62, 63, 64, 65, 66, 67, 68, 69, 70, 71, 72, 73, 74, 75, 76, 77, 78, 79, 80, 81, 82, 83, 84, 85, 86, 87, 88, 89, 90, 91, 92, 93, 94, 95] (by decide +kernel) (by decide +kernel)
set_option maxRecDepth 20000 in
theorem gX13_take_X13_raise : GoodIn wsX13_take (wsV RX13 259 RX13 yX13_raise wsX13_raise) := goodIn_app (goodIn_of _ (by decide +kernel)) ggX13_take_X13_raise
set_option maxRecDepth 20000 in
theorem ggX13_take_X13_of : GoodIn wsX13_take wsX13_of := goodIn_r _ [23, 15, 49, 50, 51, 52, 53, 54, 55, 56, 57, 58, 59, 60, 61, 62, 63, 64, 65, 66, 67, 68, 69, 70, 71, 72, 73, 74, 75, 76, 77, 78, 79, 80, 81, 82, 83, 84, 85, 86, 87, 88, 89, 90, 91, 92, 93, 94, 95] (by decide +kernel) (by decide +kernel)
set_option maxRecDepth 20000 in
theorem gX13_take_X13_of : GoodIn wsX13_take (wsV RX13 238 RX13 yX13_of wsX13_of) := goodIn_app (goodIn_of _ (by decide +kernel)) ggX13_take_X13_of
set_option maxRecDepth 20000 in
theorem ggX13_take_X13_record : GoodIn wsX13_take wsX13_record := goodIn_r _ [27, 28, 29, 15, 30, 31, 6, 32, 49, 50, 51, 52, 53, 54, 55, 56, 57, 58, 59, 60, 61, 62, 63, 64, 65, 66, 67, 68, 69, 70, 71, 72, 73, 74, 75, 76, 77, 78, 79, 80, 81, 82, 83, 84, 85, 86, 87, 88, 89, 90, 91, 92, 93, 94, 95] (by decide +kernel) (by decide +kernel)
set_option maxRecDepth 20000 in
theorem gX13_take_X13_record : GoodIn wsX13_take (wsV RX13 422 RX13 yX13_record wsX13_record) := goodIn_app (goodIn_of _ (by decide +kernel)) ggX13_take_X13_record
set_option maxRecDepth 20000 in
theorem ggX13_take_X13_removeFirst : GoodIn wsX13_take wsX13_removeFirst := goodIn_r _ [36, 20, 21, 22, 6, 23, 15, 37, 38, 39, 40, 41, 42, 43, 44, 49, 50, 51, 52, 53, 54, 55, 56, 57, 58, 59, 60, 61, 62, 63, 64, 65, 66, 67, 68, 69, 70, 71, 72, 73, 74, 75, 76, 77, 78, 79, 80, 81, 82, 83, 84, 85, 86, 87, 88, 89, 90, 91, 92, 93, 94, 95] (by decide +kernel) (by decide +kernel)
set_option maxRecDepth 20000 in
theorem gX13_take_X13_removeFirst : GoodIn wsX13_take (wsV RX13 406 RX13 yX13_removeFirst wsX13_removeFirst) := goodIn_app (goodIn_of _ (by decide +kernel)) ggX13_take_X13_removeFirst
set_option maxRecDepth 20000 in
theorem ggX13_take_X13_unsigned : GoodIn wsX13_take wsX13_unsigned := goodIn_r _ [47, 48] (by decide +kernel) (by decide +kernel)
set_option maxRecDepth 20000 in
theorem gX13_take_X13_unsigned : GoodIn wsX13_take (va_wsS RX13 276 yX13_unsigned wsX13_unsigned) := goodIn_app (goodIn_of _ (by decide +kernel)) ggX13_take_X13_unsigned
theorem dX13_take_0 : decode cX13_take 0 = .ok (.aload_n 0, 1) := by decide +kernel
theorem dX13_take_1 : decode cX13_take 1 = .ok (.iconst 0, 1) := by decide +kernel
theorem dX13_take_2 : decode cX13_take 2 = .ok (.putfield 231, 3) := by decide +kernel
theorem dX13_take_5 : decode cX13_take 5 = .ok (.aload_n 0, 1) := by decide +kernel
theorem dX13_take_6 : decode cX13_take 6 = .ok (.iload_n 1, 1) := by decide +kernel
theorem dX13_take_7 : decode cX13_take 7 = .ok (.invokevirtual 268, 3) := by decide +kernel
theorem dX13_take_10 : decode cX13_take 10 = .ok (.ifCond .ne 10, 3) := by decide +kernel
theorem dX13_take_13 : decode cX13_take 13 = .ok (.aload_n 0, 1) := by decide +kernel
theorem dX13_take_14 : decode cX13_take 14 = .ok (.iconst 1, 1) := by decide +kernel
theorem dX13_take_15 : decode cX13_take 15 = .ok (.invokevirtual 259, 3) := by decide +kernel
theorem dX13_take_18 : decode cX13_take 18 = .ok (.i2l, 1) := by decide +kernel
theorem dX13_take_19 : decode cX13_take 19 = .ok (.lreturn, 1) := by decide +kernel
theorem dX13_take_20 : decode cX13_take 20 = .ok (.aload_n 0, 1) := by decide +kernel
theorem dX13_take_21 : decode cX13_take 21 = .ok (.iload_n 1, 1) := by decide +kernel
theorem dX13_take_22 : decode cX13_take 22 = .ok (.bipush 12, 2) := by decide +kernel
theorem dX13_take_24 : decode cX13_take 24 = .ok (.invokevirtual 238, 3) := by decide +kernel
theorem dX13_take_27 : decode cX13_take 27 = .ok (.ifCond .ne 7, 3) := by decide +kernel
theorem dX13_take_30 : decode cX13_take 30 = .ok (.ldc2_w 425, 3) := by decide +kernel
theorem dX13_take_33 : decode cX13_take 33 = .ok (.lreturn, 1) := by decide +kernel
theorem dX13_take_34 : decode cX13_take 34 = .ok (.aload_n 0, 1) := by decide +kernel
theorem dX13_take_35 : decode cX13_take 35 = .ok (.invokevirtual 422, 3) := by decide +kernel
theorem dX13_take_38 : decode cX13_take 38 = .ok (.aload_n 0, 1) := by decide +kernel
theorem dX13_take_39 : decode cX13_take 39 = .ok (.iload_n 1, 1) := by decide +kernel
theorem dX13_take_40 : decode cX13_take 40 = .ok (.iconst 1, 1) := by decide +kernel
theorem dX13_take_41 : decode cX13_take 41 = .ok (.invokevirtual 406, 3) := by decide +kernel
theorem dX13_take_44 : decode cX13_take 44 = .ok (.invokestatic 276, 3) := by decide +kernel
theorem dX13_take_47 : decode cX13_take 47 = .ok (.lreturn, 1) := by decide +kernel
set_option maxRecDepth 20000 in
theorem ggX13_enable_X13_exists : GoodIn wsX13_enable wsX13_exists := goodIn_r _ [6, 7, 8, 5, 9, 10, 11, 12, 13, 14, 32, 33, 34, 35, 36, 37, 38, 39, 40, 41, 42, 43, 44, 45, 46, 47, 48, 49, 50, 51, 52, 53, 54, 55, 56, 57, 58, 59, 60, 61, 62, 63, 64, 65, 66, 67, 68, 69, 70, 71, 72, 73, 74, 75, 76, 77, 78] (by decide +kernel) (by decide +kernel)
set_option maxRecDepth 20000 in
theorem gX13_enable_X13_exists : GoodIn wsX13_enable (wsV RX13 268 RX13 yX13_exists wsX13_exists) := goodIn_app (goodIn_of _ (by decide +kernel)) ggX13_enable_X13_exists
set_option maxRecDepth 20000 in
theorem ggX13_enable_X13_record : GoodIn wsX13_enable wsX13_record := goodIn_r _ [18, 19, 20, 14, 21, 22, 5, 23, 32, 33, 34, 35, 36, 37, 38, 39, 40, 41, 42, 43, 44, 45, 46, 47, 48, 49, 50, 51, 52, 53, 54, 55, 56, 57, 58, 59, 60, 61, 62, 63, 64, 65, 66, 67, 68, 69, 70, 71, 72, 73, 74, 75, 76, 77, 78] (by decide +kernel) (by decide +kernel)
set_option maxRecDepth 20000 in
theorem gX13_enable_X13_record : GoodIn wsX13_enable (wsV RX13 422 RX13 yX13_record wsX13_record) := goodIn_app (goodIn_of _ (by decide +kernel)) ggX13_enable_X13_record
set_option maxRecDepth 20000 in
theorem ggX13_enable_X13_of : GoodIn wsX13_enable wsX13_of := goodIn_r _ [27, 14, 32, 33, 34, 35, 36, 37, 38, 39, 40, 41, 42, 43, 44, 45, 46, 47, 48, 49, 50, 51, 52, 53, 54, 55, 56, 57, 58, 59, 60, 61, 62, 63, 64, 65, 66, 67, 68, 69, 70, 71, 72, 73, 74, 75, 76, 77, 78] (by decide +kernel) (by decide +kernel)
set_option maxRecDepth 20000 in
theorem gX13_enable_X13_of : GoodIn wsX13_enable (wsV RX13 238 RX13 yX13_of wsX13_of) := goodIn_app (goodIn_of _ (by decide +kernel)) ggX13_enable_X13_of
set_option maxRecDepth 20000 in
theorem ggX13_enable_X13_set : GoodIn wsX13_enable wsX13_set := goodIn_r _ [31, 14, 32, 33, 34, 35, 36, 37, 38, 39, 40, 41, 42, 43, 44, 45, 46, 47, 48, 49, 50, 51, 52, 53, 54, 55, 56, 57, 58, 59, 60, 61, 62, 63, 64, 65, 66, 67, 68, 69, 70, 71, 72, 73, 74, 75, 76, 77, 78] (by decide +kernel) (by decide +kernel)
set_option maxRecDepth 20000 in
theorem gX13_enable_X13_set : GoodIn wsX13_enable (wsV RX13 282 RX13 yX13_set wsX13_set) := goodIn_app (goodIn_of _ (by decide +kernel)) ggX13_enable_X13_set
theorem dX13_enable_0 : decode cX13_enable 0 = .ok (.aload_n 0, 1) := by decide +kernel
theorem dX13_enable_1 : decode cX13_enable 1 = .ok (.aload_n 0, 1) := by decide +kernel
theorem dX13_enable_2 : decode cX13_enable 2 = .ok (.iload_n 1, 1) := by decide +kernel
theorem dX13_enable_3 : decode cX13_enable 3 = .ok (.invokevirtual 268, 3) := by decide +kernel
theorem dX13_enable_6 : decode cX13_enable 6 = .ok (.ifCond .eq 7, 3) := by decide +kernel
theorem dX13_enable_9 : decode cX13_enable 9 = .ok (.iconst 0, 1) := by decide +kernel
theorem dX13_enable_10 : decode cX13_enable 10 = .ok (.goto 4, 3) := by decide +kernel
theorem dX13_enable_13 : decode cX13_enable 13 = .ok (.iconst 1, 1) := by decide +kernel
theorem dX13_enable_14 : decode cX13_enable 14 = .ok (.putfield 231, 3) := by decide +kernel
theorem dX13_enable_17 : decode cX13_enable 17 = .ok (.aload_n 0, 1) := by decide +kernel
theorem dX13_enable_18 : decode cX13_enable 18 = .ok (.getfield 231, 3) := by decide +kernel
theorem dX13_enable_21 : decode cX13_enable 21 = .ok (.ifCond .eq 5, 3) := by decide +kernel
theorem dX13_enable_24 : decode cX13_enable 24 = .ok (.iconst 0, 1) := by decide +kernel
theorem dX13_enable_25 : decode cX13_enable 25 = .ok (.ireturn, 1) := by decide +kernel
theorem dX13_enable_26 : decode cX13_enable 26 = .ok (.aload_n 0, 1) := by decide +kernel
theorem dX13_enable_27 : decode cX13_enable 27 = .ok (.invokevirtual 422, 3) := by decide +kernel
theorem dX13_enable_30 : decode cX13_enable 30 = .ok (.aload_n 0, 1) := by decide +kernel
theorem dX13_enable_31 : decode cX13_enable 31 = .ok (.iload_n 1, 1) := by decide +kernel
theorem dX13_enable_32 : decode cX13_enable 32 = .ok (.iconst 0, 1) := by decide +kernel
theorem dX13_enable_33 : decode cX13_enable 33 = .ok (.invokevirtual 238, 3) := by decide +kernel
theorem dX13_enable_36 : decode cX13_enable 36 = .ok (.iconst 1, 1) := by decide +kernel
theorem dX13_enable_37 : decode cX13_enable 37 = .ok (.if_icmp .ne 7, 3) := by decide +kernel
theorem dX13_enable_40 : decode cX13_enable 40 = .ok (.iconst 1, 1) := by decide +kernel
theorem dX13_enable_41 : decode cX13_enable 41 = .ok (.goto 4, 3) := by decide +kernel
theorem dX13_enable_44 : decode cX13_enable 44 = .ok (.iconst 0, 1) := by decide +kernel
theorem dX13_enable_45 : decode cX13_enable 45 = .ok (.istore_n 3, 1) := by decide +kernel
theorem dX13_enable_46 : decode cX13_enable 46 = .ok (.aload_n 0, 1) := by decide +kernel
theorem dX13_enable_47 : decode cX13_enable 47 = .ok (.iload_n 1, 1) := by decide +kernel
theorem dX13_enable_48 : decode cX13_enable 48 = .ok (.iconst 0, 1) := by decide +kernel
theorem dX13_enable_49 : decode cX13_enable 49 = .ok (.iload_n 2, 1) := by decide +kernel
theorem dX13_enable_50 : decode cX13_enable 50 = .ok (.ifCond .eq 7, 3) := by decide +kernel
theorem dX13_enable_53 : decode cX13_enable 53 = .ok (.iconst 1, 1) := by decide +kernel
theorem dX13_enable_54 : decode cX13_enable 54 = .ok (.goto 4, 3) := by decide +kernel
theorem dX13_enable_57 : decode cX13_enable 57 = .ok (.iconst 0, 1) := by decide +kernel
theorem dX13_enable_58 : decode cX13_enable 58 = .ok (.invokevirtual 282, 3) := by decide +kernel
theorem dX13_enable_61 : decode cX13_enable 61 = .ok (.iload_n 3, 1) := by decide +kernel
theorem dX13_enable_62 : decode cX13_enable 62 = .ok (.ireturn, 1) := by decide +kernel
set_option maxRecDepth 20000 in
theorem ggX13_begin_X13_set : GoodIn wsX13_begin wsX13_set := goodIn_r _ [5, 6, 11, 12, 13, 14, 15, 16, 17, 18, 19, 20, 21, 22, 23, 24, 25, 26, 27, 28, 29, 30, 31, 32, 33, 34, 35, 36, 37, 38, 39, 40, 41, 42, 43, 44, 45, 46, 47, 48, 49, 50, 51, 52, 53, 54, 55, 56, 57] (by decide +kernel) (by decide +kernel)
set_option maxRecDepth 20000 in
theorem gX13_begin_X13_set : GoodIn wsX13_begin (wsV RX13 282 RX13 yX13_set wsX13_set) := goodIn_app (goodIn_of _ (by decide +kernel)) ggX13_begin_X13_set
set_option maxRecDepth 20000 in
theorem ggX13_begin_X13_setting : GoodIn wsX13_begin wsX13_setting := goodIn_r _ [10, 6, 11, 12, 13, 14, 15, 16, 17, 18, 19, 20, 21, 22, 23, 24, 25, 26, 27, 28, 29, 30, 31, 32, 33, 34, 35, 36, 37, 38, 39, 40, 41, 42, 43, 44, 45, 46, 47, 48, 49, 50, 51, 52, 53, 54, 55, 56, 57] (by decide +kernel) (by decide +kernel)
set_option maxRecDepth 20000 in
theorem gX13_begin_X13_setting : GoodIn wsX13_begin (wsV RX13 249 RX13 yX13_setting wsX13_setting) := goodIn_app (goodIn_of _ (by decide +kernel)) ggX13_begin_X13_setting
theorem dX13_begin_0 : decode cX13_begin 0 = .ok (.iconst 1, 1) := by decide +kernel
theorem dX13_begin_1 : decode cX13_begin 1 = .ok (.istore_n 2, 1) := by decide +kernel
theorem dX13_begin_2 : decode cX13_begin 2 = .ok (.iload_n 2, 1) := by decide +kernel
theorem dX13_begin_3 : decode cX13_begin 3 = .ok (.bipush 29, 2) := by decide +kernel
theorem dX13_begin_5 : decode cX13_begin 5 = .ok (.if_icmp .ge 16, 3) := by decide +kernel
theorem dX13_begin_8 : decode cX13_begin 8 = .ok (.aload_n 0, 1) := by decide +kernel
theorem dX13_begin_9 : decode cX13_begin 9 = .ok (.iload_n 1, 1) := by decide +kernel
theorem dX13_begin_10 : decode cX13_begin 10 = .ok (.iload_n 2, 1) := by decide +kernel
theorem dX13_begin_11 : decode cX13_begin 11 = .ok (.iconst 0, 1) := by decide +kernel
theorem dX13_begin_12 : decode cX13_begin 12 = .ok (.invokevirtual 282, 3) := by decide +kernel
theorem dX13_begin_15 : decode cX13_begin 15 = .ok (.iinc 2 1, 3) := by decide +kernel
theorem dX13_begin_18 : decode cX13_begin 18 = .ok (.goto (-16), 3) := by decide +kernel
theorem dX13_begin_21 : decode cX13_begin 21 = .ok (.aload_n 0, 1) := by decide +kernel
theorem dX13_begin_22 : decode cX13_begin 22 = .ok (.iload_n 1, 1) := by decide +kernel
theorem dX13_begin_23 : decode cX13_begin 23 = .ok (.iconst 1, 1) := by decide +kernel
theorem dX13_begin_24 : decode cX13_begin 24 = .ok (.aload_n 0, 1) := by decide +kernel
theorem dX13_begin_25 : decode cX13_begin 25 = .ok (.iload_n 1, 1) := by decide +kernel
theorem dX13_begin_26 : decode cX13_begin 26 = .ok (.iconst 1, 1) := by decide +kernel
theorem dX13_begin_27 : decode cX13_begin 27 = .ok (.invokevirtual 249, 3) := by decide +kernel
theorem dX13_begin_30 : decode cX13_begin 30 = .ok (.invokevirtual 282, 3) := by decide +kernel
theorem dX13_begin_33 : decode cX13_begin 33 = .ok (.aload_n 0, 1) := by decide +kernel
theorem dX13_begin_34 : decode cX13_begin 34 = .ok (.iload_n 1, 1) := by decide +kernel
theorem dX13_begin_35 : decode cX13_begin 35 = .ok (.bipush 7, 2) := by decide +kernel
theorem dX13_begin_37 : decode cX13_begin 37 = .ok (.bipush 32, 2) := by decide +kernel
theorem dX13_begin_39 : decode cX13_begin 39 = .ok (.invokevirtual 282, 3) := by decide +kernel
theorem dX13_begin_42 : decode cX13_begin 42 = .ok (.aload_n 0, 1) := by decide +kernel
theorem dX13_begin_43 : decode cX13_begin 43 = .ok (.iload_n 1, 1) := by decide +kernel
theorem dX13_begin_44 : decode cX13_begin 44 = .ok (.bipush 10, 2) := by decide +kernel
theorem dX13_begin_46 : decode cX13_begin 46 = .ok (.aload_n 0, 1) := by decide +kernel
theorem dX13_begin_47 : decode cX13_begin 47 = .ok (.iload_n 1, 1) := by decide +kernel
theorem dX13_begin_48 : decode cX13_begin 48 = .ok (.iconst 2, 1) := by decide +kernel
theorem dX13_begin_49 : decode cX13_begin 49 = .ok (.invokevirtual 249, 3) := by decide +kernel
theorem dX13_begin_52 : decode cX13_begin 52 = .ok (.sipush 256, 3) := by decide +kernel
theorem dX13_begin_55 : decode cX13_begin 55 = .ok (.isub, 1) := by decide +kernel
theorem dX13_begin_56 : decode cX13_begin 56 = .ok (.invokevirtual 282, 3) := by decide +kernel
theorem dX13_begin_59 : decode cX13_begin 59 = .ok (.return_, 1) := by decide +kernel
set_option maxRecDepth 20000 in
theorem ggX13_restart_X13_exists : GoodIn wsX13_restart wsX13_exists := goodIn_r _ [6, 7, 8, 5, 9, 10, 11, 12, 13, 14, 40, 41, 42, 43, 44, 45, 46, 47, 48, 49, 50, 51, 52, 53, 54, 55, 56, 57, 58, 59, 60, 61, 62, 63, 64, 65, 66, 67, 68, 69, 70, 71, 72, 73, 74, 75, 76, 77, 78, 79, 80, 81, 82, 83, 84, 85, 86] (by decide +kernel) (by decide +kernel)
set_option maxRecDepth 20000 in
theorem gX13_restart_X13_exists : GoodIn wsX13_restart (wsV RX13 268 RX13 yX13_exists wsX13_exists) := goodIn_app (goodIn_of _ (by decide +kernel)) ggX13_restart_X13_exists
set_option maxRecDepth 20000 in
theorem ggX13_restart_X13_raise : GoodIn wsX13_restart wsX13_raise := goodIn_r _ [18, 1, 40, 41, 42, 43, 44, 45, 46, 47, 48, 49, 50, 51, 52, 53, 54, 55, 56, 57, 58, 59, 60, 61, 62, 63, 64, 65, 66, 67, 68, 69, 70, 71, 72, 73, 74, 75, 76, 77, 78, 79, 80, 81, 82, 83, 84, 85, 86] (by decide +kernel) (by decide +kernel)
set_option maxRecDepth 20000 in
theorem gX13_restart_X13_raise : GoodIn wsX13_restart (wsV RX13 259 RX13 yX13_raise wsX13_raise) := goodIn_app (goodIn_of _ (by decide +kernel)) ggX13_restart_X13_raise
set_option maxRecDepth 20000 in
theorem ggX13_restart_X13_record : GoodIn wsX13_restart wsX13_record := goodIn_r _ [22, 23, 24, 14, 25, 26, 5, 27, 40, 41, 42, 43, 44, 45, 46, 47, 48, 49, 50, 51, 52, 53, 54, 55, 56, 57, 58, 59, 60, 61, 62, 63, 64, 65, 66, 67, 68, 69, 70, 71, 72, 73, 74, 75, 76, 77, 78, 79, 80, 81, 82, 83, 84, 85, 86] (by decide +kernel) (by decide +kernel)
set_option maxRecDepth 20000 in
theorem gX13_restart_X13_record : GoodIn wsX13_restart (wsV RX13 422 RX13 yX13_record wsX13_record) := goodIn_app (goodIn_of _ (by decide +kernel)) ggX13_restart_X13_record
set_option maxRecDepth 20000 in
theorem ggX13_restart_X13_of : GoodIn wsX13_restart wsX13_of := goodIn_r _ [31, 14, 40, 41, 42, 43, 44, 45, 46, 47, 48, 49, 50, 51, 52, 53, 54, 55, 56, 57, 58, 59, 60, 61, 62, 63, 64, 65, 66, 67, 68, 69, 70, 71, 72, 73, 74, 75, 76, 77, 78, 79, 80, 81, 82, 83, 84, 85, 86] (by decide +kernel) (by decide +kernel)
set_option maxRecDepth 20000 in
theorem gX13_restart_X13_of : GoodIn wsX13_restart (wsV RX13 238 RX13 yX13_of wsX13_of) := goodIn_app (goodIn_of _ (by decide +kernel)) ggX13_restart_X13_of
set_option maxRecDepth 20000 in
theorem ggX13_restart_X13_begin : GoodIn wsX13_restart wsX13_begin := goodIn_r _ [35, 36, 37, 38, 5, 39, 14, 10, 11, 12, 13, 40, 41, 42, 43, 44, 45, 46, 47, 48, 49, 50, 51, 52, 53, 54, 55, 56, 57, 58, 59, 60, 61, 62, 63, 64, 65, 66, 67, 68, 69, 70, 71, 72, 73, 74, 75, 76, 77, 78, 79, 80, 81, 82, 83, 84, 85, 86] (by decide +kernel) (by decide +kernel)
set_option maxRecDepth 20000 in
theorem gX13_restart_X13_begin : GoodIn wsX13_restart (wsV RX13 427 RX13 yX13_begin wsX13_begin) := goodIn_app (goodIn_of _ (by decide +kernel)) ggX13_restart_X13_begin
theorem dX13_restart_0 : decode cX13_restart 0 = .ok (.aload_n 0, 1) := by decide +kernel
theorem dX13_restart_1 : decode cX13_restart 1 = .ok (.iconst 0, 1) := by decide +kernel
theorem dX13_restart_2 : decode cX13_restart 2 = .ok (.putfield 231, 3) := by decide +kernel
theorem dX13_restart_5 : decode cX13_restart 5 = .ok (.aload_n 0, 1) := by decide +kernel
theorem dX13_restart_6 : decode cX13_restart 6 = .ok (.iload_n 1, 1) := by decide +kernel
theorem dX13_restart_7 : decode cX13_restart 7 = .ok (.invokevirtual 268, 3) := by decide +kernel
theorem dX13_restart_10 : decode cX13_restart 10 = .ok (.ifCond .ne 9, 3) := by decide +kernel
theorem dX13_restart_13 : decode cX13_restart 13 = .ok (.aload_n 0, 1) := by decide +kernel
theorem dX13_restart_14 : decode cX13_restart 14 = .ok (.iconst 1, 1) := by decide +kernel
theorem dX13_restart_15 : decode cX13_restart 15 = .ok (.invokevirtual 259, 3) := by decide +kernel
theorem dX13_restart_18 : decode cX13_restart 18 = .ok (.ireturn, 1) := by decide +kernel
theorem dX13_restart_19 : decode cX13_restart 19 = .ok (.aload_n 0, 1) := by decide +kernel
theorem dX13_restart_20 : decode cX13_restart 20 = .ok (.invokevirtual 422, 3) := by decide +kernel
theorem dX13_restart_23 : decode cX13_restart 23 = .ok (.aload_n 0, 1) := by decide +kernel
theorem dX13_restart_24 : decode cX13_restart 24 = .ok (.iload_n 1, 1) := by decide +kernel
theorem dX13_restart_25 : decode cX13_restart 25 = .ok (.iconst 1, 1) := by decide +kernel
theorem dX13_restart_26 : decode cX13_restart 26 = .ok (.invokevirtual 238, 3) := by decide +kernel
theorem dX13_restart_29 : decode cX13_restart 29 = .ok (.istore_n 2, 1) := by decide +kernel
theorem dX13_restart_30 : decode cX13_restart 30 = .ok (.aload_n 0, 1) := by decide +kernel
theorem dX13_restart_31 : decode cX13_restart 31 = .ok (.iload_n 1, 1) := by decide +kernel
theorem dX13_restart_32 : decode cX13_restart 32 = .ok (.invokevirtual 427, 3) := by decide +kernel
theorem dX13_restart_35 : decode cX13_restart 35 = .ok (.iload_n 2, 1) := by decide +kernel
theorem dX13_restart_36 : decode cX13_restart 36 = .ok (.ireturn, 1) := by decide +kernel
set_option maxRecDepth 20000 in
theorem ggX13_drive_X13_isPin : GoodIn wsX13_drive wsX13_isPin := goodIn_r _ [5, 6, 7, 4, 8] (by decide +kernel) (by decide +kernel)
set_option maxRecDepth 20000 in
theorem gX13_drive_X13_isPin : GoodIn wsX13_drive (va_wsS RX13 255 yX13_isPin wsX13_isPin) := goodIn_app (goodIn_of _ (by decide +kernel)) ggX13_drive_X13_isPin
set_option maxRecDepth 20000 in
theorem ggX13_drive_X13_raise : GoodIn wsX13_drive wsX13_raise := goodIn_r _ [12, 1, 35, 36, 37, 38, 39, 40, 41, 42, 43, 44, 45, 46, 47, 48, 49, 50, 51, 52, 53, 54, 55, 56, 57, 58, 59, 60, 61, 62, 63, 64, 65, 66, 67, 68, 69, 70, 71, 72, 73, 74, 75, 76, 77, 78, 79, 80, 81] (by decide +kernel) (by decide +kernel)
set_option maxRecDepth 20000 in
theorem gX13_drive_X13_raise : GoodIn wsX13_drive (wsV RX13 259 RX13 yX13_raise wsX13_raise) := goodIn_app (goodIn_of _ (by decide +kernel)) ggX13_drive_X13_raise
set_option maxRecDepth 20000 in
theorem ggX13_drive_X13_inRange : GoodIn wsX13_drive wsX13_inRange := goodIn_r _ [8] (by decide +kernel) (by decide +kernel)
set_option maxRecDepth 20000 in
theorem gX13_drive_X13_inRange : GoodIn wsX13_drive (va_wsS RX13 245 yX13_inRange wsX13_inRange) := goodIn_app (goodIn_of _ (by decide +kernel)) ggX13_drive_X13_inRange
set_option maxRecDepth 20000 in
theorem ggX13_drive_X13_record : GoodIn wsX13_drive wsX13_record := goodIn_r _ [16, 17, 18, 19, 20, 21, 4, 22, 35, 36, 37, 38, 39, 40, 41, 42, 43, 44, 45, 46, 47, 48, 49, 50, 51, 52, 53, 54, 55, 56, 57, 58, 59, 60, 61, 62, 63, 64, 65, 66, 67, 68, 69, 70, 71, 72, 73, 74, 75, 76, 77, 78, 79, 80, 81] (by decide +kernel) (by decide +kernel)
set_option maxRecDepth 20000 in
theorem gX13_drive_X13_record : GoodIn wsX13_drive (wsV RX13 422 RX13 yX13_record wsX13_record) := goodIn_app (goodIn_of _ (by decide +kernel)) ggX13_drive_X13_record
set_option maxRecDepth 20000 in
theorem ggX13_drive_X13_putPin : GoodIn wsX13_drive wsX13_putPin := goodIn_r _ [26, 19, 35, 36, 37, 38, 39, 40, 41, 42, 43, 44, 45, 46, 47, 48, 49, 50, 51, 52, 53, 54, 55, 56, 57, 58, 59, 60, 61, 62, 63, 64, 65, 66, 67, 68, 69, 70, 71, 72, 73, 74, 75, 76, 77, 78, 79, 80, 81] (by decide +kernel) (by decide +kernel)
set_option maxRecDepth 20000 in
theorem gX13_drive_X13_putPin : GoodIn wsX13_drive (wsV RX13 284 RX13 yX13_putPin wsX13_putPin) := goodIn_app (goodIn_of _ (by decide +kernel)) ggX13_drive_X13_putPin
set_option maxRecDepth 20000 in
theorem ggX13_drive_X13_levelOf : GoodIn wsX13_drive wsX13_levelOf := goodIn_r _ [30, 31, 32, 33, 4, 34, 19, 35, 36, 37, 38, 39, 40, 41, 42, 43, 44, 45, 46, 47, 48, 49, 50, 51, 52, 53, 54, 55, 56, 57, 58, 59, 60, 61, 62, 63, 64, 65, 66, 67, 68, 69, 70, 71, 72, 73, 74, 75, 76, 77, 78, 79, 80, 81] (by decide +kernel) (by decide +kernel)
set_option maxRecDepth 20000 in
theorem gX13_drive_X13_levelOf : GoodIn wsX13_drive (wsV RX13 262 RX13 yX13_levelOf wsX13_levelOf) := goodIn_app (goodIn_of _ (by decide +kernel)) ggX13_drive_X13_levelOf
theorem dX13_drive_0 : decode cX13_drive 0 = .ok (.aload_n 0, 1) := by decide +kernel
theorem dX13_drive_1 : decode cX13_drive 1 = .ok (.iconst 0, 1) := by decide +kernel
theorem dX13_drive_2 : decode cX13_drive 2 = .ok (.putfield 231, 3) := by decide +kernel
theorem dX13_drive_5 : decode cX13_drive 5 = .ok (.iload_n 1, 1) := by decide +kernel
theorem dX13_drive_6 : decode cX13_drive 6 = .ok (.invokestatic 255, 3) := by decide +kernel
theorem dX13_drive_9 : decode cX13_drive 9 = .ok (.ifCond .ne 9, 3) := by decide +kernel
theorem dX13_drive_12 : decode cX13_drive 12 = .ok (.aload_n 0, 1) := by decide +kernel
theorem dX13_drive_13 : decode cX13_drive 13 = .ok (.iconst 1, 1) := by decide +kernel
theorem dX13_drive_14 : decode cX13_drive 14 = .ok (.invokevirtual 259, 3) := by decide +kernel
theorem dX13_drive_17 : decode cX13_drive 17 = .ok (.ireturn, 1) := by decide +kernel
theorem dX13_drive_18 : decode cX13_drive 18 = .ok (.iload_n 2, 1) := by decide +kernel
theorem dX13_drive_19 : decode cX13_drive 19 = .ok (.iconst 0, 1) := by decide +kernel
theorem dX13_drive_20 : decode cX13_drive 20 = .ok (.iconst 1, 1) := by decide +kernel
theorem dX13_drive_21 : decode cX13_drive 21 = .ok (.invokestatic 245, 3) := by decide +kernel
theorem dX13_drive_24 : decode cX13_drive 24 = .ok (.ifCond .ne 9, 3) := by decide +kernel
theorem dX13_drive_27 : decode cX13_drive 27 = .ok (.aload_n 0, 1) := by decide +kernel
theorem dX13_drive_28 : decode cX13_drive 28 = .ok (.iconst 2, 1) := by decide +kernel
theorem dX13_drive_29 : decode cX13_drive 29 = .ok (.invokevirtual 259, 3) := by decide +kernel
theorem dX13_drive_32 : decode cX13_drive 32 = .ok (.ireturn, 1) := by decide +kernel
theorem dX13_drive_33 : decode cX13_drive 33 = .ok (.aload_n 0, 1) := by decide +kernel
theorem dX13_drive_34 : decode cX13_drive 34 = .ok (.invokevirtual 422, 3) := by decide +kernel
theorem dX13_drive_37 : decode cX13_drive 37 = .ok (.aload_n 0, 1) := by decide +kernel
theorem dX13_drive_38 : decode cX13_drive 38 = .ok (.iload_n 1, 1) := by decide +kernel
theorem dX13_drive_39 : decode cX13_drive 39 = .ok (.iconst 2, 1) := by decide +kernel
theorem dX13_drive_40 : decode cX13_drive 40 = .ok (.iload_n 2, 1) := by decide +kernel
theorem dX13_drive_41 : decode cX13_drive 41 = .ok (.invokevirtual 284, 3) := by decide +kernel
theorem dX13_drive_44 : decode cX13_drive 44 = .ok (.aload_n 0, 1) := by decide +kernel
theorem dX13_drive_45 : decode cX13_drive 45 = .ok (.iload_n 1, 1) := by decide +kernel
theorem dX13_drive_46 : decode cX13_drive 46 = .ok (.invokevirtual 262, 3) := by decide +kernel
theorem dX13_drive_49 : decode cX13_drive 49 = .ok (.ireturn, 1) := by decide +kernel
set_option maxRecDepth 20000 in
theorem ggX13_schedule_X13_isPin : GoodIn wsX13_schedule wsX13_isPin := goodIn_r _ [7, 8, 9, 6, 10] (by decide +kernel) (by decide +kernel)
set_option maxRecDepth 20000 in
theorem gX13_schedule_X13_isPin : GoodIn wsX13_schedule (va_wsS RX13 255 yX13_isPin wsX13_isPin) := goodIn_app (goodIn_of _ (by decide +kernel)) ggX13_schedule_X13_isPin
set_option maxRecDepth 20000 in
theorem ggX13_schedule_X13_raise : GoodIn wsX13_schedule wsX13_raise := goodIn_r _ [14, 1, 24, 25, 26, 27, 28, 29, 30, 31, 32, 33, 34, 35, 36, 37, 38, 39, 40, 41, 42, 43, 44, 45, 46, 47, 48, 49, 50, 51, 52, 53, 54, 55, 56, 57, 58, 59, 60, 61, 62, 63, 64, 65, 66, 67, 68, 69, 70] (by decide +kernel) (by decide +kernel)
set_option maxRecDepth 20000 in
theorem gX13_schedule_X13_raise : GoodIn wsX13_schedule (wsV RX13 259 RX13 yX13_raise wsX13_raise) := goodIn_app (goodIn_of _ (by decide +kernel)) ggX13_schedule_X13_raise
set_option maxRecDepth 20000 in
theorem ggX13_schedule_X13_inRange : GoodIn wsX13_schedule wsX13_inRange := goodIn_r _ [10] (by decide +kernel) (by decide +kernel)
set_option maxRecDepth 20000 in
theorem gX13_schedule_X13_inRange : GoodIn wsX13_schedule (va_wsS RX13 245 yX13_inRange wsX13_inRange) := goodIn_app (goodIn_of _ (by decide +kernel)) ggX13_schedule_X13_inRange
set_option maxRecDepth 20000 in
theorem ggX13_schedule_X13_record : GoodIn wsX13_schedule wsX13_record := goodIn_r _ [18, 19, 20, 2, 21, 22, 6, 23, 24, 25, 26, 27, 28, 29, 30, 31, 32, 33, 34, 35, 36, 37, 38, 39, 40, 41, 42, 43, 44, 45, 46, 47, 48, 49, 50, 51, 52, 53, 54, 55, 56, 57, 58, 59, 60, 61, 62, 63, 64, 65, 66, 67, 68, 69, 70] (by decide +kernel) (by decide +kernel)
set_option maxRecDepth 20000 in
theorem gX13_schedule_X13_record : GoodIn wsX13_schedule (wsV RX13 422 RX13 yX13_record wsX13_record) := goodIn_app (goodIn_of _ (by decide +kernel)) ggX13_schedule_X13_record
theorem dX13_schedule_0 : decode cX13_schedule 0 = .ok (.aload_n 0, 1) := by decide +kernel
theorem dX13_schedule_1 : decode cX13_schedule 1 = .ok (.iconst 0, 1) := by decide +kernel
theorem dX13_schedule_2 : decode cX13_schedule 2 = .ok (.putfield 231, 3) := by decide +kernel
theorem dX13_schedule_5 : decode cX13_schedule 5 = .ok (.iload_n 2, 1) := by decide +kernel
theorem dX13_schedule_6 : decode cX13_schedule 6 = .ok (.invokestatic 255, 3) := by decide +kernel
theorem dX13_schedule_9 : decode cX13_schedule 9 = .ok (.ifCond .ne 9, 3) := by decide +kernel
theorem dX13_schedule_12 : decode cX13_schedule 12 = .ok (.aload_n 0, 1) := by decide +kernel
theorem dX13_schedule_13 : decode cX13_schedule 13 = .ok (.iconst 1, 1) := by decide +kernel
theorem dX13_schedule_14 : decode cX13_schedule 14 = .ok (.invokevirtual 259, 3) := by decide +kernel
theorem dX13_schedule_17 : decode cX13_schedule 17 = .ok (.ireturn, 1) := by decide +kernel
theorem dX13_schedule_18 : decode cX13_schedule 18 = .ok (.iload_n 1, 1) := by decide +kernel
theorem dX13_schedule_19 : decode cX13_schedule 19 = .ok (.aload_n 0, 1) := by decide +kernel
theorem dX13_schedule_20 : decode cX13_schedule 20 = .ok (.getfield 9, 3) := by decide +kernel
theorem dX13_schedule_23 : decode cX13_schedule 23 = .ok (.iconst 1, 1) := by decide +kernel
theorem dX13_schedule_24 : decode cX13_schedule 24 = .ok (.iaload, 1) := by decide +kernel
theorem dX13_schedule_25 : decode cX13_schedule 25 = .ok (.ldc_w 430, 3) := by decide +kernel
theorem dX13_schedule_28 : decode cX13_schedule 28 = .ok (.invokestatic 245, 3) := by decide +kernel
theorem dX13_schedule_31 : decode cX13_schedule 31 = .ok (.ifCond .eq 12, 3) := by decide +kernel
theorem dX13_schedule_34 : decode cX13_schedule 34 = .ok (.iload_n 3, 1) := by decide +kernel
theorem dX13_schedule_35 : decode cX13_schedule 35 = .ok (.iconst 0, 1) := by decide +kernel
theorem dX13_schedule_36 : decode cX13_schedule 36 = .ok (.iconst 1, 1) := by decide +kernel
theorem dX13_schedule_37 : decode cX13_schedule 37 = .ok (.invokestatic 245, 3) := by decide +kernel
theorem dX13_schedule_40 : decode cX13_schedule 40 = .ok (.ifCond .ne 9, 3) := by decide +kernel
theorem dX13_schedule_43 : decode cX13_schedule 43 = .ok (.aload_n 0, 1) := by decide +kernel
theorem dX13_schedule_44 : decode cX13_schedule 44 = .ok (.iconst 2, 1) := by decide +kernel
theorem dX13_schedule_45 : decode cX13_schedule 45 = .ok (.invokevirtual 259, 3) := by decide +kernel
theorem dX13_schedule_48 : decode cX13_schedule 48 = .ok (.ireturn, 1) := by decide +kernel
theorem dX13_schedule_49 : decode cX13_schedule 49 = .ok (.aload_n 0, 1) := by decide +kernel
theorem dX13_schedule_50 : decode cX13_schedule 50 = .ok (.getfield 9, 3) := by decide +kernel
theorem dX13_schedule_53 : decode cX13_schedule 53 = .ok (.iconst 3, 1) := by decide +kernel
theorem dX13_schedule_54 : decode cX13_schedule 54 = .ok (.iaload, 1) := by decide +kernel
theorem dX13_schedule_55 : decode cX13_schedule 55 = .ok (.bipush 32, 2) := by decide +kernel
theorem dX13_schedule_57 : decode cX13_schedule 57 = .ok (.if_icmp .ne 6, 3) := by decide +kernel
theorem dX13_schedule_60 : decode cX13_schedule 60 = .ok (.bipush (-2), 2) := by decide +kernel
theorem dX13_schedule_62 : decode cX13_schedule 62 = .ok (.ireturn, 1) := by decide +kernel
theorem dX13_schedule_63 : decode cX13_schedule 63 = .ok (.aload_n 0, 1) := by decide +kernel
theorem dX13_schedule_64 : decode cX13_schedule 64 = .ok (.invokevirtual 422, 3) := by decide +kernel
theorem dX13_schedule_67 : decode cX13_schedule 67 = .ok (.bipush 124, 2) := by decide +kernel
theorem dX13_schedule_69 : decode cX13_schedule 69 = .ok (.iconst 3, 1) := by decide +kernel
theorem dX13_schedule_70 : decode cX13_schedule 70 = .ok (.aload_n 0, 1) := by decide +kernel
theorem dX13_schedule_71 : decode cX13_schedule 71 = .ok (.getfield 9, 3) := by decide +kernel
theorem dX13_schedule_74 : decode cX13_schedule 74 = .ok (.iconst 3, 1) := by decide +kernel
theorem dX13_schedule_75 : decode cX13_schedule 75 = .ok (.iaload, 1) := by decide +kernel
theorem dX13_schedule_76 : decode cX13_schedule 76 = .ok (.imul, 1) := by decide +kernel
theorem dX13_schedule_77 : decode cX13_schedule 77 = .ok (.iadd, 1) := by decide +kernel
theorem dX13_schedule_78 : decode cX13_schedule 78 = .ok (.istore 4, 2) := by decide +kernel
theorem dX13_schedule_80 : decode cX13_schedule 80 = .ok (.aload_n 0, 1) := by decide +kernel
theorem dX13_schedule_81 : decode cX13_schedule 81 = .ok (.getfield 9, 3) := by decide +kernel
theorem dX13_schedule_84 : decode cX13_schedule 84 = .ok (.iload 4, 2) := by decide +kernel
theorem dX13_schedule_86 : decode cX13_schedule 86 = .ok (.iload_n 1, 1) := by decide +kernel
theorem dX13_schedule_87 : decode cX13_schedule 87 = .ok (.iastore, 1) := by decide +kernel
theorem dX13_schedule_88 : decode cX13_schedule 88 = .ok (.aload_n 0, 1) := by decide +kernel
theorem dX13_schedule_89 : decode cX13_schedule 89 = .ok (.getfield 9, 3) := by decide +kernel
theorem dX13_schedule_92 : decode cX13_schedule 92 = .ok (.iload 4, 2) := by decide +kernel
theorem dX13_schedule_94 : decode cX13_schedule 94 = .ok (.iconst 1, 1) := by decide +kernel
theorem dX13_schedule_95 : decode cX13_schedule 95 = .ok (.iadd, 1) := by decide +kernel
theorem dX13_schedule_96 : decode cX13_schedule 96 = .ok (.iload_n 2, 1) := by decide +kernel
theorem dX13_schedule_97 : decode cX13_schedule 97 = .ok (.iastore, 1) := by decide +kernel
theorem dX13_schedule_98 : decode cX13_schedule 98 = .ok (.aload_n 0, 1) := by decide +kernel
theorem dX13_schedule_99 : decode cX13_schedule 99 = .ok (.getfield 9, 3) := by decide +kernel
theorem dX13_schedule_102 : decode cX13_schedule 102 = .ok (.iload 4, 2) := by decide +kernel
theorem dX13_schedule_104 : decode cX13_schedule 104 = .ok (.iconst 2, 1) := by decide +kernel
theorem dX13_schedule_105 : decode cX13_schedule 105 = .ok (.iadd, 1) := by decide +kernel
theorem dX13_schedule_106 : decode cX13_schedule 106 = .ok (.iload_n 3, 1) := by decide +kernel
theorem dX13_schedule_107 : decode cX13_schedule 107 = .ok (.iastore, 1) := by decide +kernel
theorem dX13_schedule_108 : decode cX13_schedule 108 = .ok (.aload_n 0, 1) := by decide +kernel
theorem dX13_schedule_109 : decode cX13_schedule 109 = .ok (.getfield 9, 3) := by decide +kernel
theorem dX13_schedule_112 : decode cX13_schedule 112 = .ok (.iconst 3, 1) := by decide +kernel
theorem dX13_schedule_113 : decode cX13_schedule 113 = .ok (.dup2, 1) := by decide +kernel
theorem dX13_schedule_114 : decode cX13_schedule 114 = .ok (.iaload, 1) := by decide +kernel
theorem dX13_schedule_115 : decode cX13_schedule 115 = .ok (.iconst 1, 1) := by decide +kernel
theorem dX13_schedule_116 : decode cX13_schedule 116 = .ok (.iadd, 1) := by decide +kernel
theorem dX13_schedule_117 : decode cX13_schedule 117 = .ok (.iastore, 1) := by decide +kernel
theorem dX13_schedule_118 : decode cX13_schedule 118 = .ok (.aload_n 0, 1) := by decide +kernel
theorem dX13_schedule_119 : decode cX13_schedule 119 = .ok (.getfield 9, 3) := by decide +kernel
theorem dX13_schedule_122 : decode cX13_schedule 122 = .ok (.iconst 3, 1) := by decide +kernel
theorem dX13_schedule_123 : decode cX13_schedule 123 = .ok (.iaload, 1) := by decide +kernel
theorem dX13_schedule_124 : decode cX13_schedule 124 = .ok (.ireturn, 1) := by decide +kernel
set_option maxRecDepth 20000 in
theorem ggX13_poke_X13_inRange : GoodIn wsX13_poke wsX13_inRange := goodIn_r _ [6] (by decide +kernel) (by decide +kernel)
set_option maxRecDepth 20000 in
theorem gX13_poke_X13_inRange : GoodIn wsX13_poke (va_wsS RX13 245 yX13_inRange wsX13_inRange) := goodIn_app (goodIn_of _ (by decide +kernel)) ggX13_poke_X13_inRange
set_option maxRecDepth 20000 in
theorem ggX13_poke_X13_raise : GoodIn wsX13_poke wsX13_raise := goodIn_r _ [10, 1, 20, 21, 22, 23, 24, 25, 26, 27, 28, 29, 30, 31, 32, 33, 34, 35, 36, 37, 38, 39, 40, 41, 42, 43, 44, 45, 46, 47, 48, 49, 50, 51, 52, 53, 54, 55, 56, 57, 58, 59, 60, 61, 62, 63, 64, 65, 66] (by decide +kernel) (by decide +kernel)
set_option maxRecDepth 20000 in
theorem gX13_poke_X13_raise : GoodIn wsX13_poke (wsV RX13 259 RX13 yX13_raise wsX13_raise) := goodIn_app (goodIn_of _ (by decide +kernel)) ggX13_poke_X13_raise
set_option maxRecDepth 20000 in
theorem ggX13_poke_X13_record : GoodIn wsX13_poke wsX13_record := goodIn_r _ [14, 15, 16, 2, 17, 18, 5, 19, 20, 21, 22, 23, 24, 25, 26, 27, 28, 29, 30, 31, 32, 33, 34, 35, 36, 37, 38, 39, 40, 41, 42, 43, 44, 45, 46, 47, 48, 49, 50, 51, 52, 53, 54, 55, 56, 57, 58, 59, 60, 61, 62, 63, 64, 65, 66] (by decide +kernel) (by decide +kernel)
set_option maxRecDepth 20000 in
theorem gX13_poke_X13_record : GoodIn wsX13_poke (wsV RX13 422 RX13 yX13_record wsX13_record) := goodIn_app (goodIn_of _ (by decide +kernel)) ggX13_poke_X13_record
theorem dX13_poke_0 : decode cX13_poke 0 = .ok (.aload_n 0, 1) := by decide +kernel
theorem dX13_poke_1 : decode cX13_poke 1 = .ok (.iconst 0, 1) := by decide +kernel
theorem dX13_poke_2 : decode cX13_poke 2 = .ok (.putfield 231, 3) := by decide +kernel
theorem dX13_poke_5 : decode cX13_poke 5 = .ok (.iload_n 1, 1) := by decide +kernel
theorem dX13_poke_6 : decode cX13_poke 6 = .ok (.iconst 0, 1) := by decide +kernel
theorem dX13_poke_7 : decode cX13_poke 7 = .ok (.bipush 15, 2) := by decide +kernel
theorem dX13_poke_9 : decode cX13_poke 9 = .ok (.invokestatic 245, 3) := by decide +kernel
theorem dX13_poke_12 : decode cX13_poke 12 = .ok (.ifCond .ne 9, 3) := by decide +kernel
theorem dX13_poke_15 : decode cX13_poke 15 = .ok (.aload_n 0, 1) := by decide +kernel
theorem dX13_poke_16 : decode cX13_poke 16 = .ok (.iconst 1, 1) := by decide +kernel
theorem dX13_poke_17 : decode cX13_poke 17 = .ok (.invokevirtual 259, 3) := by decide +kernel
theorem dX13_poke_20 : decode cX13_poke 20 = .ok (.ireturn, 1) := by decide +kernel
theorem dX13_poke_21 : decode cX13_poke 21 = .ok (.aload_n 0, 1) := by decide +kernel
theorem dX13_poke_22 : decode cX13_poke 22 = .ok (.invokevirtual 422, 3) := by decide +kernel
theorem dX13_poke_25 : decode cX13_poke 25 = .ok (.aload_n 0, 1) := by decide +kernel
theorem dX13_poke_26 : decode cX13_poke 26 = .ok (.getfield 9, 3) := by decide +kernel
theorem dX13_poke_29 : decode cX13_poke 29 = .ok (.bipush 108, 2) := by decide +kernel
theorem dX13_poke_31 : decode cX13_poke 31 = .ok (.iload_n 1, 1) := by decide +kernel
theorem dX13_poke_32 : decode cX13_poke 32 = .ok (.iadd, 1) := by decide +kernel
theorem dX13_poke_33 : decode cX13_poke 33 = .ok (.iaload, 1) := by decide +kernel
theorem dX13_poke_34 : decode cX13_poke 34 = .ok (.istore_n 3, 1) := by decide +kernel
theorem dX13_poke_35 : decode cX13_poke 35 = .ok (.aload_n 0, 1) := by decide +kernel
theorem dX13_poke_36 : decode cX13_poke 36 = .ok (.getfield 9, 3) := by decide +kernel
theorem dX13_poke_39 : decode cX13_poke 39 = .ok (.bipush 108, 2) := by decide +kernel
theorem dX13_poke_41 : decode cX13_poke 41 = .ok (.iload_n 1, 1) := by decide +kernel
theorem dX13_poke_42 : decode cX13_poke 42 = .ok (.iadd, 1) := by decide +kernel
theorem dX13_poke_43 : decode cX13_poke 43 = .ok (.iload_n 2, 1) := by decide +kernel
theorem dX13_poke_44 : decode cX13_poke 44 = .ok (.iastore, 1) := by decide +kernel
theorem dX13_poke_45 : decode cX13_poke 45 = .ok (.iload_n 3, 1) := by decide +kernel
theorem dX13_poke_46 : decode cX13_poke 46 = .ok (.ireturn, 1) := by decide +kernel
set_option maxRecDepth 20000 in
theorem ggX13_doneByAll_X13_of : GoodIn wsX13_doneByAll wsX13_of := goodIn_r _ [5, 6, 7, 8, 9, 10, 11, 12, 13, 14, 15, 16, 17, 18, 19, 20, 21, 22, 23, 24, 25, 26, 27, 28, 29, 30, 31, 32, 33, 34, 35, 36, 37, 38, 39, 40, 41, 42, 43, 44, 45, 46, 47, 48, 49, 50, 51, 52, 53] (by decide +kernel) (by decide +kernel)
set_option maxRecDepth 20000 in
theorem gX13_doneByAll_X13_of : GoodIn wsX13_doneByAll (wsV RX13 238 RX13 yX13_of wsX13_of) := goodIn_app (goodIn_of _ (by decide +kernel)) ggX13_doneByAll_X13_of
theorem dX13_doneByAll_0 : decode cX13_doneByAll 0 = .ok (.iconst 0, 1) := by decide +kernel
theorem dX13_doneByAll_1 : decode cX13_doneByAll 1 = .ok (.istore_n 1, 1) := by decide +kernel
theorem dX13_doneByAll_2 : decode cX13_doneByAll 2 = .ok (.iconst 0, 1) := by decide +kernel
theorem dX13_doneByAll_3 : decode cX13_doneByAll 3 = .ok (.istore_n 2, 1) := by decide +kernel
theorem dX13_doneByAll_4 : decode cX13_doneByAll 4 = .ok (.iload_n 2, 1) := by decide +kernel
theorem dX13_doneByAll_5 : decode cX13_doneByAll 5 = .ok (.iconst 4, 1) := by decide +kernel
theorem dX13_doneByAll_6 : decode cX13_doneByAll 6 = .ok (.if_icmp .ge 19, 3) := by decide +kernel
theorem dX13_doneByAll_9 : decode cX13_doneByAll 9 = .ok (.iload_n 1, 1) := by decide +kernel
theorem dX13_doneByAll_10 : decode cX13_doneByAll 10 = .ok (.aload_n 0, 1) := by decide +kernel
theorem dX13_doneByAll_11 : decode cX13_doneByAll 11 = .ok (.iload_n 2, 1) := by decide +kernel
theorem dX13_doneByAll_12 : decode cX13_doneByAll 12 = .ok (.bipush 29, 2) := by decide +kernel
theorem dX13_doneByAll_14 : decode cX13_doneByAll 14 = .ok (.invokevirtual 238, 3) := by decide +kernel
theorem dX13_doneByAll_17 : decode cX13_doneByAll 17 = .ok (.iadd, 1) := by decide +kernel
theorem dX13_doneByAll_18 : decode cX13_doneByAll 18 = .ok (.istore_n 1, 1) := by decide +kernel
theorem dX13_doneByAll_19 : decode cX13_doneByAll 19 = .ok (.iinc 2 1, 3) := by decide +kernel
theorem dX13_doneByAll_22 : decode cX13_doneByAll 22 = .ok (.goto (-18), 3) := by decide +kernel
theorem dX13_doneByAll_25 : decode cX13_doneByAll 25 = .ok (.iload_n 1, 1) := by decide +kernel
theorem dX13_doneByAll_26 : decode cX13_doneByAll 26 = .ok (.ireturn, 1) := by decide +kernel
set_option maxRecDepth 20000 in
theorem ggX13_run_X13_inRange : GoodIn wsX13_run wsX13_inRange := goodIn_r _ [7] (by decide +kernel) (by decide +kernel)
set_option maxRecDepth 20000 in
theorem gX13_run_X13_inRange : GoodIn wsX13_run (va_wsS RX13 245 yX13_inRange wsX13_inRange) := goodIn_app (goodIn_of _ (by decide +kernel)) ggX13_run_X13_inRange
set_option maxRecDepth 20000 in
theorem ggX13_run_X13_raise : GoodIn wsX13_run wsX13_raise := goodIn_r _ [11, 1, 227, 228, 229, 230, 231, 232, 233, 234, 235, 236, 237, 238, 239, 240, 241, 242, 243, 244, 245, 246, 247, 248, 249, 250, 251, 252, 253, 254, 255, 256, 257, 258, 259, 260, 261, 262, 263, 264, 265, 266, 267, 268, 269, 270, 271, 272, 273] (by decide +kernel) (by decide +kernel)
set_option maxRecDepth 20000 in
theorem gX13_run_X13_raise : GoodIn wsX13_run (wsV RX13 259 RX13 yX13_raise wsX13_raise) := goodIn_app (goodIn_of _ (by decide +kernel)) ggX13_run_X13_raise
set_option maxRecDepth 20000 in
theorem ggX13_run_X13_record : GoodIn wsX13_run wsX13_record := goodIn_r _ [15, 16, 17, 2, 18, 19, 6, 20, 227, 228, 229, 230, 231, 232, 233, 234, 235, 236, 237, 238, 239, 240, 241, 242, 243, 244, 245, 246, 247, 248, 249, 250, 251, 252, 253, 254, 255, 256, 257, 258, 259, 260, 261, 262, 263, 264, 265, 266, 267, 268, 269, 270, 271, 272, 273] (by decide +kernel) (by decide +kernel)
set_option maxRecDepth 20000 in
theorem gX13_run_X13_record : GoodIn wsX13_run (wsV RX13 422 RX13 yX13_record wsX13_record) := goodIn_app (goodIn_of _ (by decide +kernel)) ggX13_run_X13_record
set_option maxRecDepth 20000 in
theorem ggX13_run_X13_doneByAll : GoodIn wsX13_run wsX13_doneByAll := goodIn_r _ [24, 25, 26, 27, 6, 28, 2, 227, 228, 229, 230, 231, 232, 233, 234, 235, 236, 237, 238, 239, 240, 241, 242, 243, 244, 245, 246, 247, 248, 249, 250, 251, 252, 253, 254, 255, 256, 257, 258, 259, 260, 261, 262, 263, 264, 265, 266, 267, 268, 269, 270, 271, 272, 273] (by decide +kernel) (by decide +kernel)
set_option maxRecDepth 20000 in
theorem gX13_run_X13_doneByAll : GoodIn wsX13_run (wsV RX13 431 RX13 yX13_doneByAll wsX13_doneByAll) := goodIn_app (goodIn_of _ (by decide +kernel)) ggX13_run_X13_doneByAll
set_option maxRecDepth 20000 in
theorem ggX13_run_X13_passCycle : GoodIn wsX13_run wsX13_passCycle := goodIn_r _ [32, 33, 2, 34, 35, 36, 37, 38, 6, 39, 40, 41, 42, 43, 44, 45, 46, 47, 48, 49, 50, 51, 52, 53, 54, 55, 56, 57, 58, 59, 60, 61, 62, 63, 64, 65, 66, 67, 25, 26, 27, 28, 68, 69, 70, 71, 72, 73, 74, 75, 76, 77, 78, 79, 80, 81, 82, 83, 84, 85, 86, 87, 88, 89, 90, 91, 92, 93, 94, 95, 96, 97, 98, 99, 100, 101, 102, 103, 104, 105, 106, 107, 108, 109, 110, 111, 112, 113, 114, 115, 116, 117, 118, 119, 120, 121, 122, 123, 124, 125, 126, 127, 128, 129, 130, 131, 132, 133, 134, 135, 136, 137, 138, 139, 140, 141, 142, 143, 144, 145, 146, 147, 148, 149, 150, 151, 152, 153, 154, 155, 156, 157, 158, 159, 160, 161, 162, 163, 164, 165, 166, 167, 168, 169, 170, 171, 172, 173, 174, 175, 176, 177, 178, 179, 180, 181, 182, 183, 184, 185, 186, 187, 188, 189, 190, 191, 192, 193, 194, 195, 196, 197, 198, 199, 200, 201, 202, 203, 204, 205, 206, 207, 208, 209, 210, 211, 212, 213, 214, 215, 216, 217, 218, 219, 220, 221, 222, 223, 224, 225, 226, 227, 228, 229, 230, 231, 232, 233, 234, 235, 236, 237, 238, 239, 240, 241, 242, 243, 244, 245, 246, 247, 248, 249, 250, 251, 252, 253, 254, 255, 256, 257, 258, 259, 260, 261, 262, 263, 264, 265, 266, 267, 268, 269, 270, 271, 272, 273] (by decide +kernel) (by decide +kernel)
set_option maxRecDepth 20000 in
theorem gX13_run_X13_passCycle : GoodIn wsX13_run (wsV RX13 435 RX13 yX13_passCycle wsX13_passCycle) := goodIn_app (goodIn_of _ (by decide +kernel)) ggX13_run_X13_passCycle
theorem dX13_run_0 : decode cX13_run 0 = .ok (.aload_n 0, 1) := by decide +kernel
theorem dX13_run_1 : decode cX13_run 1 = .ok (.iconst 0, 1) := by decide +kernel
theorem dX13_run_2 : decode cX13_run 2 = .ok (.putfield 231, 3) := by decide +kernel
theorem dX13_run_5 : decode cX13_run 5 = .ok (.iload_n 1, 1) := by decide +kernel
theorem dX13_run_6 : decode cX13_run 6 = .ok (.iconst 0, 1) := by decide +kernel
theorem dX13_run_7 : decode cX13_run 7 = .ok (.sipush 1000, 3) := by decide +kernel
theorem dX13_run_10 : decode cX13_run 10 = .ok (.invokestatic 245, 3) := by decide +kernel
theorem dX13_run_13 : decode cX13_run 13 = .ok (.ifCond .ne 9, 3) := by decide +kernel
theorem dX13_run_16 : decode cX13_run 16 = .ok (.aload_n 0, 1) := by decide +kernel
theorem dX13_run_17 : decode cX13_run 17 = .ok (.iconst 1, 1) := by decide +kernel
theorem dX13_run_18 : decode cX13_run 18 = .ok (.invokevirtual 259, 3) := by decide +kernel
theorem dX13_run_21 : decode cX13_run 21 = .ok (.ireturn, 1) := by decide +kernel
theorem dX13_run_22 : decode cX13_run 22 = .ok (.aload_n 0, 1) := by decide +kernel
theorem dX13_run_23 : decode cX13_run 23 = .ok (.getfield 9, 3) := by decide +kernel
theorem dX13_run_26 : decode cX13_run 26 = .ok (.iconst 1, 1) := by decide +kernel
theorem dX13_run_27 : decode cX13_run 27 = .ok (.iaload, 1) := by decide +kernel
theorem dX13_run_28 : decode cX13_run 28 = .ok (.iload_n 1, 1) := by decide +kernel
theorem dX13_run_29 : decode cX13_run 29 = .ok (.iadd, 1) := by decide +kernel
theorem dX13_run_30 : decode cX13_run 30 = .ok (.ldc_w 430, 3) := by decide +kernel
theorem dX13_run_33 : decode cX13_run 33 = .ok (.if_icmp .le 6, 3) := by decide +kernel
theorem dX13_run_36 : decode cX13_run 36 = .ok (.bipush (-4), 2) := by decide +kernel
theorem dX13_run_38 : decode cX13_run 38 = .ok (.ireturn, 1) := by decide +kernel
theorem dX13_run_39 : decode cX13_run 39 = .ok (.aload_n 0, 1) := by decide +kernel
theorem dX13_run_40 : decode cX13_run 40 = .ok (.invokevirtual 422, 3) := by decide +kernel
theorem dX13_run_43 : decode cX13_run 43 = .ok (.aload_n 0, 1) := by decide +kernel
theorem dX13_run_44 : decode cX13_run 44 = .ok (.invokevirtual 431, 3) := by decide +kernel
theorem dX13_run_47 : decode cX13_run 47 = .ok (.istore_n 2, 1) := by decide +kernel
theorem dX13_run_48 : decode cX13_run 48 = .ok (.iconst 0, 1) := by decide +kernel
theorem dX13_run_49 : decode cX13_run 49 = .ok (.istore_n 3, 1) := by decide +kernel
theorem dX13_run_50 : decode cX13_run 50 = .ok (.iload_n 3, 1) := by decide +kernel
theorem dX13_run_51 : decode cX13_run 51 = .ok (.iload_n 1, 1) := by decide +kernel
theorem dX13_run_52 : decode cX13_run 52 = .ok (.if_icmp .ge 13, 3) := by decide +kernel
theorem dX13_run_55 : decode cX13_run 55 = .ok (.aload_n 0, 1) := by decide +kernel
theorem dX13_run_56 : decode cX13_run 56 = .ok (.invokevirtual 435, 3) := by decide +kernel
theorem dX13_run_59 : decode cX13_run 59 = .ok (.iinc 3 1, 3) := by decide +kernel
theorem dX13_run_62 : decode cX13_run 62 = .ok (.goto (-12), 3) := by decide +kernel
theorem dX13_run_65 : decode cX13_run 65 = .ok (.aload_n 0, 1) := by decide +kernel
theorem dX13_run_66 : decode cX13_run 66 = .ok (.invokevirtual 431, 3) := by decide +kernel
theorem dX13_run_69 : decode cX13_run 69 = .ok (.iload_n 2, 1) := by decide +kernel
theorem dX13_run_70 : decode cX13_run 70 = .ok (.isub, 1) := by decide +kernel
theorem dX13_run_71 : decode cX13_run 71 = .ok (.ireturn, 1) := by decide +kernel
set_option maxRecDepth 20000 in
theorem ggX13_isLimit_X13_inRange : GoodIn wsX13_isLimit wsX13_inRange := goodIn_r _ [4] (by decide +kernel) (by decide +kernel)
set_option maxRecDepth 20000 in
theorem gX13_isLimit_X13_inRange : GoodIn wsX13_isLimit (va_wsS RX13 245 yX13_inRange wsX13_inRange) := goodIn_app (goodIn_of _ (by decide +kernel)) ggX13_isLimit_X13_inRange
theorem dX13_isLimit_0 : decode cX13_isLimit 0 = .ok (.iload_n 0, 1) := by decide +kernel
theorem dX13_isLimit_1 : decode cX13_isLimit 1 = .ok (.iconst 0, 1) := by decide +kernel
theorem dX13_isLimit_2 : decode cX13_isLimit 2 = .ok (.sipush 2000, 3) := by decide +kernel
theorem dX13_isLimit_5 : decode cX13_isLimit 5 = .ok (.invokestatic 245, 3) := by decide +kernel
theorem dX13_isLimit_8 : decode cX13_isLimit 8 = .ok (.ireturn, 1) := by decide +kernel
set_option maxRecDepth 20000 in
theorem ggX13_cyclesUntil_X13_isPin : GoodIn wsX13_cyclesUntil wsX13_isPin := goodIn_r _ [7, 8, 9, 6, 10] (by decide +kernel) (by decide +kernel)
set_option maxRecDepth 20000 in
theorem gX13_cyclesUntil_X13_isPin : GoodIn wsX13_cyclesUntil (va_wsS RX13 255 yX13_isPin wsX13_isPin) := goodIn_app (goodIn_of _ (by decide +kernel)) ggX13_cyclesUntil_X13_isPin
set_option maxRecDepth 20000 in
theorem ggX13_cyclesUntil_X13_raise : GoodIn wsX13_cyclesUntil wsX13_raise := goodIn_r _ [14, 1, 223, 224, 225, 226, 227, 228, 229, 230, 231, 232, 233, 234, 235, 236, 237, 238, 239, 240, 241, 242, 243, 244, 245, 246, 247, 248, 249, 250, 251, 252, 253, 254, 255, 256, 257, 258, 259, 260, 261, 262, 263, 264, 265, 266, 267, 268, 269] (by decide +kernel) (by decide +kernel)
set_option maxRecDepth 20000 in
theorem gX13_cyclesUntil_X13_raise : GoodIn wsX13_cyclesUntil (wsV RX13 259 RX13 yX13_raise wsX13_raise) := goodIn_app (goodIn_of _ (by decide +kernel)) ggX13_cyclesUntil_X13_raise
set_option maxRecDepth 20000 in
theorem ggX13_cyclesUntil_X13_inRange : GoodIn wsX13_cyclesUntil wsX13_inRange := goodIn_r _ [10] (by decide +kernel) (by decide +kernel)
set_option maxRecDepth 20000 in
theorem gX13_cyclesUntil_X13_inRange : GoodIn wsX13_cyclesUntil (va_wsS RX13 245 yX13_inRange wsX13_inRange) := goodIn_app (goodIn_of _ (by decide +kernel)) ggX13_cyclesUntil_X13_inRange
set_option maxRecDepth 20000 in
theorem ggX13_cyclesUntil_X13_isLimit : GoodIn wsX13_cyclesUntil wsX13_isLimit := goodIn_r _ [17, 8, 9, 6, 10] (by decide +kernel) (by decide +kernel)
set_option maxRecDepth 20000 in
theorem gX13_cyclesUntil_X13_isLimit : GoodIn wsX13_cyclesUntil (va_wsS RX13 438 yX13_isLimit wsX13_isLimit) := goodIn_app (goodIn_of _ (by decide +kernel)) ggX13_cyclesUntil_X13_isLimit
set_option maxRecDepth 20000 in
theorem ggX13_cyclesUntil_X13_copy : GoodIn wsX13_cyclesUntil wsX13_copy := goodIn_r _ [20] (by decide +kernel) (by decide +kernel)
set_option maxRecDepth 20000 in
theorem gX13_cyclesUntil_X13_copy : GoodIn wsX13_cyclesUntil (va_wsS RX13 441 yX13_copy wsX13_copy) := goodIn_app (goodIn_of _ (by decide +kernel)) ggX13_cyclesUntil_X13_copy
set_option maxRecDepth 20000 in
theorem ggX13_cyclesUntil_X13_levelOf : GoodIn wsX13_cyclesUntil wsX13_levelOf := goodIn_r _ [24, 25, 26, 27, 6, 28, 2, 223, 224, 225, 226, 227, 228, 229, 230, 231, 232, 233, 234, 235, 236, 237, 238, 239, 240, 241, 242, 243, 244, 245, 246, 247, 248, 249, 250, 251, 252, 253, 254, 255, 256, 257, 258, 259, 260, 261, 262, 263, 264, 265, 266, 267, 268, 269] (by decide +kernel) (by decide +kernel)
set_option maxRecDepth 20000 in
theorem gX13_cyclesUntil_X13_levelOf : GoodIn wsX13_cyclesUntil (wsV RX13 262 RX13 yX13_levelOf wsX13_levelOf) := goodIn_app (goodIn_of _ (by decide +kernel)) ggX13_cyclesUntil_X13_levelOf
set_option maxRecDepth 20000 in
theorem ggX13_cyclesUntil_X13_passCycle : GoodIn wsX13_cyclesUntil wsX13_passCycle := goodIn_r _ [32, 33, 2, 34, 35, 36, 37, 38, 6, 39, 40, 41, 42, 43, 44, 45, 46, 47, 48, 49, 21, 22, 23, 24, 25, 26, 27, 28, 50, 51, 52, 53, 54, 55, 56, 57, 58, 59, 60, 61, 62, 63, 64, 65, 66, 67, 68, 69, 70, 71, 72, 73, 74, 75, 76, 77, 78, 79, 80, 81, 82, 83, 84, 85, 86, 87, 88, 89, 90, 91, 92, 93, 94, 95, 96, 97, 98, 99, 100, 101, 102, 103, 104, 105, 106, 107, 108, 109, 110, 111, 112, 113, 114, 115, 116, 117, 118, 119, 120, 121, 122, 123, 124, 125, 126, 127, 128, 129, 130, 131, 132, 133, 134, 135, 136, 137, 138, 139, 140, 141, 142, 143, 144, 145, 146, 147, 148, 149, 150, 151, 152, 153, 154, 155, 156, 157, 158, 159, 160, 161, 162, 163, 164, 165, 166, 167, 168, 169, 170, 171, 172, 173, 174, 175, 176, 177, 178, 179, 180, 181, 182, 183, 184, 185, 186, 187, 188, 189, 190, 191, 192, 193, 194, 195, 196, 197, 198, 199, 200, 201, 202, 203, 204, 205, 206, 207, 208, 209, 210, 211, 212, 213, 214, 215, 216, 217, 218, 219, 220, 221, 222, 223, 224, 225, 226, 227, 228, 229, 230, 231, 232, 233, 234, 235, 236, 237, 238, 239, 240, 241, 242, 243, 244, 245, 246, 247, 248, 249, 250, 251, 252, 253, 254, 255, 256, 257, 258, 259, 260, 261, 262, 263, 264, 265, 266, 267, 268, 269] (by decide +kernel) (by decide +kernel)
set_option maxRecDepth 20000 in
theorem gX13_cyclesUntil_X13_passCycle : GoodIn wsX13_cyclesUntil (wsV RX13 435 RX13 yX13_passCycle wsX13_passCycle) := goodIn_app (goodIn_of _ (by decide +kernel)) ggX13_cyclesUntil_X13_passCycle
theorem dX13_cyclesUntil_0 : decode cX13_cyclesUntil 0 = .ok (.aload_n 0, 1) := by decide +kernel
theorem dX13_cyclesUntil_1 : decode cX13_cyclesUntil 1 = .ok (.iconst 0, 1) := by decide +kernel
theorem dX13_cyclesUntil_2 : decode cX13_cyclesUntil 2 = .ok (.putfield 231, 3) := by decide +kernel
theorem dX13_cyclesUntil_5 : decode cX13_cyclesUntil 5 = .ok (.iload_n 1, 1) := by decide +kernel
theorem dX13_cyclesUntil_6 : decode cX13_cyclesUntil 6 = .ok (.invokestatic 255, 3) := by decide +kernel
theorem dX13_cyclesUntil_9 : decode cX13_cyclesUntil 9 = .ok (.ifCond .ne 9, 3) := by decide +kernel
theorem dX13_cyclesUntil_12 : decode cX13_cyclesUntil 12 = .ok (.aload_n 0, 1) := by decide +kernel
theorem dX13_cyclesUntil_13 : decode cX13_cyclesUntil 13 = .ok (.iconst 1, 1) := by decide +kernel
theorem dX13_cyclesUntil_14 : decode cX13_cyclesUntil 14 = .ok (.invokevirtual 259, 3) := by decide +kernel
theorem dX13_cyclesUntil_17 : decode cX13_cyclesUntil 17 = .ok (.ireturn, 1) := by decide +kernel
theorem dX13_cyclesUntil_18 : decode cX13_cyclesUntil 18 = .ok (.iload_n 2, 1) := by decide +kernel
theorem dX13_cyclesUntil_19 : decode cX13_cyclesUntil 19 = .ok (.iconst 0, 1) := by decide +kernel
theorem dX13_cyclesUntil_20 : decode cX13_cyclesUntil 20 = .ok (.iconst 1, 1) := by decide +kernel
theorem dX13_cyclesUntil_21 : decode cX13_cyclesUntil 21 = .ok (.invokestatic 245, 3) := by decide +kernel
theorem dX13_cyclesUntil_24 : decode cX13_cyclesUntil 24 = .ok (.ifCond .eq 10, 3) := by decide +kernel
theorem dX13_cyclesUntil_27 : decode cX13_cyclesUntil 27 = .ok (.iload_n 3, 1) := by decide +kernel
theorem dX13_cyclesUntil_28 : decode cX13_cyclesUntil 28 = .ok (.invokestatic 438, 3) := by decide +kernel
theorem dX13_cyclesUntil_31 : decode cX13_cyclesUntil 31 = .ok (.ifCond .ne 9, 3) := by decide +kernel
theorem dX13_cyclesUntil_34 : decode cX13_cyclesUntil 34 = .ok (.aload_n 0, 1) := by decide +kernel
theorem dX13_cyclesUntil_35 : decode cX13_cyclesUntil 35 = .ok (.iconst 2, 1) := by decide +kernel
theorem dX13_cyclesUntil_36 : decode cX13_cyclesUntil 36 = .ok (.invokevirtual 259, 3) := by decide +kernel
theorem dX13_cyclesUntil_39 : decode cX13_cyclesUntil 39 = .ok (.ireturn, 1) := by decide +kernel
theorem dX13_cyclesUntil_40 : decode cX13_cyclesUntil 40 = .ok (.aload_n 0, 1) := by decide +kernel
theorem dX13_cyclesUntil_41 : decode cX13_cyclesUntil 41 = .ok (.getfield 9, 3) := by decide +kernel
theorem dX13_cyclesUntil_44 : decode cX13_cyclesUntil 44 = .ok (.iconst 0, 1) := by decide +kernel
theorem dX13_cyclesUntil_45 : decode cX13_cyclesUntil 45 = .ok (.aload_n 0, 1) := by decide +kernel
theorem dX13_cyclesUntil_46 : decode cX13_cyclesUntil 46 = .ok (.getfield 16, 3) := by decide +kernel
theorem dX13_cyclesUntil_49 : decode cX13_cyclesUntil 49 = .ok (.iconst 0, 1) := by decide +kernel
theorem dX13_cyclesUntil_50 : decode cX13_cyclesUntil 50 = .ok (.invokestatic 441, 3) := by decide +kernel
theorem dX13_cyclesUntil_53 : decode cX13_cyclesUntil 53 = .ok (.iconst 0, 1) := by decide +kernel
theorem dX13_cyclesUntil_54 : decode cX13_cyclesUntil 54 = .ok (.istore 4, 2) := by decide +kernel
theorem dX13_cyclesUntil_56 : decode cX13_cyclesUntil 56 = .ok (.iload 4, 2) := by decide +kernel
theorem dX13_cyclesUntil_58 : decode cX13_cyclesUntil 58 = .ok (.iload_n 3, 1) := by decide +kernel
theorem dX13_cyclesUntil_59 : decode cX13_cyclesUntil 59 = .ok (.if_icmp .ge 22, 3) := by decide +kernel
theorem dX13_cyclesUntil_62 : decode cX13_cyclesUntil 62 = .ok (.aload_n 0, 1) := by decide +kernel
theorem dX13_cyclesUntil_63 : decode cX13_cyclesUntil 63 = .ok (.iload_n 1, 1) := by decide +kernel
theorem dX13_cyclesUntil_64 : decode cX13_cyclesUntil 64 = .ok (.invokevirtual 262, 3) := by decide +kernel
theorem dX13_cyclesUntil_67 : decode cX13_cyclesUntil 67 = .ok (.iload_n 2, 1) := by decide +kernel
theorem dX13_cyclesUntil_68 : decode cX13_cyclesUntil 68 = .ok (.if_icmp .eq 13, 3) := by decide +kernel
theorem dX13_cyclesUntil_71 : decode cX13_cyclesUntil 71 = .ok (.aload_n 0, 1) := by decide +kernel
theorem dX13_cyclesUntil_72 : decode cX13_cyclesUntil 72 = .ok (.invokevirtual 435, 3) := by decide +kernel
theorem dX13_cyclesUntil_75 : decode cX13_cyclesUntil 75 = .ok (.iinc 4 1, 3) := by decide +kernel
theorem dX13_cyclesUntil_78 : decode cX13_cyclesUntil 78 = .ok (.goto (-22), 3) := by decide +kernel
theorem dX13_cyclesUntil_81 : decode cX13_cyclesUntil 81 = .ok (.aload_n 0, 1) := by decide +kernel
theorem dX13_cyclesUntil_82 : decode cX13_cyclesUntil 82 = .ok (.iload_n 1, 1) := by decide +kernel
theorem dX13_cyclesUntil_83 : decode cX13_cyclesUntil 83 = .ok (.invokevirtual 262, 3) := by decide +kernel
theorem dX13_cyclesUntil_86 : decode cX13_cyclesUntil 86 = .ok (.iload_n 2, 1) := by decide +kernel
theorem dX13_cyclesUntil_87 : decode cX13_cyclesUntil 87 = .ok (.if_icmp .ne 8, 3) := by decide +kernel
theorem dX13_cyclesUntil_90 : decode cX13_cyclesUntil 90 = .ok (.iload 4, 2) := by decide +kernel
theorem dX13_cyclesUntil_92 : decode cX13_cyclesUntil 92 = .ok (.goto 4, 3) := by decide +kernel
theorem dX13_cyclesUntil_95 : decode cX13_cyclesUntil 95 = .ok (.iconst (-1), 1) := by decide +kernel
theorem dX13_cyclesUntil_96 : decode cX13_cyclesUntil 96 = .ok (.istore 5, 2) := by decide +kernel
theorem dX13_cyclesUntil_98 : decode cX13_cyclesUntil 98 = .ok (.aload_n 0, 1) := by decide +kernel
theorem dX13_cyclesUntil_99 : decode cX13_cyclesUntil 99 = .ok (.getfield 16, 3) := by decide +kernel
theorem dX13_cyclesUntil_102 : decode cX13_cyclesUntil 102 = .ok (.iconst 0, 1) := by decide +kernel
theorem dX13_cyclesUntil_103 : decode cX13_cyclesUntil 103 = .ok (.aload_n 0, 1) := by decide +kernel
theorem dX13_cyclesUntil_104 : decode cX13_cyclesUntil 104 = .ok (.getfield 9, 3) := by decide +kernel
theorem dX13_cyclesUntil_107 : decode cX13_cyclesUntil 107 = .ok (.iconst 0, 1) := by decide +kernel
theorem dX13_cyclesUntil_108 : decode cX13_cyclesUntil 108 = .ok (.invokestatic 441, 3) := by decide +kernel
theorem dX13_cyclesUntil_111 : decode cX13_cyclesUntil 111 = .ok (.iload 5, 2) := by decide +kernel
theorem dX13_cyclesUntil_113 : decode cX13_cyclesUntil 113 = .ok (.ireturn, 1) := by decide +kernel
set_option maxRecDepth 20000 in
theorem ggX13_cyclesTo_X13_exists : GoodIn wsX13_cyclesTo wsX13_exists := goodIn_r _ [8, 9, 10, 7, 11, 12, 13, 14, 15, 2, 224, 225, 226, 227, 228, 229, 230, 231, 232, 233, 234, 235, 236, 237, 238, 239, 240, 241, 242, 243, 244, 245, 246, 247, 248, 249, 250, 251, 252, 253, 254, 255, 256, 257, 258, 259, 260, 261, 262, 263, 264, 265, 266, 267, 268, 269, 270] (by decide +kernel) (by decide +kernel)
set_option maxRecDepth 20000 in
theorem gX13_cyclesTo_X13_exists : GoodIn wsX13_cyclesTo (wsV RX13 268 RX13 yX13_exists wsX13_exists) := goodIn_app (goodIn_of _ (by decide +kernel)) ggX13_cyclesTo_X13_exists
set_option maxRecDepth 20000 in
theorem ggX13_cyclesTo_X13_inRange : GoodIn wsX13_cyclesTo wsX13_inRange := goodIn_r _ [11] (by decide +kernel) (by decide +kernel)
set_option maxRecDepth 20000 in
theorem gX13_cyclesTo_X13_inRange : GoodIn wsX13_cyclesTo (va_wsS RX13 245 yX13_inRange wsX13_inRange) := goodIn_app (goodIn_of _ (by decide +kernel)) ggX13_cyclesTo_X13_inRange
set_option maxRecDepth 20000 in
theorem ggX13_cyclesTo_X13_raise : GoodIn wsX13_cyclesTo wsX13_raise := goodIn_r _ [19, 1, 224, 225, 226, 227, 228, 229, 230, 231, 232, 233, 234, 235, 236, 237, 238, 239, 240, 241, 242, 243, 244, 245, 246, 247, 248, 249, 250, 251, 252, 253, 254, 255, 256, 257, 258, 259, 260, 261, 262, 263, 264, 265, 266, 267, 268, 269, 270] (by decide +kernel) (by decide +kernel)
set_option maxRecDepth 20000 in
theorem gX13_cyclesTo_X13_raise : GoodIn wsX13_cyclesTo (wsV RX13 259 RX13 yX13_raise wsX13_raise) := goodIn_app (goodIn_of _ (by decide +kernel)) ggX13_cyclesTo_X13_raise
set_option maxRecDepth 20000 in
theorem ggX13_cyclesTo_X13_isLimit : GoodIn wsX13_cyclesTo wsX13_isLimit := goodIn_r _ [22, 9, 10, 7, 11] (by decide +kernel) (by decide +kernel)
set_option maxRecDepth 20000 in
theorem gX13_cyclesTo_X13_isLimit : GoodIn wsX13_cyclesTo (va_wsS RX13 438 yX13_isLimit wsX13_isLimit) := goodIn_app (goodIn_of _ (by decide +kernel)) ggX13_cyclesTo_X13_isLimit
set_option maxRecDepth 20000 in
theorem ggX13_cyclesTo_X13_copy : GoodIn wsX13_cyclesTo wsX13_copy := goodIn_r _ [25] (by decide +kernel) (by decide +kernel)
set_option maxRecDepth 20000 in
theorem gX13_cyclesTo_X13_copy : GoodIn wsX13_cyclesTo (va_wsS RX13 441 yX13_copy wsX13_copy) := goodIn_app (goodIn_of _ (by decide +kernel)) ggX13_cyclesTo_X13_copy
set_option maxRecDepth 20000 in
theorem ggX13_cyclesTo_X13_of : GoodIn wsX13_cyclesTo wsX13_of := goodIn_r _ [29, 2, 224, 225, 226, 227, 228, 229, 230, 231, 232, 233, 234, 235, 236, 237, 238, 239, 240, 241, 242, 243, 244, 245, 246, 247, 248, 249, 250, 251, 252, 253, 254, 255, 256, 257, 258, 259, 260, 261, 262, 263, 264, 265, 266, 267, 268, 269, 270] (by decide +kernel) (by decide +kernel)
set_option maxRecDepth 20000 in
theorem gX13_cyclesTo_X13_of : GoodIn wsX13_cyclesTo (wsV RX13 238 RX13 yX13_of wsX13_of) := goodIn_app (goodIn_of _ (by decide +kernel)) ggX13_cyclesTo_X13_of
set_option maxRecDepth 20000 in
theorem ggX13_cyclesTo_X13_passCycle : GoodIn wsX13_cyclesTo wsX13_passCycle := goodIn_r _ [33, 34, 2, 35, 36, 37, 38, 39, 7, 40, 41, 42, 43, 44, 45, 46, 47, 48, 49, 50, 51, 52, 53, 54, 55, 56, 57, 58, 59, 60, 61, 62, 63, 64, 12, 13, 14, 15, 26, 27, 28, 29, 65, 66, 67, 68, 69, 70, 71, 72, 73, 74, 75, 76, 77, 78, 79, 80, 81, 82, 83, 84, 85, 86, 87, 88, 89, 90, 91, 92, 93, 94, 95, 96, 97, 98, 99, 100, 101, 102, 103, 104, 105, 106, 107, 108, 109, 110, 111, 112, 113, 114, 115, 116, 117, 118, 119, 120, 121, 122, 123, 124, 125, 126, 127, 128, 129, 130, 131, 132, 133, 134, 135, 136, 137, 138, 139, 140, 141, 142, 143, 144, 145, 146, 147, 148, 149, 150, 151, 152, 153, 154, 155, 156, 157, 158, 159, 160, 161, 162, 163, 164, 165, 166, 167, 168, 169, 170, 171, 172, 173, 174, 175, 176, 177, 178, 179, 180, 181, 182, 183, 184, 185, 186, 187, 188, 189, 190, 191, 192, 193, 194, 195, 196, 197, 198, 199, 200, 201, 202, 203, 204, 205, 206, 207, 208, 209, 210, 211, 212, 213, 214, 215, 216, 217, 218, 219, 220, 221, 222, 223, 224, 225, 226, 227, 228, 229, 230, 231, 232, 233, 234, 235, 236, 237, 238, 239, 240, 241, 242, 243, 244, 245, 246, 247, 248, 249, 250, 251, 252, 253, 254, 255, 256, 257, 258, 259, 260, 261, 262, 263, 264, 265, 266, 267, 268, 269, 270] (by decide +kernel) (by decide +kernel)
set_option maxRecDepth 20000 in
theorem gX13_cyclesTo_X13_passCycle : GoodIn wsX13_cyclesTo (wsV RX13 435 RX13 yX13_passCycle wsX13_passCycle) := goodIn_app (goodIn_of _ (by decide +kernel)) ggX13_cyclesTo_X13_passCycle
theorem dX13_cyclesTo_0 : decode cX13_cyclesTo 0 = .ok (.aload_n 0, 1) := by decide +kernel
theorem dX13_cyclesTo_1 : decode cX13_cyclesTo 1 = .ok (.iconst 0, 1) := by decide +kernel
theorem dX13_cyclesTo_2 : decode cX13_cyclesTo 2 = .ok (.putfield 231, 3) := by decide +kernel
theorem dX13_cyclesTo_5 : decode cX13_cyclesTo 5 = .ok (.aload_n 0, 1) := by decide +kernel
theorem dX13_cyclesTo_6 : decode cX13_cyclesTo 6 = .ok (.iload_n 1, 1) := by decide +kernel
theorem dX13_cyclesTo_7 : decode cX13_cyclesTo 7 = .ok (.invokevirtual 268, 3) := by decide +kernel
theorem dX13_cyclesTo_10 : decode cX13_cyclesTo 10 = .ok (.ifCond .eq 19, 3) := by decide +kernel
theorem dX13_cyclesTo_13 : decode cX13_cyclesTo 13 = .ok (.iload_n 2, 1) := by decide +kernel
theorem dX13_cyclesTo_14 : decode cX13_cyclesTo 14 = .ok (.iconst 0, 1) := by decide +kernel
theorem dX13_cyclesTo_15 : decode cX13_cyclesTo 15 = .ok (.aload_n 0, 1) := by decide +kernel
theorem dX13_cyclesTo_16 : decode cX13_cyclesTo 16 = .ok (.getfield 9, 3) := by decide +kernel
theorem dX13_cyclesTo_19 : decode cX13_cyclesTo 19 = .ok (.iconst 0, 1) := by decide +kernel
theorem dX13_cyclesTo_20 : decode cX13_cyclesTo 20 = .ok (.iaload, 1) := by decide +kernel
theorem dX13_cyclesTo_21 : decode cX13_cyclesTo 21 = .ok (.iconst 1, 1) := by decide +kernel
theorem dX13_cyclesTo_22 : decode cX13_cyclesTo 22 = .ok (.isub, 1) := by decide +kernel
theorem dX13_cyclesTo_23 : decode cX13_cyclesTo 23 = .ok (.invokestatic 245, 3) := by decide +kernel
theorem dX13_cyclesTo_26 : decode cX13_cyclesTo 26 = .ok (.ifCond .ne 9, 3) := by decide +kernel
theorem dX13_cyclesTo_29 : decode cX13_cyclesTo 29 = .ok (.aload_n 0, 1) := by decide +kernel
theorem dX13_cyclesTo_30 : decode cX13_cyclesTo 30 = .ok (.iconst 1, 1) := by decide +kernel
theorem dX13_cyclesTo_31 : decode cX13_cyclesTo 31 = .ok (.invokevirtual 259, 3) := by decide +kernel
theorem dX13_cyclesTo_34 : decode cX13_cyclesTo 34 = .ok (.ireturn, 1) := by decide +kernel
theorem dX13_cyclesTo_35 : decode cX13_cyclesTo 35 = .ok (.iload_n 3, 1) := by decide +kernel
theorem dX13_cyclesTo_36 : decode cX13_cyclesTo 36 = .ok (.invokestatic 438, 3) := by decide +kernel
theorem dX13_cyclesTo_39 : decode cX13_cyclesTo 39 = .ok (.ifCond .ne 9, 3) := by decide +kernel
theorem dX13_cyclesTo_42 : decode cX13_cyclesTo 42 = .ok (.aload_n 0, 1) := by decide +kernel
theorem dX13_cyclesTo_43 : decode cX13_cyclesTo 43 = .ok (.iconst 2, 1) := by decide +kernel
theorem dX13_cyclesTo_44 : decode cX13_cyclesTo 44 = .ok (.invokevirtual 259, 3) := by decide +kernel
theorem dX13_cyclesTo_47 : decode cX13_cyclesTo 47 = .ok (.ireturn, 1) := by decide +kernel
theorem dX13_cyclesTo_48 : decode cX13_cyclesTo 48 = .ok (.aload_n 0, 1) := by decide +kernel
theorem dX13_cyclesTo_49 : decode cX13_cyclesTo 49 = .ok (.getfield 9, 3) := by decide +kernel
theorem dX13_cyclesTo_52 : decode cX13_cyclesTo 52 = .ok (.iconst 0, 1) := by decide +kernel
theorem dX13_cyclesTo_53 : decode cX13_cyclesTo 53 = .ok (.aload_n 0, 1) := by decide +kernel
theorem dX13_cyclesTo_54 : decode cX13_cyclesTo 54 = .ok (.getfield 16, 3) := by decide +kernel
theorem dX13_cyclesTo_57 : decode cX13_cyclesTo 57 = .ok (.iconst 0, 1) := by decide +kernel
theorem dX13_cyclesTo_58 : decode cX13_cyclesTo 58 = .ok (.invokestatic 441, 3) := by decide +kernel
theorem dX13_cyclesTo_61 : decode cX13_cyclesTo 61 = .ok (.iconst 0, 1) := by decide +kernel
theorem dX13_cyclesTo_62 : decode cX13_cyclesTo 62 = .ok (.istore 4, 2) := by decide +kernel
theorem dX13_cyclesTo_64 : decode cX13_cyclesTo 64 = .ok (.iload 4, 2) := by decide +kernel
theorem dX13_cyclesTo_66 : decode cX13_cyclesTo 66 = .ok (.iload_n 3, 1) := by decide +kernel
theorem dX13_cyclesTo_67 : decode cX13_cyclesTo 67 = .ok (.if_icmp .ge 23, 3) := by decide +kernel
theorem dX13_cyclesTo_70 : decode cX13_cyclesTo 70 = .ok (.aload_n 0, 1) := by decide +kernel
theorem dX13_cyclesTo_71 : decode cX13_cyclesTo 71 = .ok (.iload_n 1, 1) := by decide +kernel
theorem dX13_cyclesTo_72 : decode cX13_cyclesTo 72 = .ok (.iconst 1, 1) := by decide +kernel
theorem dX13_cyclesTo_73 : decode cX13_cyclesTo 73 = .ok (.invokevirtual 238, 3) := by decide +kernel
theorem dX13_cyclesTo_76 : decode cX13_cyclesTo 76 = .ok (.iload_n 2, 1) := by decide +kernel
theorem dX13_cyclesTo_77 : decode cX13_cyclesTo 77 = .ok (.if_icmp .eq 13, 3) := by decide +kernel
theorem dX13_cyclesTo_80 : decode cX13_cyclesTo 80 = .ok (.aload_n 0, 1) := by decide +kernel
theorem dX13_cyclesTo_81 : decode cX13_cyclesTo 81 = .ok (.invokevirtual 435, 3) := by decide +kernel
theorem dX13_cyclesTo_84 : decode cX13_cyclesTo 84 = .ok (.iinc 4 1, 3) := by decide +kernel
theorem dX13_cyclesTo_87 : decode cX13_cyclesTo 87 = .ok (.goto (-23), 3) := by decide +kernel
theorem dX13_cyclesTo_90 : decode cX13_cyclesTo 90 = .ok (.aload_n 0, 1) := by decide +kernel
theorem dX13_cyclesTo_91 : decode cX13_cyclesTo 91 = .ok (.iload_n 1, 1) := by decide +kernel
theorem dX13_cyclesTo_92 : decode cX13_cyclesTo 92 = .ok (.iconst 1, 1) := by decide +kernel
theorem dX13_cyclesTo_93 : decode cX13_cyclesTo 93 = .ok (.invokevirtual 238, 3) := by decide +kernel
theorem dX13_cyclesTo_96 : decode cX13_cyclesTo 96 = .ok (.iload_n 2, 1) := by decide +kernel
theorem dX13_cyclesTo_97 : decode cX13_cyclesTo 97 = .ok (.if_icmp .ne 8, 3) := by decide +kernel
theorem dX13_cyclesTo_100 : decode cX13_cyclesTo 100 = .ok (.iload 4, 2) := by decide +kernel
theorem dX13_cyclesTo_102 : decode cX13_cyclesTo 102 = .ok (.goto 4, 3) := by decide +kernel
theorem dX13_cyclesTo_105 : decode cX13_cyclesTo 105 = .ok (.iconst (-1), 1) := by decide +kernel
theorem dX13_cyclesTo_106 : decode cX13_cyclesTo 106 = .ok (.istore 5, 2) := by decide +kernel
theorem dX13_cyclesTo_108 : decode cX13_cyclesTo 108 = .ok (.aload_n 0, 1) := by decide +kernel
theorem dX13_cyclesTo_109 : decode cX13_cyclesTo 109 = .ok (.getfield 16, 3) := by decide +kernel
theorem dX13_cyclesTo_112 : decode cX13_cyclesTo 112 = .ok (.iconst 0, 1) := by decide +kernel
theorem dX13_cyclesTo_113 : decode cX13_cyclesTo 113 = .ok (.aload_n 0, 1) := by decide +kernel
theorem dX13_cyclesTo_114 : decode cX13_cyclesTo 114 = .ok (.getfield 9, 3) := by decide +kernel
theorem dX13_cyclesTo_117 : decode cX13_cyclesTo 117 = .ok (.iconst 0, 1) := by decide +kernel
theorem dX13_cyclesTo_118 : decode cX13_cyclesTo 118 = .ok (.invokestatic 441, 3) := by decide +kernel
theorem dX13_cyclesTo_121 : decode cX13_cyclesTo 121 = .ok (.iload 5, 2) := by decide +kernel
theorem dX13_cyclesTo_123 : decode cX13_cyclesTo 123 = .ok (.ireturn, 1) := by decide +kernel
set_option maxRecDepth 20000 in
theorem ggX13_period_X13_isPin : GoodIn wsX13_period wsX13_isPin := goodIn_r _ [7, 8, 9, 6, 10] (by decide +kernel) (by decide +kernel)
set_option maxRecDepth 20000 in
theorem gX13_period_X13_isPin : GoodIn wsX13_period (va_wsS RX13 255 yX13_isPin wsX13_isPin) := goodIn_app (goodIn_of _ (by decide +kernel)) ggX13_period_X13_isPin
set_option maxRecDepth 20000 in
theorem ggX13_period_X13_raise : GoodIn wsX13_period wsX13_raise := goodIn_r _ [14, 1, 223, 224, 225, 226, 227, 228, 229, 230, 231, 232, 233, 234, 235, 236, 237, 238, 239, 240, 241, 242, 243, 244, 245, 246, 247, 248, 249, 250, 251, 252, 253, 254, 255, 256, 257, 258, 259, 260, 261, 262, 263, 264, 265, 266, 267, 268, 269] (by decide +kernel) (by decide +kernel)
set_option maxRecDepth 20000 in
theorem gX13_period_X13_raise : GoodIn wsX13_period (wsV RX13 259 RX13 yX13_raise wsX13_raise) := goodIn_app (goodIn_of _ (by decide +kernel)) ggX13_period_X13_raise
set_option maxRecDepth 20000 in
theorem ggX13_period_X13_isLimit : GoodIn wsX13_period wsX13_isLimit := goodIn_r _ [17, 8, 9, 6, 10] (by decide +kernel) (by decide +kernel)
set_option maxRecDepth 20000 in
theorem gX13_period_X13_isLimit : GoodIn wsX13_period (va_wsS RX13 438 yX13_isLimit wsX13_isLimit) := goodIn_app (goodIn_of _ (by decide +kernel)) ggX13_period_X13_isLimit
set_option maxRecDepth 20000 in
theorem ggX13_period_X13_copy : GoodIn wsX13_period wsX13_copy := goodIn_r _ [20] (by decide +kernel) (by decide +kernel)
set_option maxRecDepth 20000 in
theorem gX13_period_X13_copy : GoodIn wsX13_period (va_wsS RX13 441 yX13_copy wsX13_copy) := goodIn_app (goodIn_of _ (by decide +kernel)) ggX13_period_X13_copy
set_option maxRecDepth 20000 in
theorem ggX13_period_X13_levelOf : GoodIn wsX13_period wsX13_levelOf := goodIn_r _ [24, 25, 26, 27, 6, 28, 2, 223, 224, 225, 226, 227, 228, 229, 230, 231, 232, 233, 234, 235, 236, 237, 238, 239, 240, 241, 242, 243, 244, 245, 246, 247, 248, 249, 250, 251, 252, 253, 254, 255, 256, 257, 258, 259, 260, 261, 262, 263, 264, 265, 266, 267, 268, 269] (by decide +kernel) (by decide +kernel)
set_option maxRecDepth 20000 in
theorem gX13_period_X13_levelOf : GoodIn wsX13_period (wsV RX13 262 RX13 yX13_levelOf wsX13_levelOf) := goodIn_app (goodIn_of _ (by decide +kernel)) ggX13_period_X13_levelOf
set_option maxRecDepth 20000 in
theorem ggX13_period_X13_passCycle : GoodIn wsX13_period wsX13_passCycle := goodIn_r _ [32, 33, 2, 34, 35, 36, 37, 38, 6, 39, 40, 41, 42, 43, 44, 45, 46, 47, 48, 49, 21, 22, 23, 24, 25, 26, 27, 28, 50, 51, 52, 53, 54, 55, 56, 57, 58, 59, 60, 61, 62, 63, 64, 65, 66, 67, 68, 69, 70, 71, 72, 73, 74, 75, 76, 77, 78, 79, 80, 81, 82, 83, 84, 85, 86, 87, 88, 89, 90, 91, 92, 93, 94, 95, 96, 97, 98, 99, 100, 101, 102, 103, 104, 105, 106, 107, 108, 109, 110, 111, 112, 113, 114, 115, 116, 117, 118, 119, 120, 121, 122, 123, 124, 125, 126, 127, 128, 129, 130, 131, 132, 133, 134, 135, 136, 137, 138, 139, 140, 141, 142, 143, 144, 145, 146, 147, 148, 149, 150, 151, 152, 153, 154, 155, 156, 157, 158, 159, 160, 161, 162, 163, 164, 165, 166, 167, 168, 169, 170, 171, 172, 173, 174, 175, 176, 177, 178, 179, 180, 181, 182, 183, 184, 185, 186, 187, 188, 189, 190, 191, 192, 193, 194, 195, 196, 197, 198, 199, 200, 201, 202, 203, 204, 205, 206, 207, 208, 209, 210, 211, 212, 213, 214, 215, 216, 217, 218, 219, 220, 221, 222, 223, 224, 225, 226, 227, 228, 229, 230, 231, 232, 233, 234, 235, 236, 237, 238, 239, 240, 241, 242, 243, 244, 245, 246, 247, 248, 249, 250, 251, 252, 253, 254, 255, 256, 257, 258, 259, 260, 261, 262, 263, 264, 265, 266, 267, 268, 269] (by decide +kernel) (by decide +kernel)
set_option maxRecDepth 20000 in
theorem gX13_period_X13_passCycle : GoodIn wsX13_period (wsV RX13 435 RX13 yX13_passCycle wsX13_passCycle) := goodIn_app (goodIn_of _ (by decide +kernel)) ggX13_period_X13_passCycle
theorem dX13_period_0 : decode cX13_period 0 = .ok (.aload_n 0, 1) := by decide +kernel
theorem dX13_period_1 : decode cX13_period 1 = .ok (.iconst 0, 1) := by decide +kernel
theorem dX13_period_2 : decode cX13_period 2 = .ok (.putfield 231, 3) := by decide +kernel
theorem dX13_period_5 : decode cX13_period 5 = .ok (.iload_n 1, 1) := by decide +kernel
theorem dX13_period_6 : decode cX13_period 6 = .ok (.invokestatic 255, 3) := by decide +kernel
theorem dX13_period_9 : decode cX13_period 9 = .ok (.ifCond .ne 9, 3) := by decide +kernel
theorem dX13_period_12 : decode cX13_period 12 = .ok (.aload_n 0, 1) := by decide +kernel
theorem dX13_period_13 : decode cX13_period 13 = .ok (.iconst 1, 1) := by decide +kernel
theorem dX13_period_14 : decode cX13_period 14 = .ok (.invokevirtual 259, 3) := by decide +kernel
theorem dX13_period_17 : decode cX13_period 17 = .ok (.ireturn, 1) := by decide +kernel
theorem dX13_period_18 : decode cX13_period 18 = .ok (.iload_n 2, 1) := by decide +kernel
theorem dX13_period_19 : decode cX13_period 19 = .ok (.invokestatic 438, 3) := by decide +kernel
theorem dX13_period_22 : decode cX13_period 22 = .ok (.ifCond .ne 9, 3) := by decide +kernel
theorem dX13_period_25 : decode cX13_period 25 = .ok (.aload_n 0, 1) := by decide +kernel
theorem dX13_period_26 : decode cX13_period 26 = .ok (.iconst 2, 1) := by decide +kernel
theorem dX13_period_27 : decode cX13_period 27 = .ok (.invokevirtual 259, 3) := by decide +kernel
theorem dX13_period_30 : decode cX13_period 30 = .ok (.ireturn, 1) := by decide +kernel
theorem dX13_period_31 : decode cX13_period 31 = .ok (.aload_n 0, 1) := by decide +kernel
theorem dX13_period_32 : decode cX13_period 32 = .ok (.getfield 9, 3) := by decide +kernel
theorem dX13_period_35 : decode cX13_period 35 = .ok (.iconst 0, 1) := by decide +kernel
theorem dX13_period_36 : decode cX13_period 36 = .ok (.aload_n 0, 1) := by decide +kernel
theorem dX13_period_37 : decode cX13_period 37 = .ok (.getfield 16, 3) := by decide +kernel
theorem dX13_period_40 : decode cX13_period 40 = .ok (.iconst 0, 1) := by decide +kernel
theorem dX13_period_41 : decode cX13_period 41 = .ok (.invokestatic 441, 3) := by decide +kernel
theorem dX13_period_44 : decode cX13_period 44 = .ok (.iconst (-1), 1) := by decide +kernel
theorem dX13_period_45 : decode cX13_period 45 = .ok (.istore_n 3, 1) := by decide +kernel
theorem dX13_period_46 : decode cX13_period 46 = .ok (.iconst (-1), 1) := by decide +kernel
theorem dX13_period_47 : decode cX13_period 47 = .ok (.istore 4, 2) := by decide +kernel
theorem dX13_period_49 : decode cX13_period 49 = .ok (.iconst 1, 1) := by decide +kernel
theorem dX13_period_50 : decode cX13_period 50 = .ok (.istore 5, 2) := by decide +kernel
theorem dX13_period_52 : decode cX13_period 52 = .ok (.iload 5, 2) := by decide +kernel
theorem dX13_period_54 : decode cX13_period 54 = .ok (.iload_n 2, 1) := by decide +kernel
theorem dX13_period_55 : decode cX13_period 55 = .ok (.if_icmp .gt 67, 3) := by decide +kernel
theorem dX13_period_58 : decode cX13_period 58 = .ok (.iload 4, 2) := by decide +kernel
theorem dX13_period_60 : decode cX13_period 60 = .ok (.iconst (-1), 1) := by decide +kernel
theorem dX13_period_61 : decode cX13_period 61 = .ok (.if_icmp .ne 61, 3) := by decide +kernel
theorem dX13_period_64 : decode cX13_period 64 = .ok (.aload_n 0, 1) := by decide +kernel
theorem dX13_period_65 : decode cX13_period 65 = .ok (.iload_n 1, 1) := by decide +kernel
theorem dX13_period_66 : decode cX13_period 66 = .ok (.invokevirtual 262, 3) := by decide +kernel
theorem dX13_period_69 : decode cX13_period 69 = .ok (.istore 6, 2) := by decide +kernel
theorem dX13_period_71 : decode cX13_period 71 = .ok (.aload_n 0, 1) := by decide +kernel
theorem dX13_period_72 : decode cX13_period 72 = .ok (.invokevirtual 435, 3) := by decide +kernel
theorem dX13_period_75 : decode cX13_period 75 = .ok (.iload 6, 2) := by decide +kernel
theorem dX13_period_77 : decode cX13_period 77 = .ok (.ifCond .ne 39, 3) := by decide +kernel
theorem dX13_period_80 : decode cX13_period 80 = .ok (.aload_n 0, 1) := by decide +kernel
theorem dX13_period_81 : decode cX13_period 81 = .ok (.iload_n 1, 1) := by decide +kernel
theorem dX13_period_82 : decode cX13_period 82 = .ok (.invokevirtual 262, 3) := by decide +kernel
theorem dX13_period_85 : decode cX13_period 85 = .ok (.iconst 1, 1) := by decide +kernel
theorem dX13_period_86 : decode cX13_period 86 = .ok (.if_icmp .ne 30, 3) := by decide +kernel
theorem dX13_period_89 : decode cX13_period 89 = .ok (.iload_n 3, 1) := by decide +kernel
theorem dX13_period_90 : decode cX13_period 90 = .ok (.iconst (-1), 1) := by decide +kernel
theorem dX13_period_91 : decode cX13_period 91 = .ok (.if_icmp .ne 7, 3) := by decide +kernel
theorem dX13_period_94 : decode cX13_period 94 = .ok (.iconst (-1), 1) := by decide +kernel
theorem dX13_period_95 : decode cX13_period 95 = .ok (.goto 7, 3) := by decide +kernel
theorem dX13_period_98 : decode cX13_period 98 = .ok (.iload 5, 2) := by decide +kernel
theorem dX13_period_100 : decode cX13_period 100 = .ok (.iload_n 3, 1) := by decide +kernel
theorem dX13_period_101 : decode cX13_period 101 = .ok (.isub, 1) := by decide +kernel
theorem dX13_period_102 : decode cX13_period 102 = .ok (.istore 4, 2) := by decide +kernel
theorem dX13_period_104 : decode cX13_period 104 = .ok (.iload_n 3, 1) := by decide +kernel
theorem dX13_period_105 : decode cX13_period 105 = .ok (.iconst (-1), 1) := by decide +kernel
theorem dX13_period_106 : decode cX13_period 106 = .ok (.if_icmp .ne 8, 3) := by decide +kernel
theorem dX13_period_109 : decode cX13_period 109 = .ok (.iload 5, 2) := by decide +kernel
theorem dX13_period_111 : decode cX13_period 111 = .ok (.goto 4, 3) := by decide +kernel
theorem dX13_period_114 : decode cX13_period 114 = .ok (.iload_n 3, 1) := by decide +kernel
theorem dX13_period_115 : decode cX13_period 115 = .ok (.istore_n 3, 1) := by decide +kernel
theorem dX13_period_116 : decode cX13_period 116 = .ok (.iinc 5 1, 3) := by decide +kernel
theorem dX13_period_119 : decode cX13_period 119 = .ok (.goto (-67), 3) := by decide +kernel
theorem dX13_period_122 : decode cX13_period 122 = .ok (.aload_n 0, 1) := by decide +kernel
theorem dX13_period_123 : decode cX13_period 123 = .ok (.getfield 16, 3) := by decide +kernel
theorem dX13_period_126 : decode cX13_period 126 = .ok (.iconst 0, 1) := by decide +kernel
theorem dX13_period_127 : decode cX13_period 127 = .ok (.aload_n 0, 1) := by decide +kernel
theorem dX13_period_128 : decode cX13_period 128 = .ok (.getfield 9, 3) := by decide +kernel
theorem dX13_period_131 : decode cX13_period 131 = .ok (.iconst 0, 1) := by decide +kernel
theorem dX13_period_132 : decode cX13_period 132 = .ok (.invokestatic 441, 3) := by decide +kernel
theorem dX13_period_135 : decode cX13_period 135 = .ok (.iload 4, 2) := by decide +kernel
theorem dX13_period_137 : decode cX13_period 137 = .ok (.ireturn, 1) := by decide +kernel
set_option maxRecDepth 20000 in
theorem ggX13_stuck_X13_isLimit : GoodIn wsX13_stuck wsX13_isLimit := goodIn_r _ [7, 8, 9, 6, 10] (by decide +kernel) (by decide +kernel)
set_option maxRecDepth 20000 in
theorem gX13_stuck_X13_isLimit : GoodIn wsX13_stuck (va_wsS RX13 438 yX13_isLimit wsX13_isLimit) := goodIn_app (goodIn_of _ (by decide +kernel)) ggX13_stuck_X13_isLimit
set_option maxRecDepth 20000 in
theorem ggX13_stuck_X13_raise : GoodIn wsX13_stuck wsX13_raise := goodIn_r _ [14, 1, 220, 221, 222, 223, 224, 225, 226, 227, 228, 229, 230, 231, 232, 233, 234, 235, 236, 237, 238, 239, 240, 241, 242, 243, 244, 245, 246, 247, 248, 249, 250, 251, 252, 253, 254, 255, 256, 257, 258, 259, 260, 261, 262, 263, 264, 265, 266] (by decide +kernel) (by decide +kernel)
set_option maxRecDepth 20000 in
theorem gX13_stuck_X13_raise : GoodIn wsX13_stuck (wsV RX13 259 RX13 yX13_raise wsX13_raise) := goodIn_app (goodIn_of _ (by decide +kernel)) ggX13_stuck_X13_raise
set_option maxRecDepth 20000 in
theorem ggX13_stuck_X13_copy : GoodIn wsX13_stuck wsX13_copy := goodIn_r _ [17] (by decide +kernel) (by decide +kernel)
set_option maxRecDepth 20000 in
theorem gX13_stuck_X13_copy : GoodIn wsX13_stuck (va_wsS RX13 441 yX13_copy wsX13_copy) := goodIn_app (goodIn_of _ (by decide +kernel)) ggX13_stuck_X13_copy
set_option maxRecDepth 20000 in
theorem ggX13_stuck_X13_passCycle : GoodIn wsX13_stuck wsX13_passCycle := goodIn_r _ [21, 22, 2, 23, 24, 25, 26, 27, 6, 28, 29, 30, 31, 32, 33, 34, 35, 36, 37, 38, 39, 40, 41, 42, 43, 44, 45, 46, 47, 48, 49, 50, 51, 52, 53, 54, 55, 56, 57, 58, 59, 60, 61, 62, 63, 64, 65, 66, 67, 68, 69, 70, 71, 72, 73, 74, 75, 76, 77, 78, 79, 80, 81, 82, 83, 84, 85, 86, 87, 88, 89, 90, 91, 92, 93, 94, 95, 96, 97, 98, 99, 100, 101, 102, 103, 104, 105, 106, 107, 108, 109, 110, 111, 112, 113, 114, 115, 116, 117, 118, 119, 120, 121, 122, 123, 124, 125, 126, 127, 128, 129, 130, 131, 132, 133, 134, 135, 136, 137, 138, 139, 140, 141, 142, 143, 144, 145, 146, 147, 148, 149, 150, 151, 152, 153, 154, 155, 156, 157, 158, 159, 160, 161, 162, 163, 164, 165, 166, 167, 168, 169, 170, 171, 172, 173, 174, 175, 176, 177, 178, 179, 180, 181, 182, 183, 184, 185, 186, 187, 188, 189, 190, 191, 192, 193, 194, 195, 196, 197, 198, 199, 200, 201, 202, 203, 204, 205, 206, 207, 208, 209, 210, 211, 212, 213, 214, 215, 216, 217, 218, 219, 220, 221, 222, 223, 224, 225, 226, 227, 228, 229, 230, 231, 232, 233, 234, 235, 236, 237, 238, 239, 240, 241, 242, 243, 244, 245, 246, 247, 248, 249, 250, 251, 252, 253, 254, 255, 256, 257, 258, 259, 260, 261, 262, 263, 264, 265, 266] (by decide +kernel) (by decide +kernel)
set_option maxRecDepth 20000 in
theorem gX13_stuck_X13_passCycle : GoodIn wsX13_stuck (wsV RX13 435 RX13 yX13_passCycle wsX13_passCycle) := goodIn_app (goodIn_of _ (by decide +kernel)) ggX13_stuck_X13_passCycle
set_option maxRecDepth 20000 in
theorem ggX13_stuck_X13_setting : GoodIn wsX13_stuck wsX13_setting := goodIn_r _ [56, 2, 220, 221, 222, 223, 224, 225, 226, 227, 228, 229, 230, 231, 232, 233, 234, 235, 236, 237, 238, 239, 240, 241, 242, 243, 244, 245, 246, 247, 248, 249, 250, 251, 252, 253, 254, 255, 256, 257, 258, 259, 260, 261, 262, 263, 264, 265, 266] (by decide +kernel) (by decide +kernel)
set_option maxRecDepth 20000 in
theorem gX13_stuck_X13_setting : GoodIn wsX13_stuck (wsV RX13 249 RX13 yX13_setting wsX13_setting) := goodIn_app (goodIn_of _ (by decide +kernel)) ggX13_stuck_X13_setting
set_option maxRecDepth 20000 in
theorem ggX13_stuck_X13_of : GoodIn wsX13_stuck wsX13_of := goodIn_r _ [60, 2, 220, 221, 222, 223, 224, 225, 226, 227, 228, 229, 230, 231, 232, 233, 234, 235, 236, 237, 238, 239, 240, 241, 242, 243, 244, 245, 246, 247, 248, 249, 250, 251, 252, 253, 254, 255, 256, 257, 258, 259, 260, 261, 262, 263, 264, 265, 266] (by decide +kernel) (by decide +kernel)
set_option maxRecDepth 20000 in
theorem gX13_stuck_X13_of : GoodIn wsX13_stuck (wsV RX13 238 RX13 yX13_of wsX13_of) := goodIn_app (goodIn_of _ (by decide +kernel)) ggX13_stuck_X13_of
theorem dX13_stuck_0 : decode cX13_stuck 0 = .ok (.aload_n 0, 1) := by decide +kernel
theorem dX13_stuck_1 : decode cX13_stuck 1 = .ok (.iconst 0, 1) := by decide +kernel
theorem dX13_stuck_2 : decode cX13_stuck 2 = .ok (.putfield 231, 3) := by decide +kernel
theorem dX13_stuck_5 : decode cX13_stuck 5 = .ok (.iload_n 1, 1) := by decide +kernel
theorem dX13_stuck_6 : decode cX13_stuck 6 = .ok (.invokestatic 438, 3) := by decide +kernel
theorem dX13_stuck_9 : decode cX13_stuck 9 = .ok (.ifCond .ne 9, 3) := by decide +kernel
theorem dX13_stuck_12 : decode cX13_stuck 12 = .ok (.aload_n 0, 1) := by decide +kernel
theorem dX13_stuck_13 : decode cX13_stuck 13 = .ok (.iconst 1, 1) := by decide +kernel
theorem dX13_stuck_14 : decode cX13_stuck 14 = .ok (.invokevirtual 259, 3) := by decide +kernel
theorem dX13_stuck_17 : decode cX13_stuck 17 = .ok (.ireturn, 1) := by decide +kernel
theorem dX13_stuck_18 : decode cX13_stuck 18 = .ok (.aload_n 0, 1) := by decide +kernel
theorem dX13_stuck_19 : decode cX13_stuck 19 = .ok (.getfield 9, 3) := by decide +kernel
theorem dX13_stuck_22 : decode cX13_stuck 22 = .ok (.iconst 0, 1) := by decide +kernel
theorem dX13_stuck_23 : decode cX13_stuck 23 = .ok (.aload_n 0, 1) := by decide +kernel
theorem dX13_stuck_24 : decode cX13_stuck 24 = .ok (.getfield 16, 3) := by decide +kernel
theorem dX13_stuck_27 : decode cX13_stuck 27 = .ok (.iconst 0, 1) := by decide +kernel
theorem dX13_stuck_28 : decode cX13_stuck 28 = .ok (.invokestatic 441, 3) := by decide +kernel
theorem dX13_stuck_31 : decode cX13_stuck 31 = .ok (.iconst 0, 1) := by decide +kernel
theorem dX13_stuck_32 : decode cX13_stuck 32 = .ok (.istore_n 2, 1) := by decide +kernel
theorem dX13_stuck_33 : decode cX13_stuck 33 = .ok (.iload_n 2, 1) := by decide +kernel
theorem dX13_stuck_34 : decode cX13_stuck 34 = .ok (.iload_n 1, 1) := by decide +kernel
theorem dX13_stuck_35 : decode cX13_stuck 35 = .ok (.if_icmp .ge 13, 3) := by decide +kernel
theorem dX13_stuck_38 : decode cX13_stuck 38 = .ok (.aload_n 0, 1) := by decide +kernel
theorem dX13_stuck_39 : decode cX13_stuck 39 = .ok (.invokevirtual 435, 3) := by decide +kernel
theorem dX13_stuck_42 : decode cX13_stuck 42 = .ok (.iinc 2 1, 3) := by decide +kernel
theorem dX13_stuck_45 : decode cX13_stuck 45 = .ok (.goto (-12), 3) := by decide +kernel
theorem dX13_stuck_48 : decode cX13_stuck 48 = .ok (.iconst 0, 1) := by decide +kernel
theorem dX13_stuck_49 : decode cX13_stuck 49 = .ok (.istore_n 2, 1) := by decide +kernel
theorem dX13_stuck_50 : decode cX13_stuck 50 = .ok (.iconst 0, 1) := by decide +kernel
theorem dX13_stuck_51 : decode cX13_stuck 51 = .ok (.istore_n 3, 1) := by decide +kernel
theorem dX13_stuck_52 : decode cX13_stuck 52 = .ok (.iload_n 3, 1) := by decide +kernel
theorem dX13_stuck_53 : decode cX13_stuck 53 = .ok (.iconst 4, 1) := by decide +kernel
theorem dX13_stuck_54 : decode cX13_stuck 54 = .ok (.if_icmp .ge 79, 3) := by decide +kernel
theorem dX13_stuck_57 : decode cX13_stuck 57 = .ok (.aload_n 0, 1) := by decide +kernel
theorem dX13_stuck_58 : decode cX13_stuck 58 = .ok (.iload_n 3, 1) := by decide +kernel
theorem dX13_stuck_59 : decode cX13_stuck 59 = .ok (.iconst 0, 1) := by decide +kernel
theorem dX13_stuck_60 : decode cX13_stuck 60 = .ok (.invokevirtual 249, 3) := by decide +kernel
theorem dX13_stuck_63 : decode cX13_stuck 63 = .ok (.iconst 1, 1) := by decide +kernel
theorem dX13_stuck_64 : decode cX13_stuck 64 = .ok (.if_icmp .ne 45, 3) := by decide +kernel
theorem dX13_stuck_67 : decode cX13_stuck 67 = .ok (.aload_n 0, 1) := by decide +kernel
theorem dX13_stuck_68 : decode cX13_stuck 68 = .ok (.iload_n 3, 1) := by decide +kernel
theorem dX13_stuck_69 : decode cX13_stuck 69 = .ok (.iconst 0, 1) := by decide +kernel
theorem dX13_stuck_70 : decode cX13_stuck 70 = .ok (.invokevirtual 238, 3) := by decide +kernel
theorem dX13_stuck_73 : decode cX13_stuck 73 = .ok (.iconst 1, 1) := by decide +kernel
theorem dX13_stuck_74 : decode cX13_stuck 74 = .ok (.if_icmp .ne 35, 3) := by decide +kernel
theorem dX13_stuck_77 : decode cX13_stuck 77 = .ok (.aload_n 0, 1) := by decide +kernel
theorem dX13_stuck_78 : decode cX13_stuck 78 = .ok (.iload_n 3, 1) := by decide +kernel
theorem dX13_stuck_79 : decode cX13_stuck 79 = .ok (.bipush 29, 2) := by decide +kernel
theorem dX13_stuck_81 : decode cX13_stuck 81 = .ok (.invokevirtual 238, 3) := by decide +kernel
theorem dX13_stuck_84 : decode cX13_stuck 84 = .ok (.aload_n 0, 1) := by decide +kernel
theorem dX13_stuck_85 : decode cX13_stuck 85 = .ok (.getfield 16, 3) := by decide +kernel
theorem dX13_stuck_88 : decode cX13_stuck 88 = .ok (.sipush 560, 3) := by decide +kernel
theorem dX13_stuck_91 : decode cX13_stuck 91 = .ok (.bipush 35, 2) := by decide +kernel
theorem dX13_stuck_93 : decode cX13_stuck 93 = .ok (.iload_n 3, 1) := by decide +kernel
theorem dX13_stuck_94 : decode cX13_stuck 94 = .ok (.imul, 1) := by decide +kernel
theorem dX13_stuck_95 : decode cX13_stuck 95 = .ok (.iadd, 1) := by decide +kernel
theorem dX13_stuck_96 : decode cX13_stuck 96 = .ok (.bipush 29, 2) := by decide +kernel
theorem dX13_stuck_98 : decode cX13_stuck 98 = .ok (.iadd, 1) := by decide +kernel
theorem dX13_stuck_99 : decode cX13_stuck 99 = .ok (.iconst 0, 1) := by decide +kernel
theorem dX13_stuck_100 : decode cX13_stuck 100 = .ok (.iadd, 1) := by decide +kernel
theorem dX13_stuck_101 : decode cX13_stuck 101 = .ok (.iaload, 1) := by decide +kernel
theorem dX13_stuck_102 : decode cX13_stuck 102 = .ok (.if_icmp .ne 7, 3) := by decide +kernel
theorem dX13_stuck_105 : decode cX13_stuck 105 = .ok (.iconst 1, 1) := by decide +kernel
theorem dX13_stuck_106 : decode cX13_stuck 106 = .ok (.goto 4, 3) := by decide +kernel
theorem dX13_stuck_109 : decode cX13_stuck 109 = .ok (.iconst 0, 1) := by decide +kernel
theorem dX13_stuck_110 : decode cX13_stuck 110 = .ok (.istore 4, 2) := by decide +kernel
theorem dX13_stuck_112 : decode cX13_stuck 112 = .ok (.iload_n 2, 1) := by decide +kernel
theorem dX13_stuck_113 : decode cX13_stuck 113 = .ok (.iload 4, 2) := by decide +kernel
theorem dX13_stuck_115 : decode cX13_stuck 115 = .ok (.ifCond .eq 9, 3) := by decide +kernel
theorem dX13_stuck_118 : decode cX13_stuck 118 = .ok (.iconst 1, 1) := by decide +kernel
theorem dX13_stuck_119 : decode cX13_stuck 119 = .ok (.iload_n 3, 1) := by decide +kernel
theorem dX13_stuck_120 : decode cX13_stuck 120 = .ok (.ishl, 1) := by decide +kernel
theorem dX13_stuck_121 : decode cX13_stuck 121 = .ok (.goto 4, 3) := by decide +kernel
theorem dX13_stuck_124 : decode cX13_stuck 124 = .ok (.iconst 0, 1) := by decide +kernel
theorem dX13_stuck_125 : decode cX13_stuck 125 = .ok (.ior, 1) := by decide +kernel
theorem dX13_stuck_126 : decode cX13_stuck 126 = .ok (.istore_n 2, 1) := by decide +kernel
theorem dX13_stuck_127 : decode cX13_stuck 127 = .ok (.iinc 3 1, 3) := by decide +kernel
theorem dX13_stuck_130 : decode cX13_stuck 130 = .ok (.goto (-78), 3) := by decide +kernel
theorem dX13_stuck_133 : decode cX13_stuck 133 = .ok (.aload_n 0, 1) := by decide +kernel
theorem dX13_stuck_134 : decode cX13_stuck 134 = .ok (.getfield 16, 3) := by decide +kernel
theorem dX13_stuck_137 : decode cX13_stuck 137 = .ok (.iconst 0, 1) := by decide +kernel
theorem dX13_stuck_138 : decode cX13_stuck 138 = .ok (.aload_n 0, 1) := by decide +kernel
theorem dX13_stuck_139 : decode cX13_stuck 139 = .ok (.getfield 9, 3) := by decide +kernel
theorem dX13_stuck_142 : decode cX13_stuck 142 = .ok (.iconst 0, 1) := by decide +kernel
theorem dX13_stuck_143 : decode cX13_stuck 143 = .ok (.invokestatic 441, 3) := by decide +kernel
theorem dX13_stuck_146 : decode cX13_stuck 146 = .ok (.iload_n 2, 1) := by decide +kernel
theorem dX13_stuck_147 : decode cX13_stuck 147 = .ok (.ireturn, 1) := by decide +kernel
set_option maxRecDepth 20000 in
theorem ggX13_divider_X13_inRange : GoodIn wsX13_divider wsX13_inRange := goodIn_r _ [18] (by decide +kernel) (by decide +kernel)
set_option maxRecDepth 20000 in
theorem gX13_divider_X13_inRange : GoodIn wsX13_divider (va_wsS RX13 245 yX13_inRange wsX13_inRange) := goodIn_app (goodIn_of _ (by decide +kernel)) ggX13_divider_X13_inRange
set_option maxRecDepth 20000 in
theorem ggX13_divider_X13_raise : GoodIn wsX13_divider wsX13_raise := goodIn_r _ [22, 1, 23, 24, 25, 26, 27, 28, 29, 30, 31, 32, 33, 34, 35, 36, 37, 38, 39, 40, 41, 42, 43, 44, 45, 46, 47, 48, 49, 50, 51, 52, 53, 54, 55, 56, 57, 58, 59, 60, 61, 62, 63, 64, 65, 66, 67, 68, 69] (by decide +kernel) (by decide +kernel)
set_option maxRecDepth 20000 in
theorem gX13_divider_X13_raise : GoodIn wsX13_divider (wsV RX13 259 RX13 yX13_raise wsX13_raise) := goodIn_app (goodIn_of _ (by decide +kernel)) ggX13_divider_X13_raise
theorem dX13_divider_0 : decode cX13_divider 0 = .ok (.aload_n 0, 1) := by decide +kernel
theorem dX13_divider_1 : decode cX13_divider 1 = .ok (.iconst 0, 1) := by decide +kernel
theorem dX13_divider_2 : decode cX13_divider 2 = .ok (.putfield 231, 3) := by decide +kernel
theorem dX13_divider_5 : decode cX13_divider 5 = .ok (.iload_n 1, 1) := by decide +kernel
theorem dX13_divider_6 : decode cX13_divider 6 = .ok (.iconst 1, 1) := by decide +kernel
theorem dX13_divider_7 : decode cX13_divider 7 = .ok (.ldc_w 430, 3) := by decide +kernel
theorem dX13_divider_10 : decode cX13_divider 10 = .ok (.invokestatic 245, 3) := by decide +kernel
theorem dX13_divider_13 : decode cX13_divider 13 = .ok (.ifCond .eq 14, 3) := by decide +kernel
theorem dX13_divider_16 : decode cX13_divider 16 = .ok (.iload_n 2, 1) := by decide +kernel
theorem dX13_divider_17 : decode cX13_divider 17 = .ok (.iconst 1, 1) := by decide +kernel
theorem dX13_divider_18 : decode cX13_divider 18 = .ok (.ldc_w 430, 3) := by decide +kernel
theorem dX13_divider_21 : decode cX13_divider 21 = .ok (.invokestatic 245, 3) := by decide +kernel
theorem dX13_divider_24 : decode cX13_divider 24 = .ok (.ifCond .ne 9, 3) := by decide +kernel
theorem dX13_divider_27 : decode cX13_divider 27 = .ok (.aload_n 0, 1) := by decide +kernel
theorem dX13_divider_28 : decode cX13_divider 28 = .ok (.iconst 1, 1) := by decide +kernel
theorem dX13_divider_29 : decode cX13_divider 29 = .ok (.invokevirtual 259, 3) := by decide +kernel
theorem dX13_divider_32 : decode cX13_divider 32 = .ok (.ireturn, 1) := by decide +kernel
theorem dX13_divider_33 : decode cX13_divider 33 = .ok (.ldc2_w 445, 3) := by decide +kernel
theorem dX13_divider_36 : decode cX13_divider 36 = .ok (.iload_n 1, 1) := by decide +kernel
theorem dX13_divider_37 : decode cX13_divider 37 = .ok (.i2l, 1) := by decide +kernel
theorem dX13_divider_38 : decode cX13_divider 38 = .ok (.lmul, 1) := by decide +kernel
theorem dX13_divider_39 : decode cX13_divider 39 = .ok (.lstore_n 3, 1) := by decide +kernel
theorem dX13_divider_40 : decode cX13_divider 40 = .ok (.ldc2_w 445, 3) := by decide +kernel
theorem dX13_divider_43 : decode cX13_divider 43 = .ok (.ldc2_w 447, 3) := by decide +kernel
theorem dX13_divider_46 : decode cX13_divider 46 = .ok (.lload_n 3, 1) := by decide +kernel
theorem dX13_divider_47 : decode cX13_divider 47 = .ok (.iload_n 2, 1) := by decide +kernel
theorem dX13_divider_48 : decode cX13_divider 48 = .ok (.i2l, 1) := by decide +kernel
theorem dX13_divider_49 : decode cX13_divider 49 = .ok (.ldiv, 1) := by decide +kernel
theorem dX13_divider_50 : decode cX13_divider 50 = .ok (.invokestatic 449, 3) := by decide +kernel
theorem dX13_divider_53 : decode cX13_divider 53 = .ok (.invokestatic 452, 3) := by decide +kernel
theorem dX13_divider_56 : decode cX13_divider 56 = .ok (.lstore 5, 2) := by decide +kernel
theorem dX13_divider_58 : decode cX13_divider 58 = .ok (.ldc2_w 447, 3) := by decide +kernel
theorem dX13_divider_61 : decode cX13_divider 61 = .ok (.lload 5, 2) := by decide +kernel
theorem dX13_divider_63 : decode cX13_divider 63 = .ok (.lconst 1, 1) := by decide +kernel
theorem dX13_divider_64 : decode cX13_divider 64 = .ok (.ladd, 1) := by decide +kernel
theorem dX13_divider_65 : decode cX13_divider 65 = .ok (.invokestatic 449, 3) := by decide +kernel
theorem dX13_divider_68 : decode cX13_divider 68 = .ok (.lstore 7, 2) := by decide +kernel
theorem dX13_divider_70 : decode cX13_divider 70 = .ok (.lload 5, 2) := by decide +kernel
theorem dX13_divider_72 : decode cX13_divider 72 = .ok (.iload_n 2, 1) := by decide +kernel
theorem dX13_divider_73 : decode cX13_divider 73 = .ok (.i2l, 1) := by decide +kernel
theorem dX13_divider_74 : decode cX13_divider 74 = .ok (.lmul, 1) := by decide +kernel
theorem dX13_divider_75 : decode cX13_divider 75 = .ok (.lload_n 3, 1) := by decide +kernel
theorem dX13_divider_76 : decode cX13_divider 76 = .ok (.lsub, 1) := by decide +kernel
theorem dX13_divider_77 : decode cX13_divider 77 = .ok (.invokestatic 455, 3) := by decide +kernel
theorem dX13_divider_80 : decode cX13_divider 80 = .ok (.lstore 9, 2) := by decide +kernel
theorem dX13_divider_82 : decode cX13_divider 82 = .ok (.lload 7, 2) := by decide +kernel
theorem dX13_divider_84 : decode cX13_divider 84 = .ok (.iload_n 2, 1) := by decide +kernel
theorem dX13_divider_85 : decode cX13_divider 85 = .ok (.i2l, 1) := by decide +kernel
theorem dX13_divider_86 : decode cX13_divider 86 = .ok (.lmul, 1) := by decide +kernel
theorem dX13_divider_87 : decode cX13_divider 87 = .ok (.lload_n 3, 1) := by decide +kernel
theorem dX13_divider_88 : decode cX13_divider 88 = .ok (.lsub, 1) := by decide +kernel
theorem dX13_divider_89 : decode cX13_divider 89 = .ok (.invokestatic 455, 3) := by decide +kernel
theorem dX13_divider_92 : decode cX13_divider 92 = .ok (.lstore 11, 2) := by decide +kernel
theorem dX13_divider_94 : decode cX13_divider 94 = .ok (.lload 11, 2) := by decide +kernel
theorem dX13_divider_96 : decode cX13_divider 96 = .ok (.lload 9, 2) := by decide +kernel
theorem dX13_divider_98 : decode cX13_divider 98 = .ok (.lcmp, 1) := by decide +kernel
theorem dX13_divider_99 : decode cX13_divider 99 = .ok (.ifCond .ge 8, 3) := by decide +kernel
theorem dX13_divider_102 : decode cX13_divider 102 = .ok (.lload 7, 2) := by decide +kernel
theorem dX13_divider_104 : decode cX13_divider 104 = .ok (.goto 5, 3) := by decide +kernel
theorem dX13_divider_107 : decode cX13_divider 107 = .ok (.lload 5, 2) := by decide +kernel
theorem dX13_divider_109 : decode cX13_divider 109 = .ok (.l2i, 1) := by decide +kernel
theorem dX13_divider_110 : decode cX13_divider 110 = .ok (.ireturn, 1) := by decide +kernel
theorem dX13_copy_0 : decode cX13_copy 0 = .ok (.iconst 0, 1) := by decide +kernel
theorem dX13_copy_1 : decode cX13_copy 1 = .ok (.istore 4, 2) := by decide +kernel
theorem dX13_copy_3 : decode cX13_copy 3 = .ok (.iload 4, 2) := by decide +kernel
theorem dX13_copy_5 : decode cX13_copy 5 = .ok (.sipush 700, 3) := by decide +kernel
theorem dX13_copy_8 : decode cX13_copy 8 = .ok (.if_icmp .ge 29, 3) := by decide +kernel
theorem dX13_copy_11 : decode cX13_copy 11 = .ok (.aload_n 2, 1) := by decide +kernel
theorem dX13_copy_12 : decode cX13_copy 12 = .ok (.sipush 700, 3) := by decide +kernel
theorem dX13_copy_15 : decode cX13_copy 15 = .ok (.iload_n 3, 1) := by decide +kernel
theorem dX13_copy_16 : decode cX13_copy 16 = .ok (.imul, 1) := by decide +kernel
theorem dX13_copy_17 : decode cX13_copy 17 = .ok (.iload 4, 2) := by decide +kernel
theorem dX13_copy_19 : decode cX13_copy 19 = .ok (.iadd, 1) := by decide +kernel
theorem dX13_copy_20 : decode cX13_copy 20 = .ok (.aload_n 0, 1) := by decide +kernel
theorem dX13_copy_21 : decode cX13_copy 21 = .ok (.sipush 700, 3) := by decide +kernel
theorem dX13_copy_24 : decode cX13_copy 24 = .ok (.iload_n 1, 1) := by decide +kernel
theorem dX13_copy_25 : decode cX13_copy 25 = .ok (.imul, 1) := by decide +kernel
theorem dX13_copy_26 : decode cX13_copy 26 = .ok (.iload 4, 2) := by decide +kernel
theorem dX13_copy_28 : decode cX13_copy 28 = .ok (.iadd, 1) := by decide +kernel
theorem dX13_copy_29 : decode cX13_copy 29 = .ok (.iaload, 1) := by decide +kernel
theorem dX13_copy_30 : decode cX13_copy 30 = .ok (.iastore, 1) := by decide +kernel
theorem dX13_copy_31 : decode cX13_copy 31 = .ok (.iinc 4 1, 3) := by decide +kernel
theorem dX13_copy_34 : decode cX13_copy 34 = .ok (.goto (-31), 3) := by decide +kernel
theorem dX13_copy_37 : decode cX13_copy 37 = .ok (.return_, 1) := by decide +kernel
set_option maxRecDepth 20000 in
theorem ggX13_record_X13_copy : GoodIn wsX13_record wsX13_copy := goodIn_r _ [7] (by decide +kernel) (by decide +kernel)
set_option maxRecDepth 20000 in
theorem gX13_record_X13_copy : GoodIn wsX13_record (va_wsS RX13 441 yX13_copy wsX13_copy) := goodIn_app (goodIn_of _ (by decide +kernel)) ggX13_record_X13_copy
theorem dX13_record_0 : decode cX13_record 0 = .ok (.aload_n 0, 1) := by decide +kernel
theorem dX13_record_1 : decode cX13_record 1 = .ok (.getfield 459, 3) := by decide +kernel
theorem dX13_record_4 : decode cX13_record 4 = .ok (.bipush 10, 2) := by decide +kernel
theorem dX13_record_6 : decode cX13_record 6 = .ok (.if_icmp .ne 42, 3) := by decide +kernel
theorem dX13_record_9 : decode cX13_record 9 = .ok (.iconst 1, 1) := by decide +kernel
theorem dX13_record_10 : decode cX13_record 10 = .ok (.istore_n 1, 1) := by decide +kernel
theorem dX13_record_11 : decode cX13_record 11 = .ok (.iload_n 1, 1) := by decide +kernel
theorem dX13_record_12 : decode cX13_record 12 = .ok (.bipush 10, 2) := by decide +kernel
theorem dX13_record_14 : decode cX13_record 14 = .ok (.if_icmp .ge 24, 3) := by decide +kernel
theorem dX13_record_17 : decode cX13_record 17 = .ok (.aload_n 0, 1) := by decide +kernel
theorem dX13_record_18 : decode cX13_record 18 = .ok (.getfield 22, 3) := by decide +kernel
theorem dX13_record_21 : decode cX13_record 21 = .ok (.iload_n 1, 1) := by decide +kernel
theorem dX13_record_22 : decode cX13_record 22 = .ok (.aload_n 0, 1) := by decide +kernel
theorem dX13_record_23 : decode cX13_record 23 = .ok (.getfield 22, 3) := by decide +kernel
theorem dX13_record_26 : decode cX13_record 26 = .ok (.iload_n 1, 1) := by decide +kernel
theorem dX13_record_27 : decode cX13_record 27 = .ok (.iconst 1, 1) := by decide +kernel
theorem dX13_record_28 : decode cX13_record 28 = .ok (.isub, 1) := by decide +kernel
theorem dX13_record_29 : decode cX13_record 29 = .ok (.invokestatic 441, 3) := by decide +kernel
theorem dX13_record_32 : decode cX13_record 32 = .ok (.iinc 1 1, 3) := by decide +kernel
theorem dX13_record_35 : decode cX13_record 35 = .ok (.goto (-24), 3) := by decide +kernel
theorem dX13_record_38 : decode cX13_record 38 = .ok (.aload_n 0, 1) := by decide +kernel
theorem dX13_record_39 : decode cX13_record 39 = .ok (.dup, 1) := by decide +kernel
theorem dX13_record_40 : decode cX13_record 40 = .ok (.getfield 459, 3) := by decide +kernel
theorem dX13_record_43 : decode cX13_record 43 = .ok (.iconst 1, 1) := by decide +kernel
theorem dX13_record_44 : decode cX13_record 44 = .ok (.isub, 1) := by decide +kernel
theorem dX13_record_45 : decode cX13_record 45 = .ok (.putfield 459, 3) := by decide +kernel
theorem dX13_record_48 : decode cX13_record 48 = .ok (.aload_n 0, 1) := by decide +kernel
theorem dX13_record_49 : decode cX13_record 49 = .ok (.getfield 9, 3) := by decide +kernel
theorem dX13_record_52 : decode cX13_record 52 = .ok (.iconst 0, 1) := by decide +kernel
theorem dX13_record_53 : decode cX13_record 53 = .ok (.aload_n 0, 1) := by decide +kernel
theorem dX13_record_54 : decode cX13_record 54 = .ok (.getfield 22, 3) := by decide +kernel
theorem dX13_record_57 : decode cX13_record 57 = .ok (.aload_n 0, 1) := by decide +kernel
theorem dX13_record_58 : decode cX13_record 58 = .ok (.getfield 459, 3) := by decide +kernel
theorem dX13_record_61 : decode cX13_record 61 = .ok (.invokestatic 441, 3) := by decide +kernel
theorem dX13_record_64 : decode cX13_record 64 = .ok (.aload_n 0, 1) := by decide +kernel
theorem dX13_record_65 : decode cX13_record 65 = .ok (.dup, 1) := by decide +kernel
theorem dX13_record_66 : decode cX13_record 66 = .ok (.getfield 459, 3) := by decide +kernel
theorem dX13_record_69 : decode cX13_record 69 = .ok (.iconst 1, 1) := by decide +kernel
theorem dX13_record_70 : decode cX13_record 70 = .ok (.iadd, 1) := by decide +kernel
theorem dX13_record_71 : decode cX13_record 71 = .ok (.putfield 459, 3) := by decide +kernel
theorem dX13_record_74 : decode cX13_record 74 = .ok (.return_, 1) := by decide +kernel
theorem dX13_undoCount_0 : decode cX13_undoCount 0 = .ok (.aload_n 0, 1) := by decide +kernel
theorem dX13_undoCount_1 : decode cX13_undoCount 1 = .ok (.iconst 0, 1) := by decide +kernel
theorem dX13_undoCount_2 : decode cX13_undoCount 2 = .ok (.putfield 231, 3) := by decide +kernel
theorem dX13_undoCount_5 : decode cX13_undoCount 5 = .ok (.aload_n 0, 1) := by decide +kernel
theorem dX13_undoCount_6 : decode cX13_undoCount 6 = .ok (.getfield 459, 3) := by decide +kernel
theorem dX13_undoCount_9 : decode cX13_undoCount 9 = .ok (.ireturn, 1) := by decide +kernel
set_option maxRecDepth 20000 in
theorem ggX13_undo_X13_copy : GoodIn wsX13_undo wsX13_copy := goodIn_r _ [8] (by decide +kernel) (by decide +kernel)
set_option maxRecDepth 20000 in
theorem gX13_undo_X13_copy : GoodIn wsX13_undo (va_wsS RX13 441 yX13_copy wsX13_copy) := goodIn_app (goodIn_of _ (by decide +kernel)) ggX13_undo_X13_copy
theorem dX13_undo_0 : decode cX13_undo 0 = .ok (.aload_n 0, 1) := by decide +kernel
theorem dX13_undo_1 : decode cX13_undo 1 = .ok (.iconst 0, 1) := by decide +kernel
theorem dX13_undo_2 : decode cX13_undo 2 = .ok (.putfield 231, 3) := by decide +kernel
theorem dX13_undo_5 : decode cX13_undo 5 = .ok (.aload_n 0, 1) := by decide +kernel
theorem dX13_undo_6 : decode cX13_undo 6 = .ok (.getfield 459, 3) := by decide +kernel
theorem dX13_undo_9 : decode cX13_undo 9 = .ok (.ifCond .ne 5, 3) := by decide +kernel
theorem dX13_undo_12 : decode cX13_undo 12 = .ok (.iconst (-1), 1) := by decide +kernel
theorem dX13_undo_13 : decode cX13_undo 13 = .ok (.ireturn, 1) := by decide +kernel
theorem dX13_undo_14 : decode cX13_undo 14 = .ok (.aload_n 0, 1) := by decide +kernel
theorem dX13_undo_15 : decode cX13_undo 15 = .ok (.dup, 1) := by decide +kernel
theorem dX13_undo_16 : decode cX13_undo 16 = .ok (.getfield 459, 3) := by decide +kernel
theorem dX13_undo_19 : decode cX13_undo 19 = .ok (.iconst 1, 1) := by decide +kernel
theorem dX13_undo_20 : decode cX13_undo 20 = .ok (.isub, 1) := by decide +kernel
theorem dX13_undo_21 : decode cX13_undo 21 = .ok (.putfield 459, 3) := by decide +kernel
theorem dX13_undo_24 : decode cX13_undo 24 = .ok (.aload_n 0, 1) := by decide +kernel
theorem dX13_undo_25 : decode cX13_undo 25 = .ok (.getfield 22, 3) := by decide +kernel
theorem dX13_undo_28 : decode cX13_undo 28 = .ok (.aload_n 0, 1) := by decide +kernel
theorem dX13_undo_29 : decode cX13_undo 29 = .ok (.getfield 459, 3) := by decide +kernel
theorem dX13_undo_32 : decode cX13_undo 32 = .ok (.aload_n 0, 1) := by decide +kernel
theorem dX13_undo_33 : decode cX13_undo 33 = .ok (.getfield 9, 3) := by decide +kernel
theorem dX13_undo_36 : decode cX13_undo 36 = .ok (.iconst 0, 1) := by decide +kernel
theorem dX13_undo_37 : decode cX13_undo 37 = .ok (.invokestatic 441, 3) := by decide +kernel
theorem dX13_undo_40 : decode cX13_undo 40 = .ok (.aload_n 0, 1) := by decide +kernel
theorem dX13_undo_41 : decode cX13_undo 41 = .ok (.getfield 459, 3) := by decide +kernel
theorem dX13_undo_44 : decode cX13_undo 44 = .ok (.ireturn, 1) := by decide +kernel
set_option maxRecDepth 20000 in
theorem ggX13_saveSnapshot_X13_copy : GoodIn wsX13_saveSnapshot wsX13_copy := goodIn_r _ [8] (by decide +kernel) (by decide +kernel)
set_option maxRecDepth 20000 in
theorem gX13_saveSnapshot_X13_copy : GoodIn wsX13_saveSnapshot (va_wsS RX13 441 yX13_copy wsX13_copy) := goodIn_app (goodIn_of _ (by decide +kernel)) ggX13_saveSnapshot_X13_copy
theorem dX13_saveSnapshot_0 : decode cX13_saveSnapshot 0 = .ok (.aload_n 0, 1) := by decide +kernel
theorem dX13_saveSnapshot_1 : decode cX13_saveSnapshot 1 = .ok (.iconst 0, 1) := by decide +kernel
theorem dX13_saveSnapshot_2 : decode cX13_saveSnapshot 2 = .ok (.putfield 231, 3) := by decide +kernel
theorem dX13_saveSnapshot_5 : decode cX13_saveSnapshot 5 = .ok (.aload_n 0, 1) := by decide +kernel
theorem dX13_saveSnapshot_6 : decode cX13_saveSnapshot 6 = .ok (.getfield 9, 3) := by decide +kernel
theorem dX13_saveSnapshot_9 : decode cX13_saveSnapshot 9 = .ok (.iconst 0, 1) := by decide +kernel
theorem dX13_saveSnapshot_10 : decode cX13_saveSnapshot 10 = .ok (.aload_n 0, 1) := by decide +kernel
theorem dX13_saveSnapshot_11 : decode cX13_saveSnapshot 11 = .ok (.getfield 19, 3) := by decide +kernel
theorem dX13_saveSnapshot_14 : decode cX13_saveSnapshot 14 = .ok (.iconst 0, 1) := by decide +kernel
theorem dX13_saveSnapshot_15 : decode cX13_saveSnapshot 15 = .ok (.invokestatic 441, 3) := by decide +kernel
theorem dX13_saveSnapshot_18 : decode cX13_saveSnapshot 18 = .ok (.aload_n 0, 1) := by decide +kernel
theorem dX13_saveSnapshot_19 : decode cX13_saveSnapshot 19 = .ok (.iconst 1, 1) := by decide +kernel
theorem dX13_saveSnapshot_20 : decode cX13_saveSnapshot 20 = .ok (.putfield 462, 3) := by decide +kernel
theorem dX13_saveSnapshot_23 : decode cX13_saveSnapshot 23 = .ok (.return_, 1) := by decide +kernel
set_option maxRecDepth 20000 in
theorem ggX13_restoreSnapshot_X13_copy : GoodIn wsX13_restoreSnapshot wsX13_copy := goodIn_r _ [9] (by decide +kernel) (by decide +kernel)
set_option maxRecDepth 20000 in
theorem gX13_restoreSnapshot_X13_copy : GoodIn wsX13_restoreSnapshot (va_wsS RX13 441 yX13_copy wsX13_copy) := goodIn_app (goodIn_of _ (by decide +kernel)) ggX13_restoreSnapshot_X13_copy
theorem dX13_restoreSnapshot_0 : decode cX13_restoreSnapshot 0 = .ok (.aload_n 0, 1) := by decide +kernel
theorem dX13_restoreSnapshot_1 : decode cX13_restoreSnapshot 1 = .ok (.iconst 0, 1) := by decide +kernel
theorem dX13_restoreSnapshot_2 : decode cX13_restoreSnapshot 2 = .ok (.putfield 231, 3) := by decide +kernel
theorem dX13_restoreSnapshot_5 : decode cX13_restoreSnapshot 5 = .ok (.aload_n 0, 1) := by decide +kernel
theorem dX13_restoreSnapshot_6 : decode cX13_restoreSnapshot 6 = .ok (.getfield 462, 3) := by decide +kernel
theorem dX13_restoreSnapshot_9 : decode cX13_restoreSnapshot 9 = .ok (.ifCond .ne 5, 3) := by decide +kernel
theorem dX13_restoreSnapshot_12 : decode cX13_restoreSnapshot 12 = .ok (.iconst 0, 1) := by decide +kernel
theorem dX13_restoreSnapshot_13 : decode cX13_restoreSnapshot 13 = .ok (.ireturn, 1) := by decide +kernel
theorem dX13_restoreSnapshot_14 : decode cX13_restoreSnapshot 14 = .ok (.aload_n 0, 1) := by decide +kernel
theorem dX13_restoreSnapshot_15 : decode cX13_restoreSnapshot 15 = .ok (.getfield 19, 3) := by decide +kernel
theorem dX13_restoreSnapshot_18 : decode cX13_restoreSnapshot 18 = .ok (.iconst 0, 1) := by decide +kernel
theorem dX13_restoreSnapshot_19 : decode cX13_restoreSnapshot 19 = .ok (.aload_n 0, 1) := by decide +kernel
theorem dX13_restoreSnapshot_20 : decode cX13_restoreSnapshot 20 = .ok (.getfield 9, 3) := by decide +kernel
theorem dX13_restoreSnapshot_23 : decode cX13_restoreSnapshot 23 = .ok (.iconst 0, 1) := by decide +kernel
theorem dX13_restoreSnapshot_24 : decode cX13_restoreSnapshot 24 = .ok (.invokestatic 441, 3) := by decide +kernel
theorem dX13_restoreSnapshot_27 : decode cX13_restoreSnapshot 27 = .ok (.aload_n 0, 1) := by decide +kernel
theorem dX13_restoreSnapshot_28 : decode cX13_restoreSnapshot 28 = .ok (.iconst 0, 1) := by decide +kernel
theorem dX13_restoreSnapshot_29 : decode cX13_restoreSnapshot 29 = .ok (.putfield 459, 3) := by decide +kernel
theorem dX13_restoreSnapshot_32 : decode cX13_restoreSnapshot 32 = .ok (.iconst 1, 1) := by decide +kernel
theorem dX13_restoreSnapshot_33 : decode cX13_restoreSnapshot 33 = .ok (.ireturn, 1) := by decide +kernel
theorem dX13_feed_0 : decode cX13_feed 0 = .ok (.aload_n 0, 1) := by decide +kernel
theorem dX13_feed_1 : decode cX13_feed 1 = .ok (.iconst 0, 1) := by decide +kernel
theorem dX13_feed_2 : decode cX13_feed 2 = .ok (.putfield 231, 3) := by decide +kernel
theorem dX13_feed_5 : decode cX13_feed 5 = .ok (.aload_n 0, 1) := by decide +kernel
theorem dX13_feed_6 : decode cX13_feed 6 = .ok (.getfield 466, 3) := by decide +kernel
theorem dX13_feed_9 : decode cX13_feed 9 = .ok (.bipush 20, 2) := by decide +kernel
theorem dX13_feed_11 : decode cX13_feed 11 = .ok (.iadd, 1) := by decide +kernel
theorem dX13_feed_12 : decode cX13_feed 12 = .ok (.sipush 1000, 3) := by decide +kernel
theorem dX13_feed_15 : decode cX13_feed 15 = .ok (.if_icmp .le 5, 3) := by decide +kernel
theorem dX13_feed_18 : decode cX13_feed 18 = .ok (.iconst (-1), 1) := by decide +kernel
theorem dX13_feed_19 : decode cX13_feed 19 = .ok (.ireturn, 1) := by decide +kernel
theorem dX13_feed_20 : decode cX13_feed 20 = .ok (.iconst 0, 1) := by decide +kernel
theorem dX13_feed_21 : decode cX13_feed 21 = .ok (.istore 6, 2) := by decide +kernel
theorem dX13_feed_23 : decode cX13_feed 23 = .ok (.iload 6, 2) := by decide +kernel
theorem dX13_feed_25 : decode cX13_feed 25 = .ok (.bipush 20, 2) := by decide +kernel
theorem dX13_feed_27 : decode cX13_feed 27 = .ok (.if_icmp .ge 93, 3) := by decide +kernel
theorem dX13_feed_30 : decode cX13_feed 30 = .ok (.iload 6, 2) := by decide +kernel
theorem dX13_feed_32 : decode cX13_feed 32 = .ok (.iconst 4, 1) := by decide +kernel
theorem dX13_feed_33 : decode cX13_feed 33 = .ok (.if_icmp .ge 7, 3) := by decide +kernel
theorem dX13_feed_36 : decode cX13_feed 36 = .ok (.iload_n 1, 1) := by decide +kernel
theorem dX13_feed_37 : decode cX13_feed 37 = .ok (.goto 39, 3) := by decide +kernel
theorem dX13_feed_40 : decode cX13_feed 40 = .ok (.iload 6, 2) := by decide +kernel
theorem dX13_feed_42 : decode cX13_feed 42 = .ok (.bipush 8, 2) := by decide +kernel
theorem dX13_feed_44 : decode cX13_feed 44 = .ok (.if_icmp .ge 7, 3) := by decide +kernel
theorem dX13_feed_47 : decode cX13_feed 47 = .ok (.iload_n 2, 1) := by decide +kernel
theorem dX13_feed_48 : decode cX13_feed 48 = .ok (.goto 28, 3) := by decide +kernel
theorem dX13_feed_51 : decode cX13_feed 51 = .ok (.iload 6, 2) := by decide +kernel
theorem dX13_feed_53 : decode cX13_feed 53 = .ok (.bipush 12, 2) := by decide +kernel
theorem dX13_feed_55 : decode cX13_feed 55 = .ok (.if_icmp .ge 7, 3) := by decide +kernel
theorem dX13_feed_58 : decode cX13_feed 58 = .ok (.iload_n 3, 1) := by decide +kernel
theorem dX13_feed_59 : decode cX13_feed 59 = .ok (.goto 17, 3) := by decide +kernel
theorem dX13_feed_62 : decode cX13_feed 62 = .ok (.iload 6, 2) := by decide +kernel
theorem dX13_feed_64 : decode cX13_feed 64 = .ok (.bipush 16, 2) := by decide +kernel
theorem dX13_feed_66 : decode cX13_feed 66 = .ok (.if_icmp .ge 8, 3) := by decide +kernel
theorem dX13_feed_69 : decode cX13_feed 69 = .ok (.iload 4, 2) := by decide +kernel
theorem dX13_feed_71 : decode cX13_feed 71 = .ok (.goto 5, 3) := by decide +kernel
theorem dX13_feed_74 : decode cX13_feed 74 = .ok (.iload 5, 2) := by decide +kernel
theorem dX13_feed_76 : decode cX13_feed 76 = .ok (.istore 7, 2) := by decide +kernel
theorem dX13_feed_78 : decode cX13_feed 78 = .ok (.aload_n 0, 1) := by decide +kernel
theorem dX13_feed_79 : decode cX13_feed 79 = .ok (.getfield 50, 3) := by decide +kernel
theorem dX13_feed_82 : decode cX13_feed 82 = .ok (.aload_n 0, 1) := by decide +kernel
theorem dX13_feed_83 : decode cX13_feed 83 = .ok (.getfield 466, 3) := by decide +kernel
theorem dX13_feed_86 : decode cX13_feed 86 = .ok (.iload 7, 2) := by decide +kernel
theorem dX13_feed_88 : decode cX13_feed 88 = .ok (.bipush 24, 2) := by decide +kernel
theorem dX13_feed_90 : decode cX13_feed 90 = .ok (.bipush 8, 2) := by decide +kernel
theorem dX13_feed_92 : decode cX13_feed 92 = .ok (.iload 6, 2) := by decide +kernel
theorem dX13_feed_94 : decode cX13_feed 94 = .ok (.iconst 4, 1) := by decide +kernel
theorem dX13_feed_95 : decode cX13_feed 95 = .ok (.irem, 1) := by decide +kernel
theorem dX13_feed_96 : decode cX13_feed 96 = .ok (.imul, 1) := by decide +kernel
theorem dX13_feed_97 : decode cX13_feed 97 = .ok (.isub, 1) := by decide +kernel
theorem dX13_feed_98 : decode cX13_feed 98 = .ok (.ishr, 1) := by decide +kernel
theorem dX13_feed_99 : decode cX13_feed 99 = .ok (.sipush 255, 3) := by decide +kernel
theorem dX13_feed_102 : decode cX13_feed 102 = .ok (.iand, 1) := by decide +kernel
theorem dX13_feed_103 : decode cX13_feed 103 = .ok (.iastore, 1) := by decide +kernel
theorem dX13_feed_104 : decode cX13_feed 104 = .ok (.aload_n 0, 1) := by decide +kernel
theorem dX13_feed_105 : decode cX13_feed 105 = .ok (.dup, 1) := by decide +kernel
theorem dX13_feed_106 : decode cX13_feed 106 = .ok (.getfield 466, 3) := by decide +kernel
theorem dX13_feed_109 : decode cX13_feed 109 = .ok (.iconst 1, 1) := by decide +kernel
theorem dX13_feed_110 : decode cX13_feed 110 = .ok (.iadd, 1) := by decide +kernel
theorem dX13_feed_111 : decode cX13_feed 111 = .ok (.putfield 466, 3) := by decide +kernel
theorem dX13_feed_114 : decode cX13_feed 114 = .ok (.iinc 6 1, 3) := by decide +kernel
theorem dX13_feed_117 : decode cX13_feed 117 = .ok (.goto (-94), 3) := by decide +kernel
theorem dX13_feed_120 : decode cX13_feed 120 = .ok (.aload_n 0, 1) := by decide +kernel
theorem dX13_feed_121 : decode cX13_feed 121 = .ok (.getfield 466, 3) := by decide +kernel
theorem dX13_feed_124 : decode cX13_feed 124 = .ok (.ireturn, 1) := by decide +kernel
theorem dX13_errorPosition_0 : decode cX13_errorPosition 0 = .ok (.aload_n 0, 1) := by decide +kernel
theorem dX13_errorPosition_1 : decode cX13_errorPosition 1 = .ok (.iconst 0, 1) := by decide +kernel
theorem dX13_errorPosition_2 : decode cX13_errorPosition 2 = .ok (.putfield 231, 3) := by decide +kernel
theorem dX13_errorPosition_5 : decode cX13_errorPosition 5 = .ok (.aload_n 0, 1) := by decide +kernel
theorem dX13_errorPosition_6 : decode cX13_errorPosition 6 = .ok (.getfield 53, 3) := by decide +kernel
theorem dX13_errorPosition_9 : decode cX13_errorPosition 9 = .ok (.ireturn, 1) := by decide +kernel
theorem dX13_byteAt_0 : decode cX13_byteAt 0 = .ok (.iload_n 1, 1) := by decide +kernel
theorem dX13_byteAt_1 : decode cX13_byteAt 1 = .ok (.aload_n 0, 1) := by decide +kernel
theorem dX13_byteAt_2 : decode cX13_byteAt 2 = .ok (.getfield 469, 3) := by decide +kernel
theorem dX13_byteAt_5 : decode cX13_byteAt 5 = .ok (.if_icmp .ge 12, 3) := by decide +kernel
theorem dX13_byteAt_8 : decode cX13_byteAt 8 = .ok (.aload_n 0, 1) := by decide +kernel
theorem dX13_byteAt_9 : decode cX13_byteAt 9 = .ok (.getfield 50, 3) := by decide +kernel
theorem dX13_byteAt_12 : decode cX13_byteAt 12 = .ok (.iload_n 1, 1) := by decide +kernel
theorem dX13_byteAt_13 : decode cX13_byteAt 13 = .ok (.iaload, 1) := by decide +kernel
theorem dX13_byteAt_14 : decode cX13_byteAt 14 = .ok (.goto 4, 3) := by decide +kernel
theorem dX13_byteAt_17 : decode cX13_byteAt 17 = .ok (.iconst (-1), 1) := by decide +kernel
theorem dX13_byteAt_18 : decode cX13_byteAt 18 = .ok (.ireturn, 1) := by decide +kernel
set_option maxRecDepth 20000 in
theorem ggX13_isLetter_X13_byteAt : GoodIn wsX13_isLetter wsX13_byteAt := goodIn_r _ [5, 6, 7, 8, 9, 10, 11, 12, 13, 14, 15, 16, 17, 18, 19, 20, 21, 22, 23, 24, 25, 26, 27, 28, 29, 30, 31, 32, 33, 34, 35, 36, 37, 38, 39, 40, 41, 42, 43, 44, 45, 46, 47, 48, 49, 50, 51, 52, 53, 54] (by decide +kernel) (by decide +kernel)
set_option maxRecDepth 20000 in
theorem gX13_isLetter_X13_byteAt : GoodIn wsX13_isLetter (wsV RX13 472 RX13 yX13_byteAt wsX13_byteAt) := goodIn_app (goodIn_of _ (by decide +kernel)) ggX13_isLetter_X13_byteAt
theorem dX13_isLetter_0 : decode cX13_isLetter 0 = .ok (.aload_n 0, 1) := by decide +kernel
theorem dX13_isLetter_1 : decode cX13_isLetter 1 = .ok (.iload_n 1, 1) := by decide +kernel
theorem dX13_isLetter_2 : decode cX13_isLetter 2 = .ok (.invokevirtual 472, 3) := by decide +kernel
theorem dX13_isLetter_5 : decode cX13_isLetter 5 = .ok (.bipush 97, 2) := by decide +kernel
theorem dX13_isLetter_7 : decode cX13_isLetter 7 = .ok (.if_icmp .lt 17, 3) := by decide +kernel
theorem dX13_isLetter_10 : decode cX13_isLetter 10 = .ok (.aload_n 0, 1) := by decide +kernel
theorem dX13_isLetter_11 : decode cX13_isLetter 11 = .ok (.iload_n 1, 1) := by decide +kernel
theorem dX13_isLetter_12 : decode cX13_isLetter 12 = .ok (.invokevirtual 472, 3) := by decide +kernel
theorem dX13_isLetter_15 : decode cX13_isLetter 15 = .ok (.bipush 122, 2) := by decide +kernel
theorem dX13_isLetter_17 : decode cX13_isLetter 17 = .ok (.if_icmp .gt 7, 3) := by decide +kernel
theorem dX13_isLetter_20 : decode cX13_isLetter 20 = .ok (.iconst 1, 1) := by decide +kernel
theorem dX13_isLetter_21 : decode cX13_isLetter 21 = .ok (.goto 4, 3) := by decide +kernel
theorem dX13_isLetter_24 : decode cX13_isLetter 24 = .ok (.iconst 0, 1) := by decide +kernel
theorem dX13_isLetter_25 : decode cX13_isLetter 25 = .ok (.ireturn, 1) := by decide +kernel
set_option maxRecDepth 20000 in
theorem ggX13_isDigit_X13_byteAt : GoodIn wsX13_isDigit wsX13_byteAt := goodIn_r _ [5, 6, 7, 8, 9, 10, 11, 12, 13, 14, 15, 16, 17, 18, 19, 20, 21, 22, 23, 24, 25, 26, 27, 28, 29, 30, 31, 32, 33, 34, 35, 36, 37, 38, 39, 40, 41, 42, 43, 44, 45, 46, 47, 48, 49, 50, 51, 52, 53, 54] (by decide +kernel) (by decide +kernel)
set_option maxRecDepth 20000 in
theorem gX13_isDigit_X13_byteAt : GoodIn wsX13_isDigit (wsV RX13 472 RX13 yX13_byteAt wsX13_byteAt) := goodIn_app (goodIn_of _ (by decide +kernel)) ggX13_isDigit_X13_byteAt
theorem dX13_isDigit_0 : decode cX13_isDigit 0 = .ok (.aload_n 0, 1) := by decide +kernel
theorem dX13_isDigit_1 : decode cX13_isDigit 1 = .ok (.iload_n 1, 1) := by decide +kernel
theorem dX13_isDigit_2 : decode cX13_isDigit 2 = .ok (.invokevirtual 472, 3) := by decide +kernel
theorem dX13_isDigit_5 : decode cX13_isDigit 5 = .ok (.bipush 48, 2) := by decide +kernel
theorem dX13_isDigit_7 : decode cX13_isDigit 7 = .ok (.if_icmp .lt 17, 3) := by decide +kernel
theorem dX13_isDigit_10 : decode cX13_isDigit 10 = .ok (.aload_n 0, 1) := by decide +kernel
theorem dX13_isDigit_11 : decode cX13_isDigit 11 = .ok (.iload_n 1, 1) := by decide +kernel
theorem dX13_isDigit_12 : decode cX13_isDigit 12 = .ok (.invokevirtual 472, 3) := by decide +kernel
theorem dX13_isDigit_15 : decode cX13_isDigit 15 = .ok (.bipush 57, 2) := by decide +kernel
theorem dX13_isDigit_17 : decode cX13_isDigit 17 = .ok (.if_icmp .gt 7, 3) := by decide +kernel
theorem dX13_isDigit_20 : decode cX13_isDigit 20 = .ok (.iconst 1, 1) := by decide +kernel
theorem dX13_isDigit_21 : decode cX13_isDigit 21 = .ok (.goto 4, 3) := by decide +kernel
theorem dX13_isDigit_24 : decode cX13_isDigit 24 = .ok (.iconst 0, 1) := by decide +kernel
theorem dX13_isDigit_25 : decode cX13_isDigit 25 = .ok (.ireturn, 1) := by decide +kernel
set_option maxRecDepth 20000 in
theorem ggX13_scan_X13_byteAt : GoodIn wsX13_scan wsX13_byteAt := goodIn_r _ [9, 3, 10, 19, 20, 21, 22, 23, 24, 25, 26, 27, 28, 29, 30, 31, 32, 33, 34, 35, 36, 37, 38, 39, 40, 41, 42, 43, 44, 45, 46, 47, 48, 49, 50, 51, 52, 53, 54, 55, 56, 57, 58, 59, 60, 61, 62, 63, 64, 65] (by decide +kernel) (by decide +kernel)
set_option maxRecDepth 20000 in
theorem gX13_scan_X13_byteAt : GoodIn wsX13_scan (wsV RX13 472 RX13 yX13_byteAt wsX13_byteAt) := goodIn_app (goodIn_of _ (by decide +kernel)) ggX13_scan_X13_byteAt
set_option maxRecDepth 20000 in
theorem ggX13_scan_X13_isLetter : GoodIn wsX13_scan wsX13_isLetter := goodIn_r _ [14, 5, 6, 7, 8, 9, 3, 10, 19, 20, 21, 22, 23, 24, 25, 26, 27, 28, 29, 30, 31, 32, 33, 34, 35, 36, 37, 38, 39, 40, 41, 42, 43, 44, 45, 46, 47, 48, 49, 50, 51, 52, 53, 54, 55, 56, 57, 58, 59, 60, 61, 62, 63, 64, 65] (by decide +kernel) (by decide +kernel)
set_option maxRecDepth 20000 in
theorem gX13_scan_X13_isLetter : GoodIn wsX13_scan (wsV RX13 484 RX13 yX13_isLetter wsX13_isLetter) := goodIn_app (goodIn_of _ (by decide +kernel)) ggX13_scan_X13_isLetter
set_option maxRecDepth 20000 in
theorem ggX13_scan_X13_isDigit : GoodIn wsX13_scan wsX13_isDigit := goodIn_r _ [18, 5, 6, 7, 8, 9, 3, 10, 19, 20, 21, 22, 23, 24, 25, 26, 27, 28, 29, 30, 31, 32, 33, 34, 35, 36, 37, 38, 39, 40, 41, 42, 43, 44, 45, 46, 47, 48, 49, 50, 51, 52, 53, 54, 55, 56, 57, 58, 59, 60, 61, 62, 63, 64, 65] (by decide +kernel) (by decide +kernel)
set_option maxRecDepth 20000 in
theorem gX13_scan_X13_isDigit : GoodIn wsX13_scan (wsV RX13 487 RX13 yX13_isDigit wsX13_isDigit) := goodIn_app (goodIn_of _ (by decide +kernel)) ggX13_scan_X13_isDigit
theorem dX13_scan_0 : decode cX13_scan 0 = .ok (.aload_n 0, 1) := by decide +kernel
theorem dX13_scan_1 : decode cX13_scan 1 = .ok (.aload_n 0, 1) := by decide +kernel
theorem dX13_scan_2 : decode cX13_scan 2 = .ok (.getfield 475, 3) := by decide +kernel
theorem dX13_scan_5 : decode cX13_scan 5 = .ok (.invokevirtual 472, 3) := by decide +kernel
theorem dX13_scan_8 : decode cX13_scan 8 = .ok (.bipush 32, 2) := by decide +kernel
theorem dX13_scan_10 : decode cX13_scan 10 = .ok (.if_icmp .eq 16, 3) := by decide +kernel
theorem dX13_scan_13 : decode cX13_scan 13 = .ok (.aload_n 0, 1) := by decide +kernel
theorem dX13_scan_14 : decode cX13_scan 14 = .ok (.aload_n 0, 1) := by decide +kernel
theorem dX13_scan_15 : decode cX13_scan 15 = .ok (.getfield 475, 3) := by decide +kernel
theorem dX13_scan_18 : decode cX13_scan 18 = .ok (.invokevirtual 472, 3) := by decide +kernel
theorem dX13_scan_21 : decode cX13_scan 21 = .ok (.bipush 10, 2) := by decide +kernel
theorem dX13_scan_23 : decode cX13_scan 23 = .ok (.if_icmp .ne 16, 3) := by decide +kernel
theorem dX13_scan_26 : decode cX13_scan 26 = .ok (.aload_n 0, 1) := by decide +kernel
theorem dX13_scan_27 : decode cX13_scan 27 = .ok (.dup, 1) := by decide +kernel
theorem dX13_scan_28 : decode cX13_scan 28 = .ok (.getfield 475, 3) := by decide +kernel
theorem dX13_scan_31 : decode cX13_scan 31 = .ok (.iconst 1, 1) := by decide +kernel
theorem dX13_scan_32 : decode cX13_scan 32 = .ok (.iadd, 1) := by decide +kernel
theorem dX13_scan_33 : decode cX13_scan 33 = .ok (.putfield 475, 3) := by decide +kernel
theorem dX13_scan_36 : decode cX13_scan 36 = .ok (.goto (-36), 3) := by decide +kernel
theorem dX13_scan_39 : decode cX13_scan 39 = .ok (.aload_n 0, 1) := by decide +kernel
theorem dX13_scan_40 : decode cX13_scan 40 = .ok (.aload_n 0, 1) := by decide +kernel
theorem dX13_scan_41 : decode cX13_scan 41 = .ok (.getfield 475, 3) := by decide +kernel
theorem dX13_scan_44 : decode cX13_scan 44 = .ok (.putfield 478, 3) := by decide +kernel
theorem dX13_scan_47 : decode cX13_scan 47 = .ok (.aload_n 0, 1) := by decide +kernel
theorem dX13_scan_48 : decode cX13_scan 48 = .ok (.getfield 475, 3) := by decide +kernel
theorem dX13_scan_51 : decode cX13_scan 51 = .ok (.aload_n 0, 1) := by decide +kernel
theorem dX13_scan_52 : decode cX13_scan 52 = .ok (.getfield 469, 3) := by decide +kernel
theorem dX13_scan_55 : decode cX13_scan 55 = .ok (.if_icmp .lt 11, 3) := by decide +kernel
theorem dX13_scan_58 : decode cX13_scan 58 = .ok (.aload_n 0, 1) := by decide +kernel
theorem dX13_scan_59 : decode cX13_scan 59 = .ok (.iconst 0, 1) := by decide +kernel
theorem dX13_scan_60 : decode cX13_scan 60 = .ok (.putfield 481, 3) := by decide +kernel
theorem dX13_scan_63 : decode cX13_scan 63 = .ok (.goto 104, 3) := by decide +kernel
theorem dX13_scan_66 : decode cX13_scan 66 = .ok (.aload_n 0, 1) := by decide +kernel
theorem dX13_scan_67 : decode cX13_scan 67 = .ok (.aload_n 0, 1) := by decide +kernel
theorem dX13_scan_68 : decode cX13_scan 68 = .ok (.getfield 475, 3) := by decide +kernel
theorem dX13_scan_71 : decode cX13_scan 71 = .ok (.invokevirtual 484, 3) := by decide +kernel
theorem dX13_scan_74 : decode cX13_scan 74 = .ok (.ifCond .eq 35, 3) := by decide +kernel
theorem dX13_scan_77 : decode cX13_scan 77 = .ok (.aload_n 0, 1) := by decide +kernel
theorem dX13_scan_78 : decode cX13_scan 78 = .ok (.aload_n 0, 1) := by decide +kernel
theorem dX13_scan_79 : decode cX13_scan 79 = .ok (.getfield 475, 3) := by decide +kernel
theorem dX13_scan_82 : decode cX13_scan 82 = .ok (.invokevirtual 484, 3) := by decide +kernel
theorem dX13_scan_85 : decode cX13_scan 85 = .ok (.ifCond .eq 16, 3) := by decide +kernel
theorem dX13_scan_88 : decode cX13_scan 88 = .ok (.aload_n 0, 1) := by decide +kernel
theorem dX13_scan_89 : decode cX13_scan 89 = .ok (.dup, 1) := by decide +kernel
theorem dX13_scan_90 : decode cX13_scan 90 = .ok (.getfield 475, 3) := by decide +kernel
theorem dX13_scan_93 : decode cX13_scan 93 = .ok (.iconst 1, 1) := by decide +kernel
theorem dX13_scan_94 : decode cX13_scan 94 = .ok (.iadd, 1) := by decide +kernel
theorem dX13_scan_95 : decode cX13_scan 95 = .ok (.putfield 475, 3) := by decide +kernel
theorem dX13_scan_98 : decode cX13_scan 98 = .ok (.goto (-21), 3) := by decide +kernel
theorem dX13_scan_101 : decode cX13_scan 101 = .ok (.aload_n 0, 1) := by decide +kernel
theorem dX13_scan_102 : decode cX13_scan 102 = .ok (.iconst 1, 1) := by decide +kernel
theorem dX13_scan_103 : decode cX13_scan 103 = .ok (.putfield 481, 3) := by decide +kernel
theorem dX13_scan_106 : decode cX13_scan 106 = .ok (.goto 61, 3) := by decide +kernel
theorem dX13_scan_109 : decode cX13_scan 109 = .ok (.aload_n 0, 1) := by decide +kernel
theorem dX13_scan_110 : decode cX13_scan 110 = .ok (.aload_n 0, 1) := by decide +kernel
theorem dX13_scan_111 : decode cX13_scan 111 = .ok (.getfield 475, 3) := by decide +kernel
theorem dX13_scan_114 : decode cX13_scan 114 = .ok (.invokevirtual 487, 3) := by decide +kernel
theorem dX13_scan_117 : decode cX13_scan 117 = .ok (.ifCond .eq 35, 3) := by decide +kernel
theorem dX13_scan_120 : decode cX13_scan 120 = .ok (.aload_n 0, 1) := by decide +kernel
theorem dX13_scan_121 : decode cX13_scan 121 = .ok (.aload_n 0, 1) := by decide +kernel
theorem dX13_scan_122 : decode cX13_scan 122 = .ok (.getfield 475, 3) := by decide +kernel
theorem dX13_scan_125 : decode cX13_scan 125 = .ok (.invokevirtual 487, 3) := by decide +kernel
theorem dX13_scan_128 : decode cX13_scan 128 = .ok (.ifCond .eq 16, 3) := by decide +kernel
theorem dX13_scan_131 : decode cX13_scan 131 = .ok (.aload_n 0, 1) := by decide +kernel
theorem dX13_scan_132 : decode cX13_scan 132 = .ok (.dup, 1) := by decide +kernel
theorem dX13_scan_133 : decode cX13_scan 133 = .ok (.getfield 475, 3) := by decide +kernel
theorem dX13_scan_136 : decode cX13_scan 136 = .ok (.iconst 1, 1) := by decide +kernel
theorem dX13_scan_137 : decode cX13_scan 137 = .ok (.iadd, 1) := by decide +kernel
theorem dX13_scan_138 : decode cX13_scan 138 = .ok (.putfield 475, 3) := by decide +kernel
theorem dX13_scan_141 : decode cX13_scan 141 = .ok (.goto (-21), 3) := by decide +kernel
theorem dX13_scan_144 : decode cX13_scan 144 = .ok (.aload_n 0, 1) := by decide +kernel
theorem dX13_scan_145 : decode cX13_scan 145 = .ok (.iconst 2, 1) := by decide +kernel
theorem dX13_scan_146 : decode cX13_scan 146 = .ok (.putfield 481, 3) := by decide +kernel
theorem dX13_scan_149 : decode cX13_scan 149 = .ok (.goto 18, 3) := by decide +kernel
theorem dX13_scan_152 : decode cX13_scan 152 = .ok (.aload_n 0, 1) := by decide +kernel
theorem dX13_scan_153 : decode cX13_scan 153 = .ok (.dup, 1) := by decide +kernel
theorem dX13_scan_154 : decode cX13_scan 154 = .ok (.getfield 475, 3) := by decide +kernel
theorem dX13_scan_157 : decode cX13_scan 157 = .ok (.iconst 1, 1) := by decide +kernel
theorem dX13_scan_158 : decode cX13_scan 158 = .ok (.iadd, 1) := by decide +kernel
theorem dX13_scan_159 : decode cX13_scan 159 = .ok (.putfield 475, 3) := by decide +kernel
theorem dX13_scan_162 : decode cX13_scan 162 = .ok (.aload_n 0, 1) := by decide +kernel
theorem dX13_scan_163 : decode cX13_scan 163 = .ok (.iconst 3, 1) := by decide +kernel
theorem dX13_scan_164 : decode cX13_scan 164 = .ok (.putfield 481, 3) := by decide +kernel
theorem dX13_scan_167 : decode cX13_scan 167 = .ok (.return_, 1) := by decide +kernel
set_option maxRecDepth 20000 in
theorem ggX13_startText_X13_scan : GoodIn wsX13_startText wsX13_scan := goodIn_r _ [9, 2, 10, 1, 11, 12, 13, 14, 8, 15, 16, 17, 18, 19, 20, 21, 22, 23, 24, 25, 26, 27, 28, 29, 30, 31, 32, 33, 34, 35, 36, 37, 38, 39, 40, 41, 42, 43, 44, 45, 46, 47, 48, 49, 50, 51, 52, 53, 54, 55, 56, 57, 58, 59, 60, 61, 62, 63, 64, 65, 66, 67, 68, 69, 70, 71] (by decide +kernel) (by decide +kernel)
set_option maxRecDepth 20000 in
theorem gX13_startText_X13_scan : GoodIn wsX13_startText (wsV RX13 496 RX13 yX13_scan wsX13_scan) := goodIn_app (goodIn_of _ (by decide +kernel)) ggX13_startText_X13_scan
theorem dX13_startText_0 : decode cX13_startText 0 = .ok (.aload_n 0, 1) := by decide +kernel
theorem dX13_startText_1 : decode cX13_startText 1 = .ok (.iload_n 1, 1) := by decide +kernel
theorem dX13_startText_2 : decode cX13_startText 2 = .ok (.putfield 469, 3) := by decide +kernel
theorem dX13_startText_5 : decode cX13_startText 5 = .ok (.aload_n 0, 1) := by decide +kernel
theorem dX13_startText_6 : decode cX13_startText 6 = .ok (.iconst 0, 1) := by decide +kernel
theorem dX13_startText_7 : decode cX13_startText 7 = .ok (.putfield 475, 3) := by decide +kernel
theorem dX13_startText_10 : decode cX13_startText 10 = .ok (.aload_n 0, 1) := by decide +kernel
theorem dX13_startText_11 : decode cX13_startText 11 = .ok (.iconst 0, 1) := by decide +kernel
theorem dX13_startText_12 : decode cX13_startText 12 = .ok (.putfield 490, 3) := by decide +kernel
theorem dX13_startText_15 : decode cX13_startText 15 = .ok (.aload_n 0, 1) := by decide +kernel
theorem dX13_startText_16 : decode cX13_startText 16 = .ok (.iconst 0, 1) := by decide +kernel
theorem dX13_startText_17 : decode cX13_startText 17 = .ok (.putfield 493, 3) := by decide +kernel
theorem dX13_startText_20 : decode cX13_startText 20 = .ok (.aload_n 0, 1) := by decide +kernel
theorem dX13_startText_21 : decode cX13_startText 21 = .ok (.invokevirtual 496, 3) := by decide +kernel
theorem dX13_startText_24 : decode cX13_startText 24 = .ok (.return_, 1) := by decide +kernel
theorem dX13_finish_0 : decode cX13_finish 0 = .ok (.aload_n 0, 1) := by decide +kernel
theorem dX13_finish_1 : decode cX13_finish 1 = .ok (.iconst 0, 1) := by decide +kernel
theorem dX13_finish_2 : decode cX13_finish 2 = .ok (.putfield 466, 3) := by decide +kernel
theorem dX13_finish_5 : decode cX13_finish 5 = .ok (.aload_n 0, 1) := by decide +kernel
theorem dX13_finish_6 : decode cX13_finish 6 = .ok (.aload_n 0, 1) := by decide +kernel
theorem dX13_finish_7 : decode cX13_finish 7 = .ok (.getfield 490, 3) := by decide +kernel
theorem dX13_finish_10 : decode cX13_finish 10 = .ok (.ifCond .ne 7, 3) := by decide +kernel
theorem dX13_finish_13 : decode cX13_finish 13 = .ok (.iconst (-1), 1) := by decide +kernel
theorem dX13_finish_14 : decode cX13_finish 14 = .ok (.goto 7, 3) := by decide +kernel
theorem dX13_finish_17 : decode cX13_finish 17 = .ok (.aload_n 0, 1) := by decide +kernel
theorem dX13_finish_18 : decode cX13_finish 18 = .ok (.getfield 499, 3) := by decide +kernel
theorem dX13_finish_21 : decode cX13_finish 21 = .ok (.putfield 53, 3) := by decide +kernel
theorem dX13_finish_24 : decode cX13_finish 24 = .ok (.aload_n 0, 1) := by decide +kernel
theorem dX13_finish_25 : decode cX13_finish 25 = .ok (.getfield 490, 3) := by decide +kernel
theorem dX13_finish_28 : decode cX13_finish 28 = .ok (.ireturn, 1) := by decide +kernel
theorem dX13_fail_0 : decode cX13_fail 0 = .ok (.aload_n 0, 1) := by decide +kernel
theorem dX13_fail_1 : decode cX13_fail 1 = .ok (.getfield 490, 3) := by decide +kernel
theorem dX13_fail_4 : decode cX13_fail 4 = .ok (.ifCond .ne 16, 3) := by decide +kernel
theorem dX13_fail_7 : decode cX13_fail 7 = .ok (.aload_n 0, 1) := by decide +kernel
theorem dX13_fail_8 : decode cX13_fail 8 = .ok (.iload_n 1, 1) := by decide +kernel
theorem dX13_fail_9 : decode cX13_fail 9 = .ok (.putfield 490, 3) := by decide +kernel
theorem dX13_fail_12 : decode cX13_fail 12 = .ok (.aload_n 0, 1) := by decide +kernel
theorem dX13_fail_13 : decode cX13_fail 13 = .ok (.aload_n 0, 1) := by decide +kernel
theorem dX13_fail_14 : decode cX13_fail 14 = .ok (.getfield 478, 3) := by decide +kernel
theorem dX13_fail_17 : decode cX13_fail 17 = .ok (.putfield 499, 3) := by decide +kernel
theorem dX13_fail_20 : decode cX13_fail 20 = .ok (.return_, 1) := by decide +kernel
set_option maxRecDepth 20000 in
theorem ggX13_check_X13_fail : GoodIn wsX13_check wsX13_fail := goodIn_r _ [5, 6, 7, 8, 9, 10, 11, 12, 13, 14, 15, 16, 17, 18, 19, 20, 21, 22, 23, 24, 25, 26, 27, 28, 29, 30, 31, 32, 33, 34, 35, 36, 37, 38, 39, 40, 41, 42, 43, 44, 45, 46, 47, 48, 49, 50, 51, 52, 53, 54, 55] (by decide +kernel) (by decide +kernel)
set_option maxRecDepth 20000 in
theorem gX13_check_X13_fail : GoodIn wsX13_check (wsV RX13 502 RX13 yX13_fail wsX13_fail) := goodIn_app (goodIn_of _ (by decide +kernel)) ggX13_check_X13_fail
theorem dX13_check_0 : decode cX13_check 0 = .ok (.iload_n 1, 1) := by decide +kernel
theorem dX13_check_1 : decode cX13_check 1 = .ok (.ifCond .ne 8, 3) := by decide +kernel
theorem dX13_check_4 : decode cX13_check 4 = .ok (.aload_n 0, 1) := by decide +kernel
theorem dX13_check_5 : decode cX13_check 5 = .ok (.iload_n 2, 1) := by decide +kernel
theorem dX13_check_6 : decode cX13_check 6 = .ok (.invokevirtual 502, 3) := by decide +kernel
theorem dX13_check_9 : decode cX13_check 9 = .ok (.return_, 1) := by decide +kernel
set_option maxRecDepth 20000 in
theorem ggX13_advance_X13_scan : GoodIn wsX13_advance wsX13_scan := goodIn_r _ [6, 7, 8, 9, 10, 11, 12, 13, 5, 14, 15, 16, 17, 18, 19, 20, 21, 22, 23, 24, 25, 26, 27, 28, 29, 30, 31, 32, 33, 34, 35, 36, 37, 38, 39, 40, 41, 42, 43, 44, 45, 46, 47, 48, 49, 50, 51, 52, 53, 54, 55, 56, 57, 58, 59, 60, 61, 62, 63, 64, 65, 66, 67, 68, 69, 70] (by decide +kernel) (by decide +kernel)
set_option maxRecDepth 20000 in
theorem gX13_advance_X13_scan : GoodIn wsX13_advance (wsV RX13 496 RX13 yX13_scan wsX13_scan) := goodIn_app (goodIn_of _ (by decide +kernel)) ggX13_advance_X13_scan
theorem dX13_advance_0 : decode cX13_advance 0 = .ok (.aload_n 0, 1) := by decide +kernel
theorem dX13_advance_1 : decode cX13_advance 1 = .ok (.getfield 490, 3) := by decide +kernel
theorem dX13_advance_4 : decode cX13_advance 4 = .ok (.ifCond .ne 7, 3) := by decide +kernel
theorem dX13_advance_7 : decode cX13_advance 7 = .ok (.aload_n 0, 1) := by decide +kernel
theorem dX13_advance_8 : decode cX13_advance 8 = .ok (.invokevirtual 496, 3) := by decide +kernel
theorem dX13_advance_11 : decode cX13_advance 11 = .ok (.return_, 1) := by decide +kernel
theorem dX13_isSymbol_0 : decode cX13_isSymbol 0 = .ok (.aload_n 0, 1) := by decide +kernel
theorem dX13_isSymbol_1 : decode cX13_isSymbol 1 = .ok (.getfield 490, 3) := by decide +kernel
theorem dX13_isSymbol_4 : decode cX13_isSymbol 4 = .ok (.ifCond .ne 28, 3) := by decide +kernel
theorem dX13_isSymbol_7 : decode cX13_isSymbol 7 = .ok (.aload_n 0, 1) := by decide +kernel
theorem dX13_isSymbol_8 : decode cX13_isSymbol 8 = .ok (.getfield 481, 3) := by decide +kernel
theorem dX13_isSymbol_11 : decode cX13_isSymbol 11 = .ok (.iconst 3, 1) := by decide +kernel
theorem dX13_isSymbol_12 : decode cX13_isSymbol 12 = .ok (.if_icmp .ne 20, 3) := by decide +kernel
theorem dX13_isSymbol_15 : decode cX13_isSymbol 15 = .ok (.aload_n 0, 1) := by decide +kernel
theorem dX13_isSymbol_16 : decode cX13_isSymbol 16 = .ok (.getfield 50, 3) := by decide +kernel
theorem dX13_isSymbol_19 : decode cX13_isSymbol 19 = .ok (.aload_n 0, 1) := by decide +kernel
theorem dX13_isSymbol_20 : decode cX13_isSymbol 20 = .ok (.getfield 478, 3) := by decide +kernel
theorem dX13_isSymbol_23 : decode cX13_isSymbol 23 = .ok (.iaload, 1) := by decide +kernel
theorem dX13_isSymbol_24 : decode cX13_isSymbol 24 = .ok (.iload_n 1, 1) := by decide +kernel
theorem dX13_isSymbol_25 : decode cX13_isSymbol 25 = .ok (.if_icmp .ne 7, 3) := by decide +kernel
theorem dX13_isSymbol_28 : decode cX13_isSymbol 28 = .ok (.iconst 1, 1) := by decide +kernel
theorem dX13_isSymbol_29 : decode cX13_isSymbol 29 = .ok (.goto 4, 3) := by decide +kernel
theorem dX13_isSymbol_32 : decode cX13_isSymbol 32 = .ok (.iconst 0, 1) := by decide +kernel
theorem dX13_isSymbol_33 : decode cX13_isSymbol 33 = .ok (.ireturn, 1) := by decide +kernel
set_option maxRecDepth 20000 in
theorem ggX13_isWord_J0_length_8abf5 : GoodIn wsX13_isWord wsJ0_length_8abf5 := goodIn_r _ [10, 11, 12, 13, 14, 9, 15, 16, 17, 102, 103, 104, 105] (by decide +kernel) (by decide +kernel)
set_option maxRecDepth 20000 in
theorem gX13_isWord_J0_length_8abf5 : GoodIn wsX13_isWord (wsV RX13 505 RJ0 yJ0_length_8abf5 wsJ0_length_8abf5) := goodIn_app (goodIn_of _ (by decide +kernel)) ggX13_isWord_J0_length_8abf5
set_option maxRecDepth 20000 in
theorem ggX13_isWord_J0_charAt_5068e : GoodIn wsX13_isWord wsJ0_charAt_5068e := goodIn_r _ [21, 11, 22, 23, 24, 9, 25, 16, 17, 26, 27, 28, 29, 30, 31, 32, 33, 34, 35, 36, 37, 38, 39, 40, 41, 42, 43, 44, 45, 46, 47, 48, 49, 50, 51, 52, 53, 54, 102, 103, 104, 105] (by decide +kernel) (by decide +kernel)
set_option maxRecDepth 20000 in
theorem gX13_isWord_J0_charAt_5068e : GoodIn wsX13_isWord (wsV RX13 508 RJ0 yJ0_charAt_5068e wsJ0_charAt_5068e) := goodIn_app (goodIn_of _ (by decide +kernel)) ggX13_isWord_J0_charAt_5068e
theorem dX13_isWord_0 : decode cX13_isWord 0 = .ok (.aload_n 0, 1) := by decide +kernel
theorem dX13_isWord_1 : decode cX13_isWord 1 = .ok (.getfield 490, 3) := by decide +kernel
theorem dX13_isWord_4 : decode cX13_isWord 4 = .ok (.ifCond .ne 31, 3) := by decide +kernel
theorem dX13_isWord_7 : decode cX13_isWord 7 = .ok (.aload_n 0, 1) := by decide +kernel
theorem dX13_isWord_8 : decode cX13_isWord 8 = .ok (.getfield 481, 3) := by decide +kernel
theorem dX13_isWord_11 : decode cX13_isWord 11 = .ok (.iconst 1, 1) := by decide +kernel
theorem dX13_isWord_12 : decode cX13_isWord 12 = .ok (.if_icmp .ne 23, 3) := by decide +kernel
theorem dX13_isWord_15 : decode cX13_isWord 15 = .ok (.aload_n 1, 1) := by decide +kernel
theorem dX13_isWord_16 : decode cX13_isWord 16 = .ok (.invokevirtual 505, 3) := by decide +kernel
theorem dX13_isWord_19 : decode cX13_isWord 19 = .ok (.aload_n 0, 1) := by decide +kernel
theorem dX13_isWord_20 : decode cX13_isWord 20 = .ok (.getfield 475, 3) := by decide +kernel
theorem dX13_isWord_23 : decode cX13_isWord 23 = .ok (.aload_n 0, 1) := by decide +kernel
theorem dX13_isWord_24 : decode cX13_isWord 24 = .ok (.getfield 478, 3) := by decide +kernel
theorem dX13_isWord_27 : decode cX13_isWord 27 = .ok (.isub, 1) := by decide +kernel
theorem dX13_isWord_28 : decode cX13_isWord 28 = .ok (.if_icmp .ne 7, 3) := by decide +kernel
theorem dX13_isWord_31 : decode cX13_isWord 31 = .ok (.iconst 1, 1) := by decide +kernel
theorem dX13_isWord_32 : decode cX13_isWord 32 = .ok (.goto 4, 3) := by decide +kernel
theorem dX13_isWord_35 : decode cX13_isWord 35 = .ok (.iconst 0, 1) := by decide +kernel
theorem dX13_isWord_36 : decode cX13_isWord 36 = .ok (.istore_n 2, 1) := by decide +kernel
theorem dX13_isWord_37 : decode cX13_isWord 37 = .ok (.iconst 0, 1) := by decide +kernel
theorem dX13_isWord_38 : decode cX13_isWord 38 = .ok (.istore_n 3, 1) := by decide +kernel
theorem dX13_isWord_39 : decode cX13_isWord 39 = .ok (.iload_n 2, 1) := by decide +kernel
theorem dX13_isWord_40 : decode cX13_isWord 40 = .ok (.ifCond .eq 42, 3) := by decide +kernel
theorem dX13_isWord_43 : decode cX13_isWord 43 = .ok (.iload_n 3, 1) := by decide +kernel
theorem dX13_isWord_44 : decode cX13_isWord 44 = .ok (.aload_n 1, 1) := by decide +kernel
theorem dX13_isWord_45 : decode cX13_isWord 45 = .ok (.invokevirtual 505, 3) := by decide +kernel
theorem dX13_isWord_48 : decode cX13_isWord 48 = .ok (.if_icmp .ge 34, 3) := by decide +kernel
theorem dX13_isWord_51 : decode cX13_isWord 51 = .ok (.aload_n 1, 1) := by decide +kernel
theorem dX13_isWord_52 : decode cX13_isWord 52 = .ok (.iload_n 3, 1) := by decide +kernel
theorem dX13_isWord_53 : decode cX13_isWord 53 = .ok (.invokevirtual 508, 3) := by decide +kernel
theorem dX13_isWord_56 : decode cX13_isWord 56 = .ok (.aload_n 0, 1) := by decide +kernel
theorem dX13_isWord_57 : decode cX13_isWord 57 = .ok (.getfield 50, 3) := by decide +kernel
theorem dX13_isWord_60 : decode cX13_isWord 60 = .ok (.aload_n 0, 1) := by decide +kernel
theorem dX13_isWord_61 : decode cX13_isWord 61 = .ok (.getfield 478, 3) := by decide +kernel
theorem dX13_isWord_64 : decode cX13_isWord 64 = .ok (.iload_n 3, 1) := by decide +kernel
theorem dX13_isWord_65 : decode cX13_isWord 65 = .ok (.iadd, 1) := by decide +kernel
theorem dX13_isWord_66 : decode cX13_isWord 66 = .ok (.iaload, 1) := by decide +kernel
theorem dX13_isWord_67 : decode cX13_isWord 67 = .ok (.if_icmp .ne 7, 3) := by decide +kernel
theorem dX13_isWord_70 : decode cX13_isWord 70 = .ok (.iconst 1, 1) := by decide +kernel
theorem dX13_isWord_71 : decode cX13_isWord 71 = .ok (.goto 4, 3) := by decide +kernel
theorem dX13_isWord_74 : decode cX13_isWord 74 = .ok (.iconst 0, 1) := by decide +kernel
theorem dX13_isWord_75 : decode cX13_isWord 75 = .ok (.istore_n 2, 1) := by decide +kernel
theorem dX13_isWord_76 : decode cX13_isWord 76 = .ok (.iinc 3 1, 3) := by decide +kernel
theorem dX13_isWord_79 : decode cX13_isWord 79 = .ok (.goto (-40), 3) := by decide +kernel
theorem dX13_isWord_82 : decode cX13_isWord 82 = .ok (.iload_n 2, 1) := by decide +kernel
theorem dX13_isWord_83 : decode cX13_isWord 83 = .ok (.ireturn, 1) := by decide +kernel
set_option maxRecDepth 20000 in
theorem ggX13_accept_X13_isWord : GoodIn wsX13_accept wsX13_isWord := goodIn_r _ [5, 6, 7, 8, 9, 10, 11, 12, 13, 14, 15, 16, 17, 18, 19, 20, 21, 22, 23, 24, 25, 26, 27, 28, 29, 30, 31, 32, 33, 34, 35, 36, 37, 38, 39, 40, 41, 42, 43, 44, 45, 46, 47, 48, 49, 50, 51, 52, 53, 54, 55, 56, 57, 58, 59, 77, 78, 79, 80, 81, 82, 83, 84, 85, 86, 87, 88, 89, 90, 91, 92, 93, 94, 95, 96, 97, 98, 99, 100, 101, 102, 103, 104, 105, 106, 107, 108, 109, 110, 111, 112, 113, 114, 115, 116, 117, 118, 119, 120, 121, 122, 123, 124, 125, 126, 127] (by decide +kernel) (by decide +kernel)
set_option maxRecDepth 20000 in
theorem gX13_accept_X13_isWord : GoodIn wsX13_accept (wsV RX13 512 RX13 yX13_isWord wsX13_isWord) := goodIn_app (goodIn_of _ (by decide +kernel)) ggX13_accept_X13_isWord
set_option maxRecDepth 20000 in
theorem ggX13_accept_X13_scan : GoodIn wsX13_accept wsX13_scan := goodIn_r _ [63, 8, 9, 64, 7, 65, 66, 67, 4, 68, 10, 69, 70, 71, 72, 73, 74, 75, 76, 77, 78, 79, 80, 81, 82, 83, 84, 85, 86, 87, 88, 89, 90, 91, 92, 93, 94, 95, 96, 97, 98, 99, 100, 101, 102, 103, 104, 105, 106, 107, 108, 109, 110, 111, 112, 113, 114, 115, 116, 117, 118, 119, 120, 121, 122, 123] (by decide +kernel) (by decide +kernel)
set_option maxRecDepth 20000 in
theorem gX13_accept_X13_scan : GoodIn wsX13_accept (wsV RX13 496 RX13 yX13_scan wsX13_scan) := goodIn_app (goodIn_of _ (by decide +kernel)) ggX13_accept_X13_scan
theorem dX13_accept_0 : decode cX13_accept 0 = .ok (.aload_n 0, 1) := by decide +kernel
theorem dX13_accept_1 : decode cX13_accept 1 = .ok (.aload_n 1, 1) := by decide +kernel
theorem dX13_accept_2 : decode cX13_accept 2 = .ok (.invokevirtual 512, 3) := by decide +kernel
theorem dX13_accept_5 : decode cX13_accept 5 = .ok (.istore_n 2, 1) := by decide +kernel
theorem dX13_accept_6 : decode cX13_accept 6 = .ok (.iload_n 2, 1) := by decide +kernel
theorem dX13_accept_7 : decode cX13_accept 7 = .ok (.ifCond .eq 7, 3) := by decide +kernel
theorem dX13_accept_10 : decode cX13_accept 10 = .ok (.aload_n 0, 1) := by decide +kernel
theorem dX13_accept_11 : decode cX13_accept 11 = .ok (.invokevirtual 496, 3) := by decide +kernel
theorem dX13_accept_14 : decode cX13_accept 14 = .ok (.iload_n 2, 1) := by decide +kernel
theorem dX13_accept_15 : decode cX13_accept 15 = .ok (.ireturn, 1) := by decide +kernel
set_option maxRecDepth 20000 in
theorem ggX13_expectWord_X13_isWord : GoodIn wsX13_expectWord wsX13_isWord := goodIn_r _ [5, 6, 7, 8, 9, 10, 11, 12, 13, 14, 15, 16, 17, 18, 19, 20, 21, 22, 23, 24, 25, 26, 27, 28, 29, 30, 31, 32, 33, 34, 35, 36, 37, 38, 39, 40, 41, 42, 43, 44, 45, 46, 47, 48, 49, 50, 51, 52, 53, 54, 55, 56, 57, 58, 59, 90, 91, 92, 93, 94, 95, 96, 97, 98, 99, 100, 101, 102, 103, 104, 105, 106, 107, 108, 109, 110, 111, 112, 113, 114, 115, 116, 117, 118, 119, 120, 121, 122, 123, 124, 125, 126, 127, 128, 129, 130, 131, 132, 133, 134, 135, 136, 137, 138, 139, 140] (by decide +kernel) (by decide +kernel)
set_option maxRecDepth 20000 in
theorem gX13_expectWord_X13_isWord : GoodIn wsX13_expectWord (wsV RX13 512 RX13 yX13_isWord wsX13_isWord) := goodIn_app (goodIn_of _ (by decide +kernel)) ggX13_expectWord_X13_isWord
set_option maxRecDepth 20000 in
theorem ggX13_expectWord_X13_check : GoodIn wsX13_expectWord wsX13_check := goodIn_r _ [63, 64, 65, 66, 4, 67, 6, 9, 68, 90, 91, 92, 93, 94, 95, 96, 97, 98, 99, 100, 101, 102, 103, 104, 105, 106, 107, 108, 109, 110, 111, 112, 113, 114, 115, 116, 117, 118, 119, 120, 121, 122, 123, 124, 125, 126, 127, 128, 129, 130, 131, 132, 133, 134, 135, 136] (by decide +kernel) (by decide +kernel)
set_option maxRecDepth 20000 in
theorem gX13_expectWord_X13_check : GoodIn wsX13_expectWord (wsV RX13 516 RX13 yX13_check wsX13_check) := goodIn_app (goodIn_of _ (by decide +kernel)) ggX13_expectWord_X13_check
set_option maxRecDepth 20000 in
theorem ggX13_expectWord_X13_advance : GoodIn wsX13_expectWord wsX13_advance := goodIn_r _ [72, 6, 73, 74, 75, 4, 76, 8, 9, 77, 7, 78, 79, 80, 81, 10, 82, 83, 84, 85, 86, 87, 88, 89, 90, 91, 92, 93, 94, 95, 96, 97, 98, 99, 100, 101, 102, 103, 104, 105, 106, 107, 108, 109, 110, 111, 112, 113, 114, 115, 116, 117, 118, 119, 120, 121, 122, 123, 124, 125, 126, 127, 128, 129, 130, 131, 132, 133, 134, 135, 136] (by decide +kernel) (by decide +kernel)
set_option maxRecDepth 20000 in
theorem gX13_expectWord_X13_advance : GoodIn wsX13_expectWord (wsV RX13 520 RX13 yX13_advance wsX13_advance) := goodIn_app (goodIn_of _ (by decide +kernel)) ggX13_expectWord_X13_advance
theorem dX13_expectWord_0 : decode cX13_expectWord 0 = .ok (.aload_n 0, 1) := by decide +kernel
theorem dX13_expectWord_1 : decode cX13_expectWord 1 = .ok (.aload_n 0, 1) := by decide +kernel
theorem dX13_expectWord_2 : decode cX13_expectWord 2 = .ok (.aload_n 1, 1) := by decide +kernel
theorem dX13_expectWord_3 : decode cX13_expectWord 3 = .ok (.invokevirtual 512, 3) := by decide +kernel
theorem dX13_expectWord_6 : decode cX13_expectWord 6 = .ok (.iconst 1, 1) := by decide +kernel
theorem dX13_expectWord_7 : decode cX13_expectWord 7 = .ok (.invokevirtual 516, 3) := by decide +kernel
theorem dX13_expectWord_10 : decode cX13_expectWord 10 = .ok (.aload_n 0, 1) := by decide +kernel
theorem dX13_expectWord_11 : decode cX13_expectWord 11 = .ok (.invokevirtual 520, 3) := by decide +kernel
theorem dX13_expectWord_14 : decode cX13_expectWord 14 = .ok (.return_, 1) := by decide +kernel
set_option maxRecDepth 20000 in
theorem ggX13_expect_X13_isSymbol : GoodIn wsX13_expect wsX13_isSymbol := goodIn_r _ [5, 6, 7, 8, 9, 41, 42, 43, 44, 45, 46, 47, 48, 49, 50, 51, 52, 53, 54, 55, 56, 57, 58, 59, 60, 61, 62, 63, 64, 65, 66, 67, 68, 69, 70, 71, 72, 73, 74, 75, 76, 77, 78, 79, 80, 81, 82, 83, 84, 85, 86, 87] (by decide +kernel) (by decide +kernel)
set_option maxRecDepth 20000 in
theorem gX13_expect_X13_isSymbol : GoodIn wsX13_expect (wsV RX13 523 RX13 yX13_isSymbol wsX13_isSymbol) := goodIn_app (goodIn_of _ (by decide +kernel)) ggX13_expect_X13_isSymbol
set_option maxRecDepth 20000 in
theorem ggX13_expect_X13_check : GoodIn wsX13_expect wsX13_check := goodIn_r _ [13, 14, 15, 16, 4, 17, 6, 9, 18, 41, 42, 43, 44, 45, 46, 47, 48, 49, 50, 51, 52, 53, 54, 55, 56, 57, 58, 59, 60, 61, 62, 63, 64, 65, 66, 67, 68, 69, 70, 71, 72, 73, 74, 75, 76, 77, 78, 79, 80, 81, 82, 83, 84, 85, 86, 87] (by decide +kernel) (by decide +kernel)
set_option maxRecDepth 20000 in
theorem gX13_expect_X13_check : GoodIn wsX13_expect (wsV RX13 516 RX13 yX13_check wsX13_check) := goodIn_app (goodIn_of _ (by decide +kernel)) ggX13_expect_X13_check
set_option maxRecDepth 20000 in
theorem ggX13_expect_X13_advance : GoodIn wsX13_expect wsX13_advance := goodIn_r _ [22, 6, 23, 24, 25, 4, 26, 27, 9, 28, 7, 29, 30, 31, 32, 8, 33, 34, 35, 36, 37, 38, 39, 40, 41, 42, 43, 44, 45, 46, 47, 48, 49, 50, 51, 52, 53, 54, 55, 56, 57, 58, 59, 60, 61, 62, 63, 64, 65, 66, 67, 68, 69, 70, 71, 72, 73, 74, 75, 76, 77, 78, 79, 80, 81, 82, 83, 84, 85, 86, 87] (by decide +kernel) (by decide +kernel)
set_option maxRecDepth 20000 in
theorem gX13_expect_X13_advance : GoodIn wsX13_expect (wsV RX13 520 RX13 yX13_advance wsX13_advance) := goodIn_app (goodIn_of _ (by decide +kernel)) ggX13_expect_X13_advance
theorem dX13_expect_0 : decode cX13_expect 0 = .ok (.aload_n 0, 1) := by decide +kernel
theorem dX13_expect_1 : decode cX13_expect 1 = .ok (.aload_n 0, 1) := by decide +kernel
theorem dX13_expect_2 : decode cX13_expect 2 = .ok (.iload_n 1, 1) := by decide +kernel
theorem dX13_expect_3 : decode cX13_expect 3 = .ok (.invokevirtual 523, 3) := by decide +kernel
theorem dX13_expect_6 : decode cX13_expect 6 = .ok (.iconst 1, 1) := by decide +kernel
theorem dX13_expect_7 : decode cX13_expect 7 = .ok (.invokevirtual 516, 3) := by decide +kernel
theorem dX13_expect_10 : decode cX13_expect 10 = .ok (.aload_n 0, 1) := by decide +kernel
theorem dX13_expect_11 : decode cX13_expect 11 = .ok (.invokevirtual 520, 3) := by decide +kernel
theorem dX13_expect_14 : decode cX13_expect 14 = .ok (.return_, 1) := by decide +kernel
theorem dX13_value_0 : decode cX13_value 0 = .ok (.iconst 0, 1) := by decide +kernel
theorem dX13_value_1 : decode cX13_value 1 = .ok (.istore_n 1, 1) := by decide +kernel
theorem dX13_value_2 : decode cX13_value 2 = .ok (.aload_n 0, 1) := by decide +kernel
theorem dX13_value_3 : decode cX13_value 3 = .ok (.getfield 478, 3) := by decide +kernel
theorem dX13_value_6 : decode cX13_value 6 = .ok (.istore_n 2, 1) := by decide +kernel
theorem dX13_value_7 : decode cX13_value 7 = .ok (.iload_n 2, 1) := by decide +kernel
theorem dX13_value_8 : decode cX13_value 8 = .ok (.aload_n 0, 1) := by decide +kernel
theorem dX13_value_9 : decode cX13_value 9 = .ok (.getfield 475, 3) := by decide +kernel
theorem dX13_value_12 : decode cX13_value 12 = .ok (.if_icmp .ge 38, 3) := by decide +kernel
theorem dX13_value_15 : decode cX13_value 15 = .ok (.aload_n 0, 1) := by decide +kernel
theorem dX13_value_16 : decode cX13_value 16 = .ok (.getfield 481, 3) := by decide +kernel
theorem dX13_value_19 : decode cX13_value 19 = .ok (.iconst 2, 1) := by decide +kernel
theorem dX13_value_20 : decode cX13_value 20 = .ok (.if_icmp .ne 30, 3) := by decide +kernel
theorem dX13_value_23 : decode cX13_value 23 = .ok (.ldc_w 430, 3) := by decide +kernel
theorem dX13_value_26 : decode cX13_value 26 = .ok (.bipush 10, 2) := by decide +kernel
theorem dX13_value_28 : decode cX13_value 28 = .ok (.iload_n 1, 1) := by decide +kernel
theorem dX13_value_29 : decode cX13_value 29 = .ok (.imul, 1) := by decide +kernel
theorem dX13_value_30 : decode cX13_value 30 = .ok (.aload_n 0, 1) := by decide +kernel
theorem dX13_value_31 : decode cX13_value 31 = .ok (.getfield 50, 3) := by decide +kernel
theorem dX13_value_34 : decode cX13_value 34 = .ok (.iload_n 2, 1) := by decide +kernel
theorem dX13_value_35 : decode cX13_value 35 = .ok (.iaload, 1) := by decide +kernel
theorem dX13_value_36 : decode cX13_value 36 = .ok (.iadd, 1) := by decide +kernel
theorem dX13_value_37 : decode cX13_value 37 = .ok (.bipush 48, 2) := by decide +kernel
theorem dX13_value_39 : decode cX13_value 39 = .ok (.isub, 1) := by decide +kernel
theorem dX13_value_40 : decode cX13_value 40 = .ok (.invokestatic 387, 3) := by decide +kernel
theorem dX13_value_43 : decode cX13_value 43 = .ok (.istore_n 1, 1) := by decide +kernel
theorem dX13_value_44 : decode cX13_value 44 = .ok (.iinc 2 1, 3) := by decide +kernel
theorem dX13_value_47 : decode cX13_value 47 = .ok (.goto (-40), 3) := by decide +kernel
theorem dX13_value_50 : decode cX13_value 50 = .ok (.iload_n 1, 1) := by decide +kernel
theorem dX13_value_51 : decode cX13_value 51 = .ok (.ireturn, 1) := by decide +kernel
set_option maxRecDepth 20000 in
theorem ggX13_number_X13_check : GoodIn wsX13_number wsX13_check := goodIn_r _ [7, 8, 9, 10, 6, 11, 1, 12, 13, 49, 50, 51, 52, 53, 54, 55, 56, 57, 58, 59, 60, 61, 62, 63, 64, 65, 66, 67, 68, 69, 70, 71, 72, 73, 74, 75, 76, 77, 78, 79, 80, 81, 82, 83, 84, 85, 86, 87, 88, 89, 90, 91, 92, 93, 94, 95] (by decide +kernel) (by decide +kernel)
set_option maxRecDepth 20000 in
theorem gX13_number_X13_check : GoodIn wsX13_number (wsV RX13 516 RX13 yX13_check wsX13_check) := goodIn_app (goodIn_of _ (by decide +kernel)) ggX13_number_X13_check
set_option maxRecDepth 20000 in
theorem ggX13_number_X13_value : GoodIn wsX13_number wsX13_value := goodIn_r _ [17, 12, 18, 2, 19, 20, 21, 22, 23, 24, 49, 50, 51, 52, 53, 54, 55, 56, 57, 58, 59, 60, 61, 62, 63, 64, 65, 66, 67, 68, 69, 70, 71, 72, 73, 74, 75, 76, 77, 78, 79, 80, 81, 82, 83, 84, 85, 86, 87, 88, 89, 90, 91, 92, 93, 94, 95] (by decide +kernel) (by decide +kernel)
set_option maxRecDepth 20000 in
theorem gX13_number_X13_value : GoodIn wsX13_number (wsV RX13 526 RX13 yX13_value wsX13_value) := goodIn_app (goodIn_of _ (by decide +kernel)) ggX13_number_X13_value
set_option maxRecDepth 20000 in
theorem ggX13_number_X13_inRange : GoodIn wsX13_number wsX13_inRange := goodIn_r _ [27] (by decide +kernel) (by decide +kernel)
set_option maxRecDepth 20000 in
theorem gX13_number_X13_inRange : GoodIn wsX13_number (va_wsS RX13 245 yX13_inRange wsX13_inRange) := goodIn_app (goodIn_of _ (by decide +kernel)) ggX13_number_X13_inRange
set_option maxRecDepth 20000 in
theorem ggX13_number_X13_advance : GoodIn wsX13_number wsX13_advance := goodIn_r _ [31, 1, 32, 33, 34, 6, 35, 18, 12, 36, 2, 37, 38, 39, 40, 20, 41, 42, 43, 44, 45, 46, 47, 48, 49, 50, 51, 52, 53, 54, 55, 56, 57, 58, 59, 60, 61, 62, 63, 64, 65, 66, 67, 68, 69, 70, 71, 72, 73, 74, 75, 76, 77, 78, 79, 80, 81, 82, 83, 84, 85, 86, 87, 88, 89, 90, 91, 92, 93, 94, 95] (by decide +kernel) (by decide +kernel)
set_option maxRecDepth 20000 in
theorem gX13_number_X13_advance : GoodIn wsX13_number (wsV RX13 520 RX13 yX13_advance wsX13_advance) := goodIn_app (goodIn_of _ (by decide +kernel)) ggX13_number_X13_advance
theorem dX13_number_0 : decode cX13_number 0 = .ok (.aload_n 0, 1) := by decide +kernel
theorem dX13_number_1 : decode cX13_number 1 = .ok (.aload_n 0, 1) := by decide +kernel
theorem dX13_number_2 : decode cX13_number 2 = .ok (.getfield 490, 3) := by decide +kernel
theorem dX13_number_5 : decode cX13_number 5 = .ok (.ifCond .ne 11, 3) := by decide +kernel
theorem dX13_number_8 : decode cX13_number 8 = .ok (.aload_n 0, 1) := by decide +kernel
theorem dX13_number_9 : decode cX13_number 9 = .ok (.getfield 481, 3) := by decide +kernel
theorem dX13_number_12 : decode cX13_number 12 = .ok (.iconst 2, 1) := by decide +kernel
theorem dX13_number_13 : decode cX13_number 13 = .ok (.if_icmp .ne 7, 3) := by decide +kernel
theorem dX13_number_16 : decode cX13_number 16 = .ok (.iconst 1, 1) := by decide +kernel
theorem dX13_number_17 : decode cX13_number 17 = .ok (.goto 4, 3) := by decide +kernel
theorem dX13_number_20 : decode cX13_number 20 = .ok (.iconst 0, 1) := by decide +kernel
theorem dX13_number_21 : decode cX13_number 21 = .ok (.iconst 1, 1) := by decide +kernel
theorem dX13_number_22 : decode cX13_number 22 = .ok (.invokevirtual 516, 3) := by decide +kernel
theorem dX13_number_25 : decode cX13_number 25 = .ok (.aload_n 0, 1) := by decide +kernel
theorem dX13_number_26 : decode cX13_number 26 = .ok (.invokevirtual 526, 3) := by decide +kernel
theorem dX13_number_29 : decode cX13_number 29 = .ok (.istore_n 3, 1) := by decide +kernel
theorem dX13_number_30 : decode cX13_number 30 = .ok (.aload_n 0, 1) := by decide +kernel
theorem dX13_number_31 : decode cX13_number 31 = .ok (.aload_n 0, 1) := by decide +kernel
theorem dX13_number_32 : decode cX13_number 32 = .ok (.getfield 490, 3) := by decide +kernel
theorem dX13_number_35 : decode cX13_number 35 = .ok (.ifCond .ne 12, 3) := by decide +kernel
theorem dX13_number_38 : decode cX13_number 38 = .ok (.iload_n 3, 1) := by decide +kernel
theorem dX13_number_39 : decode cX13_number 39 = .ok (.iload_n 1, 1) := by decide +kernel
theorem dX13_number_40 : decode cX13_number 40 = .ok (.iload_n 2, 1) := by decide +kernel
theorem dX13_number_41 : decode cX13_number 41 = .ok (.invokestatic 245, 3) := by decide +kernel
theorem dX13_number_44 : decode cX13_number 44 = .ok (.ifCond .eq 7, 3) := by decide +kernel
theorem dX13_number_47 : decode cX13_number 47 = .ok (.iconst 1, 1) := by decide +kernel
theorem dX13_number_48 : decode cX13_number 48 = .ok (.goto 4, 3) := by decide +kernel
theorem dX13_number_51 : decode cX13_number 51 = .ok (.iconst 0, 1) := by decide +kernel
theorem dX13_number_52 : decode cX13_number 52 = .ok (.iconst 2, 1) := by decide +kernel
theorem dX13_number_53 : decode cX13_number 53 = .ok (.invokevirtual 516, 3) := by decide +kernel
theorem dX13_number_56 : decode cX13_number 56 = .ok (.aload_n 0, 1) := by decide +kernel
theorem dX13_number_57 : decode cX13_number 57 = .ok (.invokevirtual 520, 3) := by decide +kernel
theorem dX13_number_60 : decode cX13_number 60 = .ok (.aload_n 0, 1) := by decide +kernel
theorem dX13_number_61 : decode cX13_number 61 = .ok (.getfield 490, 3) := by decide +kernel
theorem dX13_number_64 : decode cX13_number 64 = .ok (.ifCond .ne 7, 3) := by decide +kernel
theorem dX13_number_67 : decode cX13_number 67 = .ok (.iload_n 3, 1) := by decide +kernel
theorem dX13_number_68 : decode cX13_number 68 = .ok (.goto 4, 3) := by decide +kernel
theorem dX13_number_71 : decode cX13_number 71 = .ok (.iload_n 1, 1) := by decide +kernel
theorem dX13_number_72 : decode cX13_number 72 = .ok (.ireturn, 1) := by decide +kernel
set_option maxRecDepth 20000 in
theorem ggX13_indexIn_X13_isWord : GoodIn wsX13_indexIn wsX13_isWord := goodIn_r _ [5, 6, 7, 8, 9, 10, 11, 12, 13, 14, 15, 16, 17, 18, 19, 20, 21, 22, 23, 24, 25, 26, 27, 28, 29, 30, 31, 32, 33, 34, 35, 36, 37, 38, 39, 40, 41, 42, 43, 44, 45, 46, 47, 48, 49, 50, 51, 52, 53, 54, 55, 56, 57, 58, 59, 60, 61, 62, 63, 64, 65, 66, 67, 68, 69, 70, 71, 72, 73, 74, 75, 76, 77, 78, 79, 80, 81, 82, 83, 84, 85, 86, 87, 88, 89, 90, 91, 92, 93, 94, 95, 96, 97, 98, 99, 100, 101, 102, 103, 104, 105, 106, 107, 108, 109, 110] (by decide +kernel) (by decide +kernel)
set_option maxRecDepth 20000 in
theorem gX13_indexIn_X13_isWord : GoodIn wsX13_indexIn (wsV RX13 512 RX13 yX13_isWord wsX13_isWord) := goodIn_app (goodIn_of _ (by decide +kernel)) ggX13_indexIn_X13_isWord
theorem dX13_indexIn_0 : decode cX13_indexIn 0 = .ok (.iconst 0, 1) := by decide +kernel
theorem dX13_indexIn_1 : decode cX13_indexIn 1 = .ok (.istore_n 2, 1) := by decide +kernel
theorem dX13_indexIn_2 : decode cX13_indexIn 2 = .ok (.iload_n 2, 1) := by decide +kernel
theorem dX13_indexIn_3 : decode cX13_indexIn 3 = .ok (.aload_n 1, 1) := by decide +kernel
theorem dX13_indexIn_4 : decode cX13_indexIn 4 = .ok (.arraylength, 1) := by decide +kernel
theorem dX13_indexIn_5 : decode cX13_indexIn 5 = .ok (.if_icmp .ge 21, 3) := by decide +kernel
theorem dX13_indexIn_8 : decode cX13_indexIn 8 = .ok (.aload_n 0, 1) := by decide +kernel
theorem dX13_indexIn_9 : decode cX13_indexIn 9 = .ok (.aload_n 1, 1) := by decide +kernel
theorem dX13_indexIn_10 : decode cX13_indexIn 10 = .ok (.iload_n 2, 1) := by decide +kernel
theorem dX13_indexIn_11 : decode cX13_indexIn 11 = .ok (.aaload, 1) := by decide +kernel
theorem dX13_indexIn_12 : decode cX13_indexIn 12 = .ok (.invokevirtual 512, 3) := by decide +kernel
theorem dX13_indexIn_15 : decode cX13_indexIn 15 = .ok (.ifCond .eq 5, 3) := by decide +kernel
theorem dX13_indexIn_18 : decode cX13_indexIn 18 = .ok (.iload_n 2, 1) := by decide +kernel
theorem dX13_indexIn_19 : decode cX13_indexIn 19 = .ok (.ireturn, 1) := by decide +kernel
theorem dX13_indexIn_20 : decode cX13_indexIn 20 = .ok (.iinc 2 1, 3) := by decide +kernel
theorem dX13_indexIn_23 : decode cX13_indexIn 23 = .ok (.goto (-21), 3) := by decide +kernel
theorem dX13_indexIn_26 : decode cX13_indexIn 26 = .ok (.iconst (-1), 1) := by decide +kernel
theorem dX13_indexIn_27 : decode cX13_indexIn 27 = .ok (.ireturn, 1) := by decide +kernel
set_option maxRecDepth 20000 in
theorem ggX13_isName_X13_indexIn : GoodIn wsX13_isName wsX13_indexIn := goodIn_r _ [11, 12, 13, 14, 10, 15, 1, 2, 16, 17, 18, 19, 20, 21, 22, 23, 24, 25, 26, 27, 28, 29, 30, 31, 32, 33, 34, 35, 36, 37, 38, 39, 40, 41, 42, 43, 44, 45, 46, 47, 48, 49, 50, 51, 52, 53, 54, 55, 56, 57, 58, 59, 60, 61, 62, 63, 64, 65, 66, 67, 68, 69, 70, 71, 72, 73, 74, 75, 76, 77, 78, 79, 80, 81, 82, 83, 84, 85, 86, 87, 88, 89, 90, 91, 92, 93, 94, 95, 96, 97, 98, 99, 100, 101, 102, 103, 104, 105, 106, 107, 108, 109, 110, 111, 112, 113, 114, 115, 116, 117, 118] (by decide +kernel) (by decide +kernel)
set_option maxRecDepth 20000 in
theorem gX13_isName_X13_indexIn : GoodIn wsX13_isName (wsV RX13 529 RX13 yX13_indexIn wsX13_indexIn) := goodIn_app (goodIn_of _ (by decide +kernel)) ggX13_isName_X13_indexIn
theorem dX13_isName_0 : decode cX13_isName 0 = .ok (.aload_n 0, 1) := by decide +kernel
theorem dX13_isName_1 : decode cX13_isName 1 = .ok (.getfield 490, 3) := by decide +kernel
theorem dX13_isName_4 : decode cX13_isName 4 = .ok (.ifCond .ne 63, 3) := by decide +kernel
theorem dX13_isName_7 : decode cX13_isName 7 = .ok (.aload_n 0, 1) := by decide +kernel
theorem dX13_isName_8 : decode cX13_isName 8 = .ok (.getfield 481, 3) := by decide +kernel
theorem dX13_isName_11 : decode cX13_isName 11 = .ok (.iconst 1, 1) := by decide +kernel
theorem dX13_isName_12 : decode cX13_isName 12 = .ok (.if_icmp .ne 55, 3) := by decide +kernel
theorem dX13_isName_15 : decode cX13_isName 15 = .ok (.aload_n 0, 1) := by decide +kernel
theorem dX13_isName_16 : decode cX13_isName 16 = .ok (.aload_n 0, 1) := by decide +kernel
theorem dX13_isName_17 : decode cX13_isName 17 = .ok (.getfield 85, 3) := by decide +kernel
theorem dX13_isName_20 : decode cX13_isName 20 = .ok (.invokevirtual 529, 3) := by decide +kernel
theorem dX13_isName_23 : decode cX13_isName 23 = .ok (.iconst (-1), 1) := by decide +kernel
theorem dX13_isName_24 : decode cX13_isName 24 = .ok (.if_icmp .ne 43, 3) := by decide +kernel
theorem dX13_isName_27 : decode cX13_isName 27 = .ok (.aload_n 0, 1) := by decide +kernel
theorem dX13_isName_28 : decode cX13_isName 28 = .ok (.aload_n 0, 1) := by decide +kernel
theorem dX13_isName_29 : decode cX13_isName 29 = .ok (.getfield 105, 3) := by decide +kernel
theorem dX13_isName_32 : decode cX13_isName 32 = .ok (.invokevirtual 529, 3) := by decide +kernel
theorem dX13_isName_35 : decode cX13_isName 35 = .ok (.iconst (-1), 1) := by decide +kernel
theorem dX13_isName_36 : decode cX13_isName 36 = .ok (.if_icmp .ne 31, 3) := by decide +kernel
theorem dX13_isName_39 : decode cX13_isName 39 = .ok (.aload_n 0, 1) := by decide +kernel
theorem dX13_isName_40 : decode cX13_isName 40 = .ok (.aload_n 0, 1) := by decide +kernel
theorem dX13_isName_41 : decode cX13_isName 41 = .ok (.getfield 126, 3) := by decide +kernel
theorem dX13_isName_44 : decode cX13_isName 44 = .ok (.invokevirtual 529, 3) := by decide +kernel
theorem dX13_isName_47 : decode cX13_isName 47 = .ok (.iconst (-1), 1) := by decide +kernel
theorem dX13_isName_48 : decode cX13_isName 48 = .ok (.if_icmp .ne 19, 3) := by decide +kernel
theorem dX13_isName_51 : decode cX13_isName 51 = .ok (.aload_n 0, 1) := by decide +kernel
theorem dX13_isName_52 : decode cX13_isName 52 = .ok (.aload_n 0, 1) := by decide +kernel
theorem dX13_isName_53 : decode cX13_isName 53 = .ok (.getfield 195, 3) := by decide +kernel
theorem dX13_isName_56 : decode cX13_isName 56 = .ok (.invokevirtual 529, 3) := by decide +kernel
theorem dX13_isName_59 : decode cX13_isName 59 = .ok (.iconst (-1), 1) := by decide +kernel
theorem dX13_isName_60 : decode cX13_isName 60 = .ok (.if_icmp .ne 7, 3) := by decide +kernel
theorem dX13_isName_63 : decode cX13_isName 63 = .ok (.iconst 1, 1) := by decide +kernel
theorem dX13_isName_64 : decode cX13_isName 64 = .ok (.goto 4, 3) := by decide +kernel
theorem dX13_isName_67 : decode cX13_isName 67 = .ok (.iconst 0, 1) := by decide +kernel
theorem dX13_isName_68 : decode cX13_isName 68 = .ok (.ireturn, 1) := by decide +kernel
theorem dX13_isSame_0 : decode cX13_isSame 0 = .ok (.iconst 0, 1) := by decide +kernel
theorem dX13_isSame_1 : decode cX13_isSame 1 = .ok (.istore 4, 2) := by decide +kernel
theorem dX13_isSame_3 : decode cX13_isSame 3 = .ok (.iload 4, 2) := by decide +kernel
theorem dX13_isSame_5 : decode cX13_isSame 5 = .ok (.iload_n 3, 1) := by decide +kernel
theorem dX13_isSame_6 : decode cX13_isSame 6 = .ok (.if_icmp .ge 32, 3) := by decide +kernel
theorem dX13_isSame_9 : decode cX13_isSame 9 = .ok (.aload_n 0, 1) := by decide +kernel
theorem dX13_isSame_10 : decode cX13_isSame 10 = .ok (.getfield 50, 3) := by decide +kernel
theorem dX13_isSame_13 : decode cX13_isSame 13 = .ok (.iload_n 1, 1) := by decide +kernel
theorem dX13_isSame_14 : decode cX13_isSame 14 = .ok (.iload 4, 2) := by decide +kernel
theorem dX13_isSame_16 : decode cX13_isSame 16 = .ok (.iadd, 1) := by decide +kernel
theorem dX13_isSame_17 : decode cX13_isSame 17 = .ok (.iaload, 1) := by decide +kernel
theorem dX13_isSame_18 : decode cX13_isSame 18 = .ok (.aload_n 0, 1) := by decide +kernel
theorem dX13_isSame_19 : decode cX13_isSame 19 = .ok (.getfield 50, 3) := by decide +kernel
theorem dX13_isSame_22 : decode cX13_isSame 22 = .ok (.iload_n 2, 1) := by decide +kernel
theorem dX13_isSame_23 : decode cX13_isSame 23 = .ok (.iload 4, 2) := by decide +kernel
theorem dX13_isSame_25 : decode cX13_isSame 25 = .ok (.iadd, 1) := by decide +kernel
theorem dX13_isSame_26 : decode cX13_isSame 26 = .ok (.iaload, 1) := by decide +kernel
theorem dX13_isSame_27 : decode cX13_isSame 27 = .ok (.if_icmp .eq 5, 3) := by decide +kernel
theorem dX13_isSame_30 : decode cX13_isSame 30 = .ok (.iconst 0, 1) := by decide +kernel
theorem dX13_isSame_31 : decode cX13_isSame 31 = .ok (.ireturn, 1) := by decide +kernel
theorem dX13_isSame_32 : decode cX13_isSame 32 = .ok (.iinc 4 1, 3) := by decide +kernel
theorem dX13_isSame_35 : decode cX13_isSame 35 = .ok (.goto (-32), 3) := by decide +kernel
theorem dX13_isSame_38 : decode cX13_isSame 38 = .ok (.iconst 1, 1) := by decide +kernel
theorem dX13_isSame_39 : decode cX13_isSame 39 = .ok (.ireturn, 1) := by decide +kernel
set_option maxRecDepth 20000 in
theorem ggX13_labelled_X13_isSame : GoodIn wsX13_labelled wsX13_isSame := goodIn_r _ [7, 8, 9, 10, 11, 12, 13, 14, 15, 16, 17, 18, 19, 20, 21, 22, 23, 24, 25, 26, 27, 28, 29, 30, 31, 32, 33, 34, 35, 36, 37, 38, 39, 40, 41, 42, 43, 44, 45, 46, 47, 48, 49, 50, 51, 52, 53, 54, 55] (by decide +kernel) (by decide +kernel)
set_option maxRecDepth 20000 in
theorem gX13_labelled_X13_isSame : GoodIn wsX13_labelled (wsV RX13 533 RX13 yX13_isSame wsX13_isSame) := goodIn_app (goodIn_of _ (by decide +kernel)) ggX13_labelled_X13_isSame
theorem dX13_labelled_0 : decode cX13_labelled 0 = .ok (.iconst 0, 1) := by decide +kernel
theorem dX13_labelled_1 : decode cX13_labelled 1 = .ok (.istore 4, 2) := by decide +kernel
theorem dX13_labelled_3 : decode cX13_labelled 3 = .ok (.iload 4, 2) := by decide +kernel
theorem dX13_labelled_5 : decode cX13_labelled 5 = .ok (.iload_n 3, 1) := by decide +kernel
theorem dX13_labelled_6 : decode cX13_labelled 6 = .ok (.if_icmp .ge 39, 3) := by decide +kernel
theorem dX13_labelled_9 : decode cX13_labelled 9 = .ok (.aload_n 0, 1) := by decide +kernel
theorem dX13_labelled_10 : decode cX13_labelled 10 = .ok (.getfield 201, 3) := by decide +kernel
theorem dX13_labelled_13 : decode cX13_labelled 13 = .ok (.iload 4, 2) := by decide +kernel
theorem dX13_labelled_15 : decode cX13_labelled 15 = .ok (.iaload, 1) := by decide +kernel
theorem dX13_labelled_16 : decode cX13_labelled 16 = .ok (.iload_n 2, 1) := by decide +kernel
theorem dX13_labelled_17 : decode cX13_labelled 17 = .ok (.if_icmp .ne 22, 3) := by decide +kernel
theorem dX13_labelled_20 : decode cX13_labelled 20 = .ok (.aload_n 0, 1) := by decide +kernel
theorem dX13_labelled_21 : decode cX13_labelled 21 = .ok (.iload_n 1, 1) := by decide +kernel
theorem dX13_labelled_22 : decode cX13_labelled 22 = .ok (.aload_n 0, 1) := by decide +kernel
theorem dX13_labelled_23 : decode cX13_labelled 23 = .ok (.getfield 198, 3) := by decide +kernel
theorem dX13_labelled_26 : decode cX13_labelled 26 = .ok (.iload 4, 2) := by decide +kernel
theorem dX13_labelled_28 : decode cX13_labelled 28 = .ok (.iaload, 1) := by decide +kernel
theorem dX13_labelled_29 : decode cX13_labelled 29 = .ok (.iload_n 2, 1) := by decide +kernel
theorem dX13_labelled_30 : decode cX13_labelled 30 = .ok (.invokevirtual 533, 3) := by decide +kernel
theorem dX13_labelled_33 : decode cX13_labelled 33 = .ok (.ifCond .eq 6, 3) := by decide +kernel
theorem dX13_labelled_36 : decode cX13_labelled 36 = .ok (.iload 4, 2) := by decide +kernel
theorem dX13_labelled_38 : decode cX13_labelled 38 = .ok (.ireturn, 1) := by decide +kernel
theorem dX13_labelled_39 : decode cX13_labelled 39 = .ok (.iinc 4 1, 3) := by decide +kernel
theorem dX13_labelled_42 : decode cX13_labelled 42 = .ok (.goto (-39), 3) := by decide +kernel
theorem dX13_labelled_45 : decode cX13_labelled 45 = .ok (.iconst (-1), 1) := by decide +kernel
theorem dX13_labelled_46 : decode cX13_labelled 46 = .ok (.ireturn, 1) := by decide +kernel
set_option maxRecDepth 20000 in
theorem ggX13_readName_X13_isName : GoodIn wsX13_readName wsX13_isName := goodIn_r _ [12, 1, 13, 14, 15, 16, 17, 18, 19, 20, 11, 21, 22, 23, 24, 25, 6, 4, 26, 27, 28, 29, 30, 31, 32, 33, 34, 35, 36, 37, 38, 39, 40, 41, 42, 43, 44, 45, 46, 47, 48, 49, 50, 51, 52, 53, 54, 55, 56, 57, 58, 59, 60, 61, 62, 63, 64, 65, 66, 67, 68, 69, 70, 71, 72, 73, 74, 75, 106, 107, 108, 109, 110, 111, 112, 113, 114, 115, 116, 117, 118, 119, 120, 121, 122, 123, 124, 125, 126, 127, 128, 129, 130, 131, 132, 133, 134, 135, 136, 137, 138, 139, 140, 141, 142, 143, 144, 145, 146, 147, 148, 149, 150, 151, 152, 153, 154, 155, 156] (by decide +kernel) (by decide +kernel)
set_option maxRecDepth 20000 in
theorem gX13_readName_X13_isName : GoodIn wsX13_readName (wsV RX13 536 RX13 yX13_isName wsX13_isName) := goodIn_app (goodIn_of _ (by decide +kernel)) ggX13_readName_X13_isName
set_option maxRecDepth 20000 in
theorem ggX13_readName_X13_check : GoodIn wsX13_readName wsX13_check := goodIn_r _ [79, 80, 81, 82, 11, 83, 1, 4, 84, 106, 107, 108, 109, 110, 111, 112, 113, 114, 115, 116, 117, 118, 119, 120, 121, 122, 123, 124, 125, 126, 127, 128, 129, 130, 131, 132, 133, 134, 135, 136, 137, 138, 139, 140, 141, 142, 143, 144, 145, 146, 147, 148, 149, 150, 151, 152] (by decide +kernel) (by decide +kernel)
set_option maxRecDepth 20000 in
theorem gX13_readName_X13_check : GoodIn wsX13_readName (wsV RX13 516 RX13 yX13_check wsX13_check) := goodIn_app (goodIn_of _ (by decide +kernel)) ggX13_readName_X13_check
set_option maxRecDepth 20000 in
theorem ggX13_readName_X13_advance : GoodIn wsX13_readName wsX13_advance := goodIn_r _ [88, 1, 89, 90, 91, 11, 92, 6, 4, 93, 13, 94, 95, 96, 97, 26, 98, 99, 100, 101, 102, 103, 104, 105, 106, 107, 108, 109, 110, 111, 112, 113, 114, 115, 116, 117, 118, 119, 120, 121, 122, 123, 124, 125, 126, 127, 128, 129, 130, 131, 132, 133, 134, 135, 136, 137, 138, 139, 140, 141, 142, 143, 144, 145, 146, 147, 148, 149, 150, 151, 152] (by decide +kernel) (by decide +kernel)
set_option maxRecDepth 20000 in
theorem gX13_readName_X13_advance : GoodIn wsX13_readName (wsV RX13 520 RX13 yX13_advance wsX13_advance) := goodIn_app (goodIn_of _ (by decide +kernel)) ggX13_readName_X13_advance
theorem dX13_readName_0 : decode cX13_readName 0 = .ok (.aload_n 0, 1) := by decide +kernel
theorem dX13_readName_1 : decode cX13_readName 1 = .ok (.aload_n 0, 1) := by decide +kernel
theorem dX13_readName_2 : decode cX13_readName 2 = .ok (.getfield 490, 3) := by decide +kernel
theorem dX13_readName_5 : decode cX13_readName 5 = .ok (.ifCond .ne 10, 3) := by decide +kernel
theorem dX13_readName_8 : decode cX13_readName 8 = .ok (.aload_n 0, 1) := by decide +kernel
theorem dX13_readName_9 : decode cX13_readName 9 = .ok (.invokevirtual 536, 3) := by decide +kernel
theorem dX13_readName_12 : decode cX13_readName 12 = .ok (.ifCond .eq 7, 3) := by decide +kernel
theorem dX13_readName_15 : decode cX13_readName 15 = .ok (.iconst 1, 1) := by decide +kernel
theorem dX13_readName_16 : decode cX13_readName 16 = .ok (.goto 4, 3) := by decide +kernel
theorem dX13_readName_19 : decode cX13_readName 19 = .ok (.iconst 0, 1) := by decide +kernel
theorem dX13_readName_20 : decode cX13_readName 20 = .ok (.iconst 1, 1) := by decide +kernel
theorem dX13_readName_21 : decode cX13_readName 21 = .ok (.invokevirtual 516, 3) := by decide +kernel
theorem dX13_readName_24 : decode cX13_readName 24 = .ok (.aload_n 0, 1) := by decide +kernel
theorem dX13_readName_25 : decode cX13_readName 25 = .ok (.getfield 490, 3) := by decide +kernel
theorem dX13_readName_28 : decode cX13_readName 28 = .ok (.ifCond .ne 54, 3) := by decide +kernel
theorem dX13_readName_31 : decode cX13_readName 31 = .ok (.aload_n 0, 1) := by decide +kernel
theorem dX13_readName_32 : decode cX13_readName 32 = .ok (.getfield 204, 3) := by decide +kernel
theorem dX13_readName_35 : decode cX13_readName 35 = .ok (.aload_n 0, 1) := by decide +kernel
theorem dX13_readName_36 : decode cX13_readName 36 = .ok (.getfield 540, 3) := by decide +kernel
theorem dX13_readName_39 : decode cX13_readName 39 = .ok (.aload_n 0, 1) := by decide +kernel
theorem dX13_readName_40 : decode cX13_readName 40 = .ok (.getfield 478, 3) := by decide +kernel
theorem dX13_readName_43 : decode cX13_readName 43 = .ok (.iastore, 1) := by decide +kernel
theorem dX13_readName_44 : decode cX13_readName 44 = .ok (.aload_n 0, 1) := by decide +kernel
theorem dX13_readName_45 : decode cX13_readName 45 = .ok (.getfield 207, 3) := by decide +kernel
theorem dX13_readName_48 : decode cX13_readName 48 = .ok (.aload_n 0, 1) := by decide +kernel
theorem dX13_readName_49 : decode cX13_readName 49 = .ok (.getfield 540, 3) := by decide +kernel
theorem dX13_readName_52 : decode cX13_readName 52 = .ok (.aload_n 0, 1) := by decide +kernel
theorem dX13_readName_53 : decode cX13_readName 53 = .ok (.getfield 475, 3) := by decide +kernel
theorem dX13_readName_56 : decode cX13_readName 56 = .ok (.aload_n 0, 1) := by decide +kernel
theorem dX13_readName_57 : decode cX13_readName 57 = .ok (.getfield 478, 3) := by decide +kernel
theorem dX13_readName_60 : decode cX13_readName 60 = .ok (.isub, 1) := by decide +kernel
theorem dX13_readName_61 : decode cX13_readName 61 = .ok (.iastore, 1) := by decide +kernel
theorem dX13_readName_62 : decode cX13_readName 62 = .ok (.aload_n 0, 1) := by decide +kernel
theorem dX13_readName_63 : decode cX13_readName 63 = .ok (.getfield 210, 3) := by decide +kernel
theorem dX13_readName_66 : decode cX13_readName 66 = .ok (.aload_n 0, 1) := by decide +kernel
theorem dX13_readName_67 : decode cX13_readName 67 = .ok (.getfield 540, 3) := by decide +kernel
theorem dX13_readName_70 : decode cX13_readName 70 = .ok (.iload_n 1, 1) := by decide +kernel
theorem dX13_readName_71 : decode cX13_readName 71 = .ok (.iastore, 1) := by decide +kernel
theorem dX13_readName_72 : decode cX13_readName 72 = .ok (.aload_n 0, 1) := by decide +kernel
theorem dX13_readName_73 : decode cX13_readName 73 = .ok (.dup, 1) := by decide +kernel
theorem dX13_readName_74 : decode cX13_readName 74 = .ok (.getfield 540, 3) := by decide +kernel
theorem dX13_readName_77 : decode cX13_readName 77 = .ok (.iconst 1, 1) := by decide +kernel
theorem dX13_readName_78 : decode cX13_readName 78 = .ok (.iadd, 1) := by decide +kernel
theorem dX13_readName_79 : decode cX13_readName 79 = .ok (.putfield 540, 3) := by decide +kernel
theorem dX13_readName_82 : decode cX13_readName 82 = .ok (.aload_n 0, 1) := by decide +kernel
theorem dX13_readName_83 : decode cX13_readName 83 = .ok (.invokevirtual 520, 3) := by decide +kernel
theorem dX13_readName_86 : decode cX13_readName 86 = .ok (.return_, 1) := by decide +kernel
set_option maxRecDepth 20000 in
theorem ggX13_layNames_X13_labelled : GoodIn wsX13_layNames wsX13_labelled := goodIn_r _ [12, 13, 14, 15, 16, 17, 11, 18, 19, 20, 21, 22, 23, 24, 25, 26, 27, 28, 29, 30, 31, 32, 33, 34, 35, 36, 37, 38, 39, 40, 41, 42, 43, 44, 45, 46, 47, 48, 49, 50, 51, 52, 53, 54, 55, 56, 57, 58, 59, 60, 61, 62, 63, 64, 65, 66] (by decide +kernel) (by decide +kernel)
set_option maxRecDepth 20000 in
theorem gX13_layNames_X13_labelled : GoodIn wsX13_layNames (wsV RX13 543 RX13 yX13_labelled wsX13_labelled) := goodIn_app (goodIn_of _ (by decide +kernel)) ggX13_layNames_X13_labelled
theorem dX13_layNames_0 : decode cX13_layNames 0 = .ok (.iconst 0, 1) := by decide +kernel
theorem dX13_layNames_1 : decode cX13_layNames 1 = .ok (.istore_n 1, 1) := by decide +kernel
theorem dX13_layNames_2 : decode cX13_layNames 2 = .ok (.iload_n 1, 1) := by decide +kernel
theorem dX13_layNames_3 : decode cX13_layNames 3 = .ok (.aload_n 0, 1) := by decide +kernel
theorem dX13_layNames_4 : decode cX13_layNames 4 = .ok (.getfield 540, 3) := by decide +kernel
theorem dX13_layNames_7 : decode cX13_layNames 7 = .ok (.if_icmp .ge 74, 3) := by decide +kernel
theorem dX13_layNames_10 : decode cX13_layNames 10 = .ok (.aload_n 0, 1) := by decide +kernel
theorem dX13_layNames_11 : decode cX13_layNames 11 = .ok (.getfield 490, 3) := by decide +kernel
theorem dX13_layNames_14 : decode cX13_layNames 14 = .ok (.ifCond .ne 67, 3) := by decide +kernel
theorem dX13_layNames_17 : decode cX13_layNames 17 = .ok (.aload_n 0, 1) := by decide +kernel
theorem dX13_layNames_18 : decode cX13_layNames 18 = .ok (.aload_n 0, 1) := by decide +kernel
theorem dX13_layNames_19 : decode cX13_layNames 19 = .ok (.getfield 204, 3) := by decide +kernel
theorem dX13_layNames_22 : decode cX13_layNames 22 = .ok (.iload_n 1, 1) := by decide +kernel
theorem dX13_layNames_23 : decode cX13_layNames 23 = .ok (.iaload, 1) := by decide +kernel
theorem dX13_layNames_24 : decode cX13_layNames 24 = .ok (.aload_n 0, 1) := by decide +kernel
theorem dX13_layNames_25 : decode cX13_layNames 25 = .ok (.getfield 207, 3) := by decide +kernel
theorem dX13_layNames_28 : decode cX13_layNames 28 = .ok (.iload_n 1, 1) := by decide +kernel
theorem dX13_layNames_29 : decode cX13_layNames 29 = .ok (.iaload, 1) := by decide +kernel
theorem dX13_layNames_30 : decode cX13_layNames 30 = .ok (.aload_n 0, 1) := by decide +kernel
theorem dX13_layNames_31 : decode cX13_layNames 31 = .ok (.getfield 13, 3) := by decide +kernel
theorem dX13_layNames_34 : decode cX13_layNames 34 = .ok (.iconst 0, 1) := by decide +kernel
theorem dX13_layNames_35 : decode cX13_layNames 35 = .ok (.iaload, 1) := by decide +kernel
theorem dX13_layNames_36 : decode cX13_layNames 36 = .ok (.invokevirtual 543, 3) := by decide +kernel
theorem dX13_layNames_39 : decode cX13_layNames 39 = .ok (.istore_n 2, 1) := by decide +kernel
theorem dX13_layNames_40 : decode cX13_layNames 40 = .ok (.iload_n 2, 1) := by decide +kernel
theorem dX13_layNames_41 : decode cX13_layNames 41 = .ok (.iconst (-1), 1) := by decide +kernel
theorem dX13_layNames_42 : decode cX13_layNames 42 = .ok (.if_icmp .ne 21, 3) := by decide +kernel
theorem dX13_layNames_45 : decode cX13_layNames 45 = .ok (.aload_n 0, 1) := by decide +kernel
theorem dX13_layNames_46 : decode cX13_layNames 46 = .ok (.iconst 5, 1) := by decide +kernel
theorem dX13_layNames_47 : decode cX13_layNames 47 = .ok (.putfield 490, 3) := by decide +kernel
theorem dX13_layNames_50 : decode cX13_layNames 50 = .ok (.aload_n 0, 1) := by decide +kernel
theorem dX13_layNames_51 : decode cX13_layNames 51 = .ok (.aload_n 0, 1) := by decide +kernel
theorem dX13_layNames_52 : decode cX13_layNames 52 = .ok (.getfield 204, 3) := by decide +kernel
theorem dX13_layNames_55 : decode cX13_layNames 55 = .ok (.iload_n 1, 1) := by decide +kernel
theorem dX13_layNames_56 : decode cX13_layNames 56 = .ok (.iaload, 1) := by decide +kernel
theorem dX13_layNames_57 : decode cX13_layNames 57 = .ok (.putfield 499, 3) := by decide +kernel
theorem dX13_layNames_60 : decode cX13_layNames 60 = .ok (.goto 15, 3) := by decide +kernel
theorem dX13_layNames_63 : decode cX13_layNames 63 = .ok (.aload_n 0, 1) := by decide +kernel
theorem dX13_layNames_64 : decode cX13_layNames 64 = .ok (.getfield 13, 3) := by decide +kernel
theorem dX13_layNames_67 : decode cX13_layNames 67 = .ok (.aload_n 0, 1) := by decide +kernel
theorem dX13_layNames_68 : decode cX13_layNames 68 = .ok (.getfield 210, 3) := by decide +kernel
theorem dX13_layNames_71 : decode cX13_layNames 71 = .ok (.iload_n 1, 1) := by decide +kernel
theorem dX13_layNames_72 : decode cX13_layNames 72 = .ok (.iaload, 1) := by decide +kernel
theorem dX13_layNames_73 : decode cX13_layNames 73 = .ok (.iload_n 2, 1) := by decide +kernel
theorem dX13_layNames_74 : decode cX13_layNames 74 = .ok (.iastore, 1) := by decide +kernel
theorem dX13_layNames_75 : decode cX13_layNames 75 = .ok (.iinc 1 1, 3) := by decide +kernel
theorem dX13_layNames_78 : decode cX13_layNames 78 = .ok (.goto (-76), 3) := by decide +kernel
theorem dX13_layNames_81 : decode cX13_layNames 81 = .ok (.return_, 1) := by decide +kernel
set_option maxRecDepth 20000 in
theorem ggX13_putNumber_X13_number : GoodIn wsX13_putNumber wsX13_number := goodIn_r _ [7, 1, 8, 9, 10, 11, 6, 12, 13, 14, 15, 16, 17, 18, 19, 20, 21, 22, 23, 24, 25, 26, 27, 28, 29, 30, 31, 32, 33, 34, 35, 36, 37, 38, 39, 40, 41, 42, 43, 44, 45, 46, 47, 48, 49, 50, 51, 52, 53, 54, 55, 56, 57, 58, 59, 60, 61, 62, 63, 64, 65, 66, 67, 68, 69, 70, 71, 72, 73, 74, 75, 76, 77, 78, 79, 80, 81, 82, 83, 84, 85, 86, 87, 88, 89, 90, 91, 92, 93, 94, 95, 96, 97, 98, 99, 100] (by decide +kernel) (by decide +kernel)
set_option maxRecDepth 20000 in
theorem gX13_putNumber_X13_number : GoodIn wsX13_putNumber (wsV RX13 546 RX13 yX13_number wsX13_number) := goodIn_app (goodIn_of _ (by decide +kernel)) ggX13_putNumber_X13_number
theorem dX13_putNumber_0 : decode cX13_putNumber 0 = .ok (.aload_n 0, 1) := by decide +kernel
theorem dX13_putNumber_1 : decode cX13_putNumber 1 = .ok (.iload_n 2, 1) := by decide +kernel
theorem dX13_putNumber_2 : decode cX13_putNumber 2 = .ok (.iload_n 3, 1) := by decide +kernel
theorem dX13_putNumber_3 : decode cX13_putNumber 3 = .ok (.invokevirtual 546, 3) := by decide +kernel
theorem dX13_putNumber_6 : decode cX13_putNumber 6 = .ok (.istore 4, 2) := by decide +kernel
theorem dX13_putNumber_8 : decode cX13_putNumber 8 = .ok (.aload_n 0, 1) := by decide +kernel
theorem dX13_putNumber_9 : decode cX13_putNumber 9 = .ok (.getfield 490, 3) := by decide +kernel
theorem dX13_putNumber_12 : decode cX13_putNumber 12 = .ok (.ifCond .ne 11, 3) := by decide +kernel
theorem dX13_putNumber_15 : decode cX13_putNumber 15 = .ok (.aload_n 0, 1) := by decide +kernel
theorem dX13_putNumber_16 : decode cX13_putNumber 16 = .ok (.getfield 13, 3) := by decide +kernel
theorem dX13_putNumber_19 : decode cX13_putNumber 19 = .ok (.iload_n 1, 1) := by decide +kernel
theorem dX13_putNumber_20 : decode cX13_putNumber 20 = .ok (.iload 4, 2) := by decide +kernel
theorem dX13_putNumber_22 : decode cX13_putNumber 22 = .ok (.iastore, 1) := by decide +kernel
theorem dX13_putNumber_23 : decode cX13_putNumber 23 = .ok (.return_, 1) := by decide +kernel
set_option maxRecDepth 20000 in
theorem ggX13_readGroup_X13_scan : GoodIn wsX13_readGroup wsX13_scan := goodIn_r _ [5, 6, 7, 8, 9, 10, 11, 12, 4, 13, 14, 15, 16, 17, 18, 19, 20, 21, 22, 58, 59, 60, 61, 62, 63, 64, 65, 66, 67, 68, 69, 70, 71, 72, 73, 74, 75, 76, 77, 78, 79, 80, 81, 82, 83, 84, 85, 86, 87, 88, 89, 90, 91, 92, 93, 94, 95, 96, 97, 98, 99, 100, 101, 102, 103, 104] (by decide +kernel) (by decide +kernel)
set_option maxRecDepth 20000 in
theorem gX13_readGroup_X13_scan : GoodIn wsX13_readGroup (wsV RX13 496 RX13 yX13_scan wsX13_scan) := goodIn_app (goodIn_of _ (by decide +kernel)) ggX13_readGroup_X13_scan
set_option maxRecDepth 20000 in
theorem ggX13_readGroup_X13_putNumber : GoodIn wsX13_readGroup wsX13_putNumber := goodIn_r _ [26, 27, 28, 29, 30, 31, 4, 32, 9, 33, 34, 35, 36, 37, 38, 39, 40, 7, 41, 42, 43, 44, 45, 6, 46, 14, 47, 48, 49, 50, 51, 52, 53, 54, 55, 56, 57, 1, 2, 3, 5, 8, 10, 11, 12, 13, 15, 16, 17, 18, 19, 20, 21, 22, 58, 59, 60, 61, 62, 63, 64, 65, 66, 67, 68, 69, 70, 71, 72, 73, 74, 75, 76, 77, 78, 79, 80, 81, 82, 83, 84, 85, 86, 87, 88, 89, 90, 91, 92, 93, 94, 95, 96, 97, 98, 99, 100, 101, 102, 103, 104] (by decide +kernel) (by decide +kernel)
set_option maxRecDepth 20000 in
theorem gX13_readGroup_X13_putNumber : GoodIn wsX13_readGroup (wsV RX13 549 RX13 yX13_putNumber wsX13_putNumber) := goodIn_app (goodIn_of _ (by decide +kernel)) ggX13_readGroup_X13_putNumber
theorem dX13_readGroup_0 : decode cX13_readGroup 0 = .ok (.aload_n 0, 1) := by decide +kernel
theorem dX13_readGroup_1 : decode cX13_readGroup 1 = .ok (.invokevirtual 496, 3) := by decide +kernel
theorem dX13_readGroup_4 : decode cX13_readGroup 4 = .ok (.aload_n 0, 1) := by decide +kernel
theorem dX13_readGroup_5 : decode cX13_readGroup 5 = .ok (.iload_n 1, 1) := by decide +kernel
theorem dX13_readGroup_6 : decode cX13_readGroup 6 = .ok (.iconst 0, 1) := by decide +kernel
theorem dX13_readGroup_7 : decode cX13_readGroup 7 = .ok (.bipush 15, 2) := by decide +kernel
theorem dX13_readGroup_9 : decode cX13_readGroup 9 = .ok (.invokevirtual 549, 3) := by decide +kernel
theorem dX13_readGroup_12 : decode cX13_readGroup 12 = .ok (.aload_n 0, 1) := by decide +kernel
theorem dX13_readGroup_13 : decode cX13_readGroup 13 = .ok (.iload_n 1, 1) := by decide +kernel
theorem dX13_readGroup_14 : decode cX13_readGroup 14 = .ok (.iconst 1, 1) := by decide +kernel
theorem dX13_readGroup_15 : decode cX13_readGroup 15 = .ok (.iadd, 1) := by decide +kernel
theorem dX13_readGroup_16 : decode cX13_readGroup 16 = .ok (.iconst 1, 1) := by decide +kernel
theorem dX13_readGroup_17 : decode cX13_readGroup 17 = .ok (.iload_n 2, 1) := by decide +kernel
theorem dX13_readGroup_18 : decode cX13_readGroup 18 = .ok (.invokevirtual 549, 3) := by decide +kernel
theorem dX13_readGroup_21 : decode cX13_readGroup 21 = .ok (.return_, 1) := by decide +kernel
set_option maxRecDepth 20000 in
theorem ggX13_readLimit_X13_scan : GoodIn wsX13_readLimit wsX13_scan := goodIn_r _ [6, 7, 8, 9, 10, 11, 12, 13, 5, 14, 15, 16, 17, 18, 19, 20, 21, 22, 23, 58, 59, 60, 61, 62, 63, 64, 65, 66, 67, 68, 69, 70, 71, 72, 73, 74, 75, 76, 77, 78, 79, 80, 81, 82, 83, 84, 85, 86, 87, 88, 89, 90, 91, 92, 93, 94, 95, 96, 97, 98, 99, 100, 101, 102, 103, 104] (by decide +kernel) (by decide +kernel)
set_option maxRecDepth 20000 in
theorem gX13_readLimit_X13_scan : GoodIn wsX13_readLimit (wsV RX13 496 RX13 yX13_scan wsX13_scan) := goodIn_app (goodIn_of _ (by decide +kernel)) ggX13_readLimit_X13_scan
set_option maxRecDepth 20000 in
theorem ggX13_readLimit_X13_putNumber : GoodIn wsX13_readLimit wsX13_putNumber := goodIn_r _ [27, 28, 1, 29, 30, 31, 5, 32, 10, 33, 34, 35, 36, 37, 38, 39, 40, 8, 41, 42, 43, 44, 45, 7, 46, 15, 47, 48, 49, 50, 51, 52, 53, 54, 55, 56, 57, 2, 3, 4, 6, 9, 11, 12, 13, 14, 16, 17, 18, 19, 20, 21, 22, 23, 58, 59, 60, 61, 62, 63, 64, 65, 66, 67, 68, 69, 70, 71, 72, 73, 74, 75, 76, 77, 78, 79, 80, 81, 82, 83, 84, 85, 86, 87, 88, 89, 90, 91, 92, 93, 94, 95, 96, 97, 98, 99, 100, 101, 102, 103, 104] (by decide +kernel) (by decide +kernel)
set_option maxRecDepth 20000 in
theorem gX13_readLimit_X13_putNumber : GoodIn wsX13_readLimit (wsV RX13 549 RX13 yX13_putNumber wsX13_putNumber) := goodIn_app (goodIn_of _ (by decide +kernel)) ggX13_readLimit_X13_putNumber
theorem dX13_readLimit_0 : decode cX13_readLimit 0 = .ok (.aload_n 0, 1) := by decide +kernel
theorem dX13_readLimit_1 : decode cX13_readLimit 1 = .ok (.invokevirtual 496, 3) := by decide +kernel
theorem dX13_readLimit_4 : decode cX13_readLimit 4 = .ok (.aload_n 0, 1) := by decide +kernel
theorem dX13_readLimit_5 : decode cX13_readLimit 5 = .ok (.iload_n 1, 1) := by decide +kernel
theorem dX13_readLimit_6 : decode cX13_readLimit 6 = .ok (.iconst 1, 1) := by decide +kernel
theorem dX13_readLimit_7 : decode cX13_readLimit 7 = .ok (.bipush 32, 2) := by decide +kernel
theorem dX13_readLimit_9 : decode cX13_readLimit 9 = .ok (.invokevirtual 549, 3) := by decide +kernel
theorem dX13_readLimit_12 : decode cX13_readLimit 12 = .ok (.aload_n 0, 1) := by decide +kernel
theorem dX13_readLimit_13 : decode cX13_readLimit 13 = .ok (.getfield 13, 3) := by decide +kernel
theorem dX13_readLimit_16 : decode cX13_readLimit 16 = .ok (.iload_n 1, 1) := by decide +kernel
theorem dX13_readLimit_17 : decode cX13_readLimit 17 = .ok (.iconst 1, 1) := by decide +kernel
theorem dX13_readLimit_18 : decode cX13_readLimit 18 = .ok (.iadd, 1) := by decide +kernel
theorem dX13_readLimit_19 : decode cX13_readLimit 19 = .ok (.iconst 1, 1) := by decide +kernel
theorem dX13_readLimit_20 : decode cX13_readLimit 20 = .ok (.iastore, 1) := by decide +kernel
theorem dX13_readLimit_21 : decode cX13_readLimit 21 = .ok (.return_, 1) := by decide +kernel
set_option maxRecDepth 20000 in
theorem ggX13_join_X13_scan : GoodIn wsX13_join wsX13_scan := goodIn_r _ [6, 7, 8, 9, 10, 11, 12, 13, 5, 14, 15, 16, 17, 18, 19, 20, 21, 22, 23, 24, 25, 26, 27, 28, 29, 30, 31, 32, 33, 34, 35, 36, 37, 38, 39, 40, 41, 42, 43, 44, 45, 46, 47, 48, 49, 50, 51, 52, 53, 54, 55, 56, 57, 58, 59, 60, 61, 62, 63, 64, 65, 66, 67, 68, 69, 70] (by decide +kernel) (by decide +kernel)
set_option maxRecDepth 20000 in
theorem gX13_join_X13_scan : GoodIn wsX13_join (wsV RX13 496 RX13 yX13_scan wsX13_scan) := goodIn_app (goodIn_of _ (by decide +kernel)) ggX13_join_X13_scan
theorem dX13_join_0 : decode cX13_join 0 = .ok (.aload_n 0, 1) := by decide +kernel
theorem dX13_join_1 : decode cX13_join 1 = .ok (.invokevirtual 496, 3) := by decide +kernel
theorem dX13_join_4 : decode cX13_join 4 = .ok (.aload_n 0, 1) := by decide +kernel
theorem dX13_join_5 : decode cX13_join 5 = .ok (.getfield 13, 3) := by decide +kernel
theorem dX13_join_8 : decode cX13_join 8 = .ok (.iload_n 1, 1) := by decide +kernel
theorem dX13_join_9 : decode cX13_join 9 = .ok (.bipush 19, 2) := by decide +kernel
theorem dX13_join_11 : decode cX13_join 11 = .ok (.iadd, 1) := by decide +kernel
theorem dX13_join_12 : decode cX13_join 12 = .ok (.iload_n 2, 1) := by decide +kernel
theorem dX13_join_13 : decode cX13_join 13 = .ok (.iastore, 1) := by decide +kernel
theorem dX13_join_14 : decode cX13_join 14 = .ok (.aload_n 0, 1) := by decide +kernel
theorem dX13_join_15 : decode cX13_join 15 = .ok (.getfield 13, 3) := by decide +kernel
theorem dX13_join_18 : decode cX13_join 18 = .ok (.iload_n 1, 1) := by decide +kernel
theorem dX13_join_19 : decode cX13_join 19 = .ok (.bipush 20, 2) := by decide +kernel
theorem dX13_join_21 : decode cX13_join 21 = .ok (.iadd, 1) := by decide +kernel
theorem dX13_join_22 : decode cX13_join 22 = .ok (.bipush 8, 2) := by decide +kernel
theorem dX13_join_24 : decode cX13_join 24 = .ok (.iload_n 2, 1) := by decide +kernel
theorem dX13_join_25 : decode cX13_join 25 = .ok (.isub, 1) := by decide +kernel
theorem dX13_join_26 : decode cX13_join 26 = .ok (.iastore, 1) := by decide +kernel
theorem dX13_join_27 : decode cX13_join 27 = .ok (.return_, 1) := by decide +kernel
set_option maxRecDepth 20000 in
theorem ggX13_readClock_X13_number : GoodIn wsX13_readClock wsX13_number := goodIn_r _ [6, 7, 8, 9, 10, 11, 5, 12, 13, 14, 15, 16, 17, 18, 19, 20, 21, 22, 23, 24, 25, 26, 27, 28, 29, 30, 31, 32, 33, 34, 35, 36, 37, 38, 39, 40, 41, 42, 43, 44, 45, 46, 47, 48, 49, 50, 51, 52, 53, 54, 55, 56, 57, 58, 59, 60, 61, 62, 63, 64, 65, 66, 67, 68, 69, 70, 71, 72, 73, 74, 75, 76, 77, 78, 79, 80, 81, 82, 83, 84, 85, 86, 87, 88, 89, 90, 91, 92, 93, 94, 95, 96, 97, 98, 99, 100] (by decide +kernel) (by decide +kernel)
set_option maxRecDepth 20000 in
theorem gX13_readClock_X13_number : GoodIn wsX13_readClock (wsV RX13 546 RX13 yX13_number wsX13_number) := goodIn_app (goodIn_of _ (by decide +kernel)) ggX13_readClock_X13_number
theorem dX13_readClock_0 : decode cX13_readClock 0 = .ok (.aload_n 0, 1) := by decide +kernel
theorem dX13_readClock_1 : decode cX13_readClock 1 = .ok (.iconst 1, 1) := by decide +kernel
theorem dX13_readClock_2 : decode cX13_readClock 2 = .ok (.sipush 255, 3) := by decide +kernel
theorem dX13_readClock_5 : decode cX13_readClock 5 = .ok (.invokevirtual 546, 3) := by decide +kernel
theorem dX13_readClock_8 : decode cX13_readClock 8 = .ok (.istore_n 2, 1) := by decide +kernel
theorem dX13_readClock_9 : decode cX13_readClock 9 = .ok (.aload_n 0, 1) := by decide +kernel
theorem dX13_readClock_10 : decode cX13_readClock 10 = .ok (.iconst 0, 1) := by decide +kernel
theorem dX13_readClock_11 : decode cX13_readClock 11 = .ok (.sipush 255, 3) := by decide +kernel
theorem dX13_readClock_14 : decode cX13_readClock 14 = .ok (.invokevirtual 546, 3) := by decide +kernel
theorem dX13_readClock_17 : decode cX13_readClock 17 = .ok (.istore_n 3, 1) := by decide +kernel
theorem dX13_readClock_18 : decode cX13_readClock 18 = .ok (.aload_n 0, 1) := by decide +kernel
theorem dX13_readClock_19 : decode cX13_readClock 19 = .ok (.getfield 13, 3) := by decide +kernel
theorem dX13_readClock_22 : decode cX13_readClock 22 = .ok (.iload_n 1, 1) := by decide +kernel
theorem dX13_readClock_23 : decode cX13_readClock 23 = .ok (.iconst 2, 1) := by decide +kernel
theorem dX13_readClock_24 : decode cX13_readClock 24 = .ok (.iadd, 1) := by decide +kernel
theorem dX13_readClock_25 : decode cX13_readClock 25 = .ok (.sipush 256, 3) := by decide +kernel
theorem dX13_readClock_28 : decode cX13_readClock 28 = .ok (.iload_n 2, 1) := by decide +kernel
theorem dX13_readClock_29 : decode cX13_readClock 29 = .ok (.imul, 1) := by decide +kernel
theorem dX13_readClock_30 : decode cX13_readClock 30 = .ok (.iload_n 3, 1) := by decide +kernel
theorem dX13_readClock_31 : decode cX13_readClock 31 = .ok (.iadd, 1) := by decide +kernel
theorem dX13_readClock_32 : decode cX13_readClock 32 = .ok (.iastore, 1) := by decide +kernel
theorem dX13_readClock_33 : decode cX13_readClock 33 = .ok (.return_, 1) := by decide +kernel
set_option maxRecDepth 20000 in
theorem ggX13_readFlag_X13_accept : GoodIn wsX13_readFlag wsX13_accept := goodIn_r _ [6, 7, 8, 9, 5, 10, 11, 12, 13, 14, 15, 16, 17, 18, 19, 20, 21, 22, 23, 24, 25, 26, 27, 28, 29, 30, 31, 32, 33, 34, 35, 36, 37, 38, 39, 40, 41, 42, 43, 44, 45, 46, 47, 48, 49, 50, 51, 52, 53, 54, 55, 56, 57, 58, 59, 60, 61, 62, 63, 64, 65, 66, 67, 68, 69, 70, 71, 72, 73, 74, 75, 76, 77, 78, 79, 80, 81, 82, 83, 84, 85, 86, 87, 88, 89, 90, 91, 92, 93, 94, 95, 96, 97, 98, 99, 100, 101, 102, 103, 104, 105, 106, 107, 108, 109, 110, 111, 112, 113, 114, 115, 116, 117, 118, 119, 120, 121, 122, 123, 124, 125, 126, 127, 128, 129, 130, 131, 132] (by decide +kernel) (by decide +kernel)
set_option maxRecDepth 20000 in
theorem gX13_readFlag_X13_accept : GoodIn wsX13_readFlag (wsV RX13 552 RX13 yX13_accept wsX13_accept) := goodIn_app (goodIn_of _ (by decide +kernel)) ggX13_readFlag_X13_accept
theorem dX13_readFlag_0 : decode cX13_readFlag 0 = .ok (.aload_n 0, 1) := by decide +kernel
theorem dX13_readFlag_1 : decode cX13_readFlag 1 = .ok (.aload_n 2, 1) := by decide +kernel
theorem dX13_readFlag_2 : decode cX13_readFlag 2 = .ok (.invokevirtual 552, 3) := by decide +kernel
theorem dX13_readFlag_5 : decode cX13_readFlag 5 = .ok (.istore_n 3, 1) := by decide +kernel
theorem dX13_readFlag_6 : decode cX13_readFlag 6 = .ok (.aload_n 0, 1) := by decide +kernel
theorem dX13_readFlag_7 : decode cX13_readFlag 7 = .ok (.getfield 13, 3) := by decide +kernel
theorem dX13_readFlag_10 : decode cX13_readFlag 10 = .ok (.iload_n 1, 1) := by decide +kernel
theorem dX13_readFlag_11 : decode cX13_readFlag 11 = .ok (.iload_n 3, 1) := by decide +kernel
theorem dX13_readFlag_12 : decode cX13_readFlag 12 = .ok (.ifCond .eq 7, 3) := by decide +kernel
theorem dX13_readFlag_15 : decode cX13_readFlag 15 = .ok (.iconst 1, 1) := by decide +kernel
theorem dX13_readFlag_16 : decode cX13_readFlag 16 = .ok (.goto 9, 3) := by decide +kernel
theorem dX13_readFlag_19 : decode cX13_readFlag 19 = .ok (.aload_n 0, 1) := by decide +kernel
theorem dX13_readFlag_20 : decode cX13_readFlag 20 = .ok (.getfield 13, 3) := by decide +kernel
theorem dX13_readFlag_23 : decode cX13_readFlag 23 = .ok (.iload_n 1, 1) := by decide +kernel
theorem dX13_readFlag_24 : decode cX13_readFlag 24 = .ok (.iaload, 1) := by decide +kernel
theorem dX13_readFlag_25 : decode cX13_readFlag 25 = .ok (.iastore, 1) := by decide +kernel
theorem dX13_readFlag_26 : decode cX13_readFlag 26 = .ok (.iload_n 3, 1) := by decide +kernel
theorem dX13_readFlag_27 : decode cX13_readFlag 27 = .ok (.ireturn, 1) := by decide +kernel
set_option maxRecDepth 20000 in
theorem ggX13_readSetting_X13_accept : GoodIn wsX13_readSetting wsX13_accept := goodIn_r _ [6, 7, 8, 9, 5, 10, 1, 11, 12, 13, 14, 15, 16, 17, 18, 19, 20, 21, 22, 23, 24, 25, 26, 27, 28, 29, 30, 31, 32, 33, 34, 35, 36, 37, 38, 39, 40, 41, 42, 43, 44, 45, 46, 47, 48, 49, 50, 51, 52, 53, 54, 55, 56, 57, 58, 59, 60, 61, 62, 63, 64, 65, 66, 67, 68, 69, 70, 71, 72, 73, 74, 75, 76, 77, 78, 79, 80, 155, 156, 157, 158, 159, 160, 161, 162, 163, 164, 165, 166, 167, 168, 169, 170, 171, 172, 173, 174, 175, 176, 177, 178, 179, 180, 181, 182, 183, 184, 185, 186, 187, 188, 189, 190, 191, 192, 193, 194, 195, 196, 197, 198, 199, 200, 201, 202, 203, 204, 205] (by decide +kernel) (by decide +kernel)
set_option maxRecDepth 20000 in
theorem gX13_readSetting_X13_accept : GoodIn wsX13_readSetting (wsV RX13 552 RX13 yX13_accept wsX13_accept) := goodIn_app (goodIn_of _ (by decide +kernel)) ggX13_readSetting_X13_accept
set_option maxRecDepth 20000 in
theorem ggX13_readSetting_X13_readClock : GoodIn wsX13_readSetting wsX13_readClock := goodIn_r _ [84, 85, 86, 87, 88, 5, 89, 1, 11, 90, 91, 92, 93, 94, 95, 96, 97, 13, 98, 99, 100, 101, 102, 12, 103, 14, 104, 105, 106, 107, 108, 109, 110, 111, 112, 113, 114, 64, 65, 66, 67, 68, 69, 70, 71, 72, 73, 74, 75, 76, 77, 78, 79, 80, 155, 156, 157, 158, 159, 160, 161, 162, 163, 164, 165, 166, 167, 168, 169, 170, 171, 172, 173, 174, 175, 176, 177, 178, 179, 180, 181, 182, 183, 184, 185, 186, 187, 188, 189, 190, 191, 192, 193, 194, 195, 196, 197, 198, 199, 200, 201] (by decide +kernel) (by decide +kernel)
set_option maxRecDepth 20000 in
theorem gX13_readSetting_X13_readClock : GoodIn wsX13_readSetting (wsV RX13 555 RX13 yX13_readClock wsX13_readClock) := goodIn_app (goodIn_of _ (by decide +kernel)) ggX13_readSetting_X13_readClock
set_option maxRecDepth 20000 in
theorem ggX13_readSetting_X13_readName : GoodIn wsX13_readSetting wsX13_readName := goodIn_r _ [118, 1, 119, 120, 13, 121, 12, 122, 123, 124, 125, 5, 126, 11, 127, 128, 129, 130, 131, 132, 133, 134, 7, 8, 9, 10, 14, 15, 16, 17, 18, 19, 20, 21, 22, 23, 24, 25, 26, 27, 28, 29, 30, 31, 32, 33, 34, 35, 36, 37, 38, 39, 40, 41, 42, 43, 44, 45, 46, 47, 48, 49, 50, 51, 52, 53, 54, 55, 56, 57, 58, 59, 60, 61, 62, 63, 90, 91, 92, 93, 94, 95, 96, 97, 98, 111, 112, 113, 114, 64, 65, 66, 67, 68, 69, 70, 71, 72, 73, 74, 75, 76, 77, 78, 79, 80, 155, 156, 157, 158, 159, 160, 161, 162, 163, 164, 165, 166, 167, 168, 169, 170, 171, 172, 173, 174, 175, 176, 177, 178, 179, 180, 181, 182, 183, 184, 185, 186, 187, 188, 189, 190, 191, 192, 193, 194, 195, 196, 197, 198, 199, 200, 201, 202, 203, 204, 205] (by decide +kernel) (by decide +kernel)
set_option maxRecDepth 20000 in
theorem gX13_readSetting_X13_readName : GoodIn wsX13_readSetting (wsV RX13 558 RX13 yX13_readName wsX13_readName) := goodIn_app (goodIn_of _ (by decide +kernel)) ggX13_readSetting_X13_readName
set_option maxRecDepth 20000 in
theorem ggX13_readSetting_X13_isWord : GoodIn wsX13_readSetting wsX13_isWord := goodIn_r _ [10, 1, 11, 12, 13, 14, 15, 16, 17, 18, 19, 20, 21, 22, 23, 24, 25, 26, 27, 28, 29, 30, 31, 32, 33, 34, 35, 36, 37, 38, 39, 40, 41, 42, 43, 44, 45, 46, 47, 48, 49, 50, 51, 52, 53, 54, 55, 56, 57, 58, 59, 60, 61, 62, 63, 155, 156, 157, 158, 159, 160, 161, 162, 163, 164, 165, 166, 167, 168, 169, 170, 171, 172, 173, 174, 175, 176, 177, 178, 179, 180, 181, 182, 183, 184, 185, 186, 187, 188, 189, 190, 191, 192, 193, 194, 195, 196, 197, 198, 199, 200, 201, 202, 203, 204, 205] (by decide +kernel) (by decide +kernel)
set_option maxRecDepth 20000 in
theorem gX13_readSetting_X13_isWord : GoodIn wsX13_readSetting (wsV RX13 512 RX13 yX13_isWord wsX13_isWord) := goodIn_app (goodIn_of _ (by decide +kernel)) ggX13_readSetting_X13_isWord
set_option maxRecDepth 20000 in
theorem ggX13_readSetting_X13_readGroup : GoodIn wsX13_readSetting wsX13_readGroup := goodIn_r _ [138, 64, 65, 66, 5, 67, 12, 13, 68, 11, 69, 70, 71, 72, 14, 73, 74, 75, 76, 77, 78, 79, 80, 139, 140, 141, 142, 1, 85, 86, 87, 88, 89, 90, 91, 92, 93, 94, 95, 96, 97, 98, 99, 100, 101, 102, 103, 104, 105, 106, 107, 108, 109, 110, 111, 112, 113, 114, 155, 156, 157, 158, 159, 160, 161, 162, 163, 164, 165, 166, 167, 168, 169, 170, 171, 172, 173, 174, 175, 176, 177, 178, 179, 180, 181, 182, 183, 184, 185, 186, 187, 188, 189, 190, 191, 192, 193, 194, 195, 196, 197, 198, 199, 200, 201] (by decide +kernel) (by decide +kernel)
set_option maxRecDepth 20000 in
theorem gX13_readSetting_X13_readGroup : GoodIn wsX13_readSetting (wsV RX13 561 RX13 yX13_readGroup wsX13_readGroup) := goodIn_app (goodIn_of _ (by decide +kernel)) ggX13_readSetting_X13_readGroup
set_option maxRecDepth 20000 in
theorem ggX13_readSetting_X13_putNumber : GoodIn wsX13_readSetting wsX13_putNumber := goodIn_r _ [142, 1, 85, 86, 87, 88, 5, 89, 11, 90, 91, 92, 93, 94, 95, 96, 97, 13, 98, 99, 100, 101, 102, 12, 103, 14, 104, 105, 106, 107, 108, 109, 110, 111, 112, 113, 114, 64, 65, 66, 67, 68, 69, 70, 71, 72, 73, 74, 75, 76, 77, 78, 79, 80, 155, 156, 157, 158, 159, 160, 161, 162, 163, 164, 165, 166, 167, 168, 169, 170, 171, 172, 173, 174, 175, 176, 177, 178, 179, 180, 181, 182, 183, 184, 185, 186, 187, 188, 189, 190, 191, 192, 193, 194, 195, 196, 197, 198, 199, 200, 201] (by decide +kernel) (by decide +kernel)
set_option maxRecDepth 20000 in
theorem gX13_readSetting_X13_putNumber : GoodIn wsX13_readSetting (wsV RX13 549 RX13 yX13_putNumber wsX13_putNumber) := goodIn_app (goodIn_of _ (by decide +kernel)) ggX13_readSetting_X13_putNumber
set_option maxRecDepth 20000 in
theorem ggX13_readSetting_X13_readLimit : GoodIn wsX13_readSetting wsX13_readLimit := goodIn_r _ [146, 85, 64, 65, 66, 5, 67, 12, 13, 68, 11, 69, 70, 71, 72, 14, 73, 74, 75, 76, 77, 78, 79, 80, 139, 140, 141, 142, 1, 86, 87, 88, 89, 90, 91, 92, 93, 94, 95, 96, 97, 98, 99, 100, 101, 102, 103, 104, 105, 106, 107, 108, 109, 110, 111, 112, 113, 114, 155, 156, 157, 158, 159, 160, 161, 162, 163, 164, 165, 166, 167, 168, 169, 170, 171, 172, 173, 174, 175, 176, 177, 178, 179, 180, 181, 182, 183, 184, 185, 186, 187, 188, 189, 190, 191, 192, 193, 194, 195, 196, 197, 198, 199, 200, 201] (by decide +kernel) (by decide +kernel)
set_option maxRecDepth 20000 in
theorem gX13_readSetting_X13_readLimit : GoodIn wsX13_readSetting (wsV RX13 564 RX13 yX13_readLimit wsX13_readLimit) := goodIn_app (goodIn_of _ (by decide +kernel)) ggX13_readSetting_X13_readLimit
set_option maxRecDepth 20000 in
theorem ggX13_readSetting_X13_join : GoodIn wsX13_readSetting wsX13_join := goodIn_r _ [150, 85, 64, 65, 66, 5, 67, 12, 13, 68, 11, 69, 70, 71, 72, 14, 73, 74, 75, 76, 77, 78, 79, 80, 155, 156, 157, 158, 159, 160, 161, 162, 163, 164, 165, 166, 167, 168, 169, 170, 171, 172, 173, 174, 175, 176, 177, 178, 179, 180, 181, 182, 183, 184, 185, 186, 187, 188, 189, 190, 191, 192, 193, 194, 195, 196, 197, 198, 199, 200, 201] (by decide +kernel) (by decide +kernel)
set_option maxRecDepth 20000 in
theorem gX13_readSetting_X13_join : GoodIn wsX13_readSetting (wsV RX13 567 RX13 yX13_join wsX13_join) := goodIn_app (goodIn_of _ (by decide +kernel)) ggX13_readSetting_X13_join
set_option maxRecDepth 20000 in
theorem ggX13_readSetting_X13_readFlag : GoodIn wsX13_readSetting wsX13_readFlag := goodIn_r _ [154, 85, 2, 3, 4, 5, 6, 7, 8, 9, 10, 1, 11, 12, 13, 14, 15, 16, 17, 18, 19, 20, 21, 22, 23, 24, 25, 26, 27, 28, 29, 30, 31, 32, 33, 34, 35, 36, 37, 38, 39, 40, 41, 42, 43, 44, 45, 46, 47, 48, 49, 50, 51, 52, 53, 54, 55, 56, 57, 58, 59, 60, 61, 62, 63, 64, 65, 66, 67, 68, 69, 70, 71, 72, 73, 74, 75, 76, 77, 78, 79, 80, 155, 156, 157, 158, 159, 160, 161, 162, 163, 164, 165, 166, 167, 168, 169, 170, 171, 172, 173, 174, 175, 176, 177, 178, 179, 180, 181, 182, 183, 184, 185, 186, 187, 188, 189, 190, 191, 192, 193, 194, 195, 196, 197, 198, 199, 200, 201, 202, 203, 204, 205] (by decide +kernel) (by decide +kernel)
set_option maxRecDepth 20000 in
theorem gX13_readSetting_X13_readFlag : GoodIn wsX13_readSetting (wsV RX13 570 RX13 yX13_readFlag wsX13_readFlag) := goodIn_app (goodIn_of _ (by decide +kernel)) ggX13_readSetting_X13_readFlag
theorem dX13_readSetting_0 : decode cX13_readSetting 0 = .ok (.aload_n 0, 1) := by decide +kernel
theorem dX13_readSetting_1 : decode cX13_readSetting 1 = .ok (.ldc 139, 2) := by decide +kernel
theorem dX13_readSetting_3 : decode cX13_readSetting 3 = .ok (.invokevirtual 552, 3) := by decide +kernel
theorem dX13_readSetting_6 : decode cX13_readSetting 6 = .ok (.ifCond .eq 11, 3) := by decide +kernel
theorem dX13_readSetting_9 : decode cX13_readSetting 9 = .ok (.aload_n 0, 1) := by decide +kernel
theorem dX13_readSetting_10 : decode cX13_readSetting 10 = .ok (.iload_n 1, 1) := by decide +kernel
theorem dX13_readSetting_11 : decode cX13_readSetting 11 = .ok (.invokevirtual 555, 3) := by decide +kernel
theorem dX13_readSetting_14 : decode cX13_readSetting 14 = .ok (.goto 247, 3) := by decide +kernel
theorem dX13_readSetting_17 : decode cX13_readSetting 17 = .ok (.aload_n 0, 1) := by decide +kernel
theorem dX13_readSetting_18 : decode cX13_readSetting 18 = .ok (.ldc 141, 2) := by decide +kernel
theorem dX13_readSetting_20 : decode cX13_readSetting 20 = .ok (.invokevirtual 552, 3) := by decide +kernel
theorem dX13_readSetting_23 : decode cX13_readSetting 23 = .ok (.ifCond .eq 20, 3) := by decide +kernel
theorem dX13_readSetting_26 : decode cX13_readSetting 26 = .ok (.aload_n 0, 1) := by decide +kernel
theorem dX13_readSetting_27 : decode cX13_readSetting 27 = .ok (.iload_n 1, 1) := by decide +kernel
theorem dX13_readSetting_28 : decode cX13_readSetting 28 = .ok (.iconst 3, 1) := by decide +kernel
theorem dX13_readSetting_29 : decode cX13_readSetting 29 = .ok (.iadd, 1) := by decide +kernel
theorem dX13_readSetting_30 : decode cX13_readSetting 30 = .ok (.invokevirtual 558, 3) := by decide +kernel
theorem dX13_readSetting_33 : decode cX13_readSetting 33 = .ok (.aload_n 0, 1) := by decide +kernel
theorem dX13_readSetting_34 : decode cX13_readSetting 34 = .ok (.iload_n 1, 1) := by decide +kernel
theorem dX13_readSetting_35 : decode cX13_readSetting 35 = .ok (.iconst 4, 1) := by decide +kernel
theorem dX13_readSetting_36 : decode cX13_readSetting 36 = .ok (.iadd, 1) := by decide +kernel
theorem dX13_readSetting_37 : decode cX13_readSetting 37 = .ok (.invokevirtual 558, 3) := by decide +kernel
theorem dX13_readSetting_40 : decode cX13_readSetting 40 = .ok (.goto 221, 3) := by decide +kernel
theorem dX13_readSetting_43 : decode cX13_readSetting 43 = .ok (.aload_n 0, 1) := by decide +kernel
theorem dX13_readSetting_44 : decode cX13_readSetting 44 = .ok (.ldc 143, 2) := by decide +kernel
theorem dX13_readSetting_46 : decode cX13_readSetting 46 = .ok (.invokevirtual 512, 3) := by decide +kernel
theorem dX13_readSetting_49 : decode cX13_readSetting 49 = .ok (.ifCond .eq 15, 3) := by decide +kernel
theorem dX13_readSetting_52 : decode cX13_readSetting 52 = .ok (.aload_n 0, 1) := by decide +kernel
theorem dX13_readSetting_53 : decode cX13_readSetting 53 = .ok (.iload_n 1, 1) := by decide +kernel
theorem dX13_readSetting_54 : decode cX13_readSetting 54 = .ok (.iconst 5, 1) := by decide +kernel
theorem dX13_readSetting_55 : decode cX13_readSetting 55 = .ok (.iadd, 1) := by decide +kernel
theorem dX13_readSetting_56 : decode cX13_readSetting 56 = .ok (.bipush 16, 2) := by decide +kernel
theorem dX13_readSetting_58 : decode cX13_readSetting 58 = .ok (.invokevirtual 561, 3) := by decide +kernel
theorem dX13_readSetting_61 : decode cX13_readSetting 61 = .ok (.goto 200, 3) := by decide +kernel
theorem dX13_readSetting_64 : decode cX13_readSetting 64 = .ok (.aload_n 0, 1) := by decide +kernel
theorem dX13_readSetting_65 : decode cX13_readSetting 65 = .ok (.ldc 145, 2) := by decide +kernel
theorem dX13_readSetting_67 : decode cX13_readSetting 67 = .ok (.invokevirtual 512, 3) := by decide +kernel
theorem dX13_readSetting_70 : decode cX13_readSetting 70 = .ok (.ifCond .eq 15, 3) := by decide +kernel
theorem dX13_readSetting_73 : decode cX13_readSetting 73 = .ok (.aload_n 0, 1) := by decide +kernel
theorem dX13_readSetting_74 : decode cX13_readSetting 74 = .ok (.iload_n 1, 1) := by decide +kernel
theorem dX13_readSetting_75 : decode cX13_readSetting 75 = .ok (.bipush 7, 2) := by decide +kernel
theorem dX13_readSetting_77 : decode cX13_readSetting 77 = .ok (.iadd, 1) := by decide +kernel
theorem dX13_readSetting_78 : decode cX13_readSetting 78 = .ok (.iconst 5, 1) := by decide +kernel
theorem dX13_readSetting_79 : decode cX13_readSetting 79 = .ok (.invokevirtual 561, 3) := by decide +kernel
theorem dX13_readSetting_82 : decode cX13_readSetting 82 = .ok (.goto 179, 3) := by decide +kernel
theorem dX13_readSetting_85 : decode cX13_readSetting 85 = .ok (.aload_n 0, 1) := by decide +kernel
theorem dX13_readSetting_86 : decode cX13_readSetting 86 = .ok (.ldc 147, 2) := by decide +kernel
theorem dX13_readSetting_88 : decode cX13_readSetting 88 = .ok (.invokevirtual 512, 3) := by decide +kernel
theorem dX13_readSetting_91 : decode cX13_readSetting 91 = .ok (.ifCond .eq 15, 3) := by decide +kernel
theorem dX13_readSetting_94 : decode cX13_readSetting 94 = .ok (.aload_n 0, 1) := by decide +kernel
theorem dX13_readSetting_95 : decode cX13_readSetting 95 = .ok (.iload_n 1, 1) := by decide +kernel
theorem dX13_readSetting_96 : decode cX13_readSetting 96 = .ok (.bipush 9, 2) := by decide +kernel
theorem dX13_readSetting_98 : decode cX13_readSetting 98 = .ok (.iadd, 1) := by decide +kernel
theorem dX13_readSetting_99 : decode cX13_readSetting 99 = .ok (.iconst 4, 1) := by decide +kernel
theorem dX13_readSetting_100 : decode cX13_readSetting 100 = .ok (.invokevirtual 561, 3) := by decide +kernel
theorem dX13_readSetting_103 : decode cX13_readSetting 103 = .ok (.goto 158, 3) := by decide +kernel
theorem dX13_readSetting_106 : decode cX13_readSetting 106 = .ok (.aload_n 0, 1) := by decide +kernel
theorem dX13_readSetting_107 : decode cX13_readSetting 107 = .ok (.ldc 149, 2) := by decide +kernel
theorem dX13_readSetting_109 : decode cX13_readSetting 109 = .ok (.invokevirtual 552, 3) := by decide +kernel
theorem dX13_readSetting_112 : decode cX13_readSetting 112 = .ok (.ifCond .eq 17, 3) := by decide +kernel
theorem dX13_readSetting_115 : decode cX13_readSetting 115 = .ok (.aload_n 0, 1) := by decide +kernel
theorem dX13_readSetting_116 : decode cX13_readSetting 116 = .ok (.iload_n 1, 1) := by decide +kernel
theorem dX13_readSetting_117 : decode cX13_readSetting 117 = .ok (.bipush 11, 2) := by decide +kernel
theorem dX13_readSetting_119 : decode cX13_readSetting 119 = .ok (.iadd, 1) := by decide +kernel
theorem dX13_readSetting_120 : decode cX13_readSetting 120 = .ok (.iconst 0, 1) := by decide +kernel
theorem dX13_readSetting_121 : decode cX13_readSetting 121 = .ok (.bipush 15, 2) := by decide +kernel
theorem dX13_readSetting_123 : decode cX13_readSetting 123 = .ok (.invokevirtual 549, 3) := by decide +kernel
theorem dX13_readSetting_126 : decode cX13_readSetting 126 = .ok (.goto 135, 3) := by decide +kernel
theorem dX13_readSetting_129 : decode cX13_readSetting 129 = .ok (.aload_n 0, 1) := by decide +kernel
theorem dX13_readSetting_130 : decode cX13_readSetting 130 = .ok (.ldc 151, 2) := by decide +kernel
theorem dX13_readSetting_132 : decode cX13_readSetting 132 = .ok (.invokevirtual 552, 3) := by decide +kernel
theorem dX13_readSetting_135 : decode cX13_readSetting 135 = .ok (.ifCond .eq 17, 3) := by decide +kernel
theorem dX13_readSetting_138 : decode cX13_readSetting 138 = .ok (.aload_n 0, 1) := by decide +kernel
theorem dX13_readSetting_139 : decode cX13_readSetting 139 = .ok (.iload_n 1, 1) := by decide +kernel
theorem dX13_readSetting_140 : decode cX13_readSetting 140 = .ok (.bipush 12, 2) := by decide +kernel
theorem dX13_readSetting_142 : decode cX13_readSetting 142 = .ok (.iadd, 1) := by decide +kernel
theorem dX13_readSetting_143 : decode cX13_readSetting 143 = .ok (.iconst 0, 1) := by decide +kernel
theorem dX13_readSetting_144 : decode cX13_readSetting 144 = .ok (.bipush 15, 2) := by decide +kernel
theorem dX13_readSetting_146 : decode cX13_readSetting 146 = .ok (.invokevirtual 549, 3) := by decide +kernel
theorem dX13_readSetting_149 : decode cX13_readSetting 149 = .ok (.goto 112, 3) := by decide +kernel
theorem dX13_readSetting_152 : decode cX13_readSetting 152 = .ok (.aload_n 0, 1) := by decide +kernel
theorem dX13_readSetting_153 : decode cX13_readSetting 153 = .ok (.ldc 157, 2) := by decide +kernel
theorem dX13_readSetting_155 : decode cX13_readSetting 155 = .ok (.invokevirtual 512, 3) := by decide +kernel
theorem dX13_readSetting_158 : decode cX13_readSetting 158 = .ok (.ifCond .eq 14, 3) := by decide +kernel
theorem dX13_readSetting_161 : decode cX13_readSetting 161 = .ok (.aload_n 0, 1) := by decide +kernel
theorem dX13_readSetting_162 : decode cX13_readSetting 162 = .ok (.iload_n 1, 1) := by decide +kernel
theorem dX13_readSetting_163 : decode cX13_readSetting 163 = .ok (.bipush 15, 2) := by decide +kernel
theorem dX13_readSetting_165 : decode cX13_readSetting 165 = .ok (.iadd, 1) := by decide +kernel
theorem dX13_readSetting_166 : decode cX13_readSetting 166 = .ok (.invokevirtual 564, 3) := by decide +kernel
theorem dX13_readSetting_169 : decode cX13_readSetting 169 = .ok (.goto 92, 3) := by decide +kernel
theorem dX13_readSetting_172 : decode cX13_readSetting 172 = .ok (.aload_n 0, 1) := by decide +kernel
theorem dX13_readSetting_173 : decode cX13_readSetting 173 = .ok (.ldc 159, 2) := by decide +kernel
theorem dX13_readSetting_175 : decode cX13_readSetting 175 = .ok (.invokevirtual 512, 3) := by decide +kernel
theorem dX13_readSetting_178 : decode cX13_readSetting 178 = .ok (.ifCond .eq 14, 3) := by decide +kernel
theorem dX13_readSetting_181 : decode cX13_readSetting 181 = .ok (.aload_n 0, 1) := by decide +kernel
theorem dX13_readSetting_182 : decode cX13_readSetting 182 = .ok (.iload_n 1, 1) := by decide +kernel
theorem dX13_readSetting_183 : decode cX13_readSetting 183 = .ok (.bipush 17, 2) := by decide +kernel
theorem dX13_readSetting_185 : decode cX13_readSetting 185 = .ok (.iadd, 1) := by decide +kernel
theorem dX13_readSetting_186 : decode cX13_readSetting 186 = .ok (.invokevirtual 564, 3) := by decide +kernel
theorem dX13_readSetting_189 : decode cX13_readSetting 189 = .ok (.goto 72, 3) := by decide +kernel
theorem dX13_readSetting_192 : decode cX13_readSetting 192 = .ok (.aload_n 0, 1) := by decide +kernel
theorem dX13_readSetting_193 : decode cX13_readSetting 193 = .ok (.ldc 161, 2) := by decide +kernel
theorem dX13_readSetting_195 : decode cX13_readSetting 195 = .ok (.invokevirtual 512, 3) := by decide +kernel
theorem dX13_readSetting_198 : decode cX13_readSetting 198 = .ok (.ifCond .eq 13, 3) := by decide +kernel
theorem dX13_readSetting_201 : decode cX13_readSetting 201 = .ok (.aload_n 0, 1) := by decide +kernel
theorem dX13_readSetting_202 : decode cX13_readSetting 202 = .ok (.iload_n 1, 1) := by decide +kernel
theorem dX13_readSetting_203 : decode cX13_readSetting 203 = .ok (.bipush 8, 2) := by decide +kernel
theorem dX13_readSetting_205 : decode cX13_readSetting 205 = .ok (.invokevirtual 567, 3) := by decide +kernel
theorem dX13_readSetting_208 : decode cX13_readSetting 208 = .ok (.goto 53, 3) := by decide +kernel
theorem dX13_readSetting_211 : decode cX13_readSetting 211 = .ok (.aload_n 0, 1) := by decide +kernel
theorem dX13_readSetting_212 : decode cX13_readSetting 212 = .ok (.ldc 163, 2) := by decide +kernel
theorem dX13_readSetting_214 : decode cX13_readSetting 214 = .ok (.invokevirtual 512, 3) := by decide +kernel
theorem dX13_readSetting_217 : decode cX13_readSetting 217 = .ok (.ifCond .eq 12, 3) := by decide +kernel
theorem dX13_readSetting_220 : decode cX13_readSetting 220 = .ok (.aload_n 0, 1) := by decide +kernel
theorem dX13_readSetting_221 : decode cX13_readSetting 221 = .ok (.iload_n 1, 1) := by decide +kernel
theorem dX13_readSetting_222 : decode cX13_readSetting 222 = .ok (.iconst 0, 1) := by decide +kernel
theorem dX13_readSetting_223 : decode cX13_readSetting 223 = .ok (.invokevirtual 567, 3) := by decide +kernel
theorem dX13_readSetting_226 : decode cX13_readSetting 226 = .ok (.goto 35, 3) := by decide +kernel
theorem dX13_readSetting_229 : decode cX13_readSetting 229 = .ok (.aload_n 0, 1) := by decide +kernel
theorem dX13_readSetting_230 : decode cX13_readSetting 230 = .ok (.iload_n 1, 1) := by decide +kernel
theorem dX13_readSetting_231 : decode cX13_readSetting 231 = .ok (.bipush 13, 2) := by decide +kernel
theorem dX13_readSetting_233 : decode cX13_readSetting 233 = .ok (.iadd, 1) := by decide +kernel
theorem dX13_readSetting_234 : decode cX13_readSetting 234 = .ok (.ldc 153, 2) := by decide +kernel
theorem dX13_readSetting_236 : decode cX13_readSetting 236 = .ok (.invokevirtual 570, 3) := by decide +kernel
theorem dX13_readSetting_239 : decode cX13_readSetting 239 = .ok (.ifCond .ne 16, 3) := by decide +kernel
theorem dX13_readSetting_242 : decode cX13_readSetting 242 = .ok (.aload_n 0, 1) := by decide +kernel
theorem dX13_readSetting_243 : decode cX13_readSetting 243 = .ok (.iload_n 1, 1) := by decide +kernel
theorem dX13_readSetting_244 : decode cX13_readSetting 244 = .ok (.bipush 14, 2) := by decide +kernel
theorem dX13_readSetting_246 : decode cX13_readSetting 246 = .ok (.iadd, 1) := by decide +kernel
theorem dX13_readSetting_247 : decode cX13_readSetting 247 = .ok (.ldc 155, 2) := by decide +kernel
theorem dX13_readSetting_249 : decode cX13_readSetting 249 = .ok (.invokevirtual 570, 3) := by decide +kernel
theorem dX13_readSetting_252 : decode cX13_readSetting 252 = .ok (.ifCond .eq 7, 3) := by decide +kernel
theorem dX13_readSetting_255 : decode cX13_readSetting 255 = .ok (.iconst 1, 1) := by decide +kernel
theorem dX13_readSetting_256 : decode cX13_readSetting 256 = .ok (.goto 4, 3) := by decide +kernel
theorem dX13_readSetting_259 : decode cX13_readSetting 259 = .ok (.iconst 0, 1) := by decide +kernel
theorem dX13_readSetting_260 : decode cX13_readSetting 260 = .ok (.ireturn, 1) := by decide +kernel
theorem dX13_readSetting_261 : decode cX13_readSetting 261 = .ok (.aload_n 0, 1) := by decide +kernel
theorem dX13_readSetting_262 : decode cX13_readSetting 262 = .ok (.getfield 490, 3) := by decide +kernel
theorem dX13_readSetting_265 : decode cX13_readSetting 265 = .ok (.ifCond .ne 7, 3) := by decide +kernel
theorem dX13_readSetting_268 : decode cX13_readSetting 268 = .ok (.iconst 1, 1) := by decide +kernel
theorem dX13_readSetting_269 : decode cX13_readSetting 269 = .ok (.goto 4, 3) := by decide +kernel
theorem dX13_readSetting_272 : decode cX13_readSetting 272 = .ok (.iconst 0, 1) := by decide +kernel
theorem dX13_readSetting_273 : decode cX13_readSetting 273 = .ok (.ireturn, 1) := by decide +kernel
set_option maxRecDepth 20000 in
theorem ggX13_readEngine_X13_check : GoodIn wsX13_readEngine wsX13_check := goodIn_r _ [8, 9, 10, 11, 7, 12, 1, 13, 14, 163, 164, 165, 166, 167, 168, 169, 170, 171, 172, 173, 174, 175, 176, 177, 178, 179, 180, 181, 182, 183, 184, 185, 186, 187, 188, 189, 190, 191, 192, 193, 194, 195, 196, 197, 198, 199, 200, 201, 202, 203, 204, 205, 206, 207, 208, 209] (by decide +kernel) (by decide +kernel)
set_option maxRecDepth 20000 in
theorem gX13_readEngine_X13_check : GoodIn wsX13_readEngine (wsV RX13 516 RX13 yX13_check wsX13_check) := goodIn_app (goodIn_of _ (by decide +kernel)) ggX13_readEngine_X13_check
set_option maxRecDepth 20000 in
theorem ggX13_readEngine_X13_value : GoodIn wsX13_readEngine wsX13_value := goodIn_r _ [18, 13, 19, 2, 20, 21, 22, 23, 24, 25, 163, 164, 165, 166, 167, 168, 169, 170, 171, 172, 173, 174, 175, 176, 177, 178, 179, 180, 181, 182, 183, 184, 185, 186, 187, 188, 189, 190, 191, 192, 193, 194, 195, 196, 197, 198, 199, 200, 201, 202, 203, 204, 205, 206, 207, 208, 209] (by decide +kernel) (by decide +kernel)
set_option maxRecDepth 20000 in
theorem gX13_readEngine_X13_value : GoodIn wsX13_readEngine (wsV RX13 526 RX13 yX13_value wsX13_value) := goodIn_app (goodIn_of _ (by decide +kernel)) ggX13_readEngine_X13_value
set_option maxRecDepth 20000 in
theorem ggX13_readEngine_X13_inRange : GoodIn wsX13_readEngine wsX13_inRange := goodIn_r _ [28] (by decide +kernel) (by decide +kernel)
set_option maxRecDepth 20000 in
theorem gX13_readEngine_X13_inRange : GoodIn wsX13_readEngine (va_wsS RX13 245 yX13_inRange wsX13_inRange) := goodIn_app (goodIn_of _ (by decide +kernel)) ggX13_readEngine_X13_inRange
set_option maxRecDepth 20000 in
theorem ggX13_readEngine_X13_advance : GoodIn wsX13_readEngine wsX13_advance := goodIn_r _ [32, 1, 33, 34, 35, 7, 36, 19, 13, 37, 2, 38, 39, 40, 41, 21, 42, 43, 44, 45, 46, 47, 48, 49, 163, 164, 165, 166, 167, 168, 169, 170, 171, 172, 173, 174, 175, 176, 177, 178, 179, 180, 181, 182, 183, 184, 185, 186, 187, 188, 189, 190, 191, 192, 193, 194, 195, 196, 197, 198, 199, 200, 201, 202, 203, 204, 205, 206, 207, 208, 209] (by decide +kernel) (by decide +kernel)
set_option maxRecDepth 20000 in
theorem gX13_readEngine_X13_advance : GoodIn wsX13_readEngine (wsV RX13 520 RX13 yX13_advance wsX13_advance) := goodIn_app (goodIn_of _ (by decide +kernel)) ggX13_readEngine_X13_advance
set_option maxRecDepth 20000 in
theorem ggX13_readEngine_X13_expectWord : GoodIn wsX13_readEngine wsX13_expectWord := goodIn_r _ [53, 54, 55, 56, 7, 57, 1, 2, 19, 13, 21, 58, 59, 60, 61, 62, 63, 64, 65, 66, 67, 68, 69, 70, 71, 72, 73, 74, 75, 76, 77, 78, 79, 80, 81, 82, 83, 84, 85, 86, 87, 88, 89, 90, 91, 92, 93, 94, 95, 96, 97, 98, 99, 100, 101, 102, 103, 104, 105, 106, 4, 5, 6, 8, 9, 10, 11, 12, 14, 29, 30, 31, 32, 33, 34, 35, 36, 37, 38, 39, 40, 41, 42, 43, 44, 45, 46, 47, 48, 49, 163, 164, 165, 166, 167, 168, 169, 170, 171, 172, 173, 174, 175, 176, 177, 178, 179, 180, 181, 182, 183, 184, 185, 186, 187, 188, 189, 190, 191, 192, 193, 194, 195, 196, 197, 198, 199, 200, 201, 202, 203, 204, 205, 206, 207, 208, 209, 210, 211, 212, 213] (by decide +kernel) (by decide +kernel)
set_option maxRecDepth 20000 in
theorem gX13_readEngine_X13_expectWord : GoodIn wsX13_readEngine (wsV RX13 574 RX13 yX13_expectWord wsX13_expectWord) := goodIn_app (goodIn_of _ (by decide +kernel)) ggX13_readEngine_X13_expectWord
set_option maxRecDepth 20000 in
theorem ggX13_readEngine_X13_readName : GoodIn wsX13_readEngine wsX13_readName := goodIn_r _ [110, 1, 111, 112, 13, 113, 19, 114, 115, 116, 117, 7, 118, 2, 119, 120, 121, 122, 123, 124, 125, 126, 54, 55, 56, 57, 21, 58, 59, 60, 61, 62, 63, 64, 65, 66, 67, 68, 69, 70, 71, 72, 73, 74, 75, 76, 77, 78, 79, 80, 81, 82, 83, 84, 85, 86, 87, 88, 89, 90, 91, 92, 93, 94, 95, 96, 97, 98, 99, 100, 101, 102, 103, 104, 105, 106, 4, 5, 6, 8, 9, 10, 11, 12, 14, 29, 30, 31, 32, 33, 34, 35, 36, 37, 38, 39, 40, 41, 42, 43, 44, 45, 46, 47, 48, 49, 163, 164, 165, 166, 167, 168, 169, 170, 171, 172, 173, 174, 175, 176, 177, 178, 179, 180, 181, 182, 183, 184, 185, 186, 187, 188, 189, 190, 191, 192, 193, 194, 195, 196, 197, 198, 199, 200, 201, 202, 203, 204, 205, 206, 207, 208, 209, 210, 211, 212, 213] (by decide +kernel) (by decide +kernel)
set_option maxRecDepth 20000 in
theorem gX13_readEngine_X13_readName : GoodIn wsX13_readEngine (wsV RX13 558 RX13 yX13_readName wsX13_readName) := goodIn_app (goodIn_of _ (by decide +kernel)) ggX13_readEngine_X13_readName
set_option maxRecDepth 20000 in
theorem ggX13_readEngine_X13_readSetting : GoodIn wsX13_readEngine wsX13_readSetting := goodIn_r _ [130, 1, 131, 132, 133, 7, 134, 54, 55, 56, 57, 2, 19, 13, 21, 58, 59, 60, 61, 62, 63, 64, 65, 66, 67, 68, 69, 70, 71, 72, 73, 74, 75, 76, 77, 78, 79, 80, 81, 82, 83, 84, 85, 86, 87, 88, 89, 90, 91, 92, 93, 94, 95, 96, 97, 98, 99, 100, 101, 102, 103, 104, 105, 106, 33, 34, 35, 36, 37, 38, 39, 40, 41, 42, 43, 44, 45, 46, 47, 48, 49, 135, 136, 137, 138, 3, 139, 140, 141, 142, 4, 5, 6, 8, 9, 10, 11, 12, 14, 15, 16, 17, 18, 20, 22, 23, 24, 25, 26, 27, 28, 29, 30, 31, 32, 107, 108, 109, 110, 111, 112, 113, 114, 115, 116, 117, 118, 119, 120, 121, 122, 123, 124, 125, 126, 143, 144, 145, 146, 147, 148, 149, 150, 151, 152, 153, 154, 155, 156, 157, 158, 159, 160, 161, 162, 163, 164, 165, 166, 167, 168, 169, 170, 171, 172, 173, 174, 175, 176, 177, 178, 179, 180, 181, 182, 183, 184, 185, 186, 187, 188, 189, 190, 191, 192, 193, 194, 195, 196, 197, 198, 199, 200, 201, 202, 203, 204, 205, 206, 207, 208, 209, 210, 211, 212, 213] (by decide +kernel) (by decide +kernel)
set_option maxRecDepth 20000 in
theorem gX13_readEngine_X13_readSetting : GoodIn wsX13_readEngine (wsV RX13 578 RX13 yX13_readSetting wsX13_readSetting) := goodIn_app (goodIn_of _ (by decide +kernel)) ggX13_readEngine_X13_readSetting
theorem dX13_readEngine_0 : decode cX13_readEngine 0 = .ok (.aload_n 0, 1) := by decide +kernel
theorem dX13_readEngine_1 : decode cX13_readEngine 1 = .ok (.aload_n 0, 1) := by decide +kernel
theorem dX13_readEngine_2 : decode cX13_readEngine 2 = .ok (.getfield 490, 3) := by decide +kernel
theorem dX13_readEngine_5 : decode cX13_readEngine 5 = .ok (.ifCond .ne 11, 3) := by decide +kernel
theorem dX13_readEngine_8 : decode cX13_readEngine 8 = .ok (.aload_n 0, 1) := by decide +kernel
theorem dX13_readEngine_9 : decode cX13_readEngine 9 = .ok (.getfield 481, 3) := by decide +kernel
theorem dX13_readEngine_12 : decode cX13_readEngine 12 = .ok (.iconst 2, 1) := by decide +kernel
theorem dX13_readEngine_13 : decode cX13_readEngine 13 = .ok (.if_icmp .ne 7, 3) := by decide +kernel
theorem dX13_readEngine_16 : decode cX13_readEngine 16 = .ok (.iconst 1, 1) := by decide +kernel
theorem dX13_readEngine_17 : decode cX13_readEngine 17 = .ok (.goto 4, 3) := by decide +kernel
theorem dX13_readEngine_20 : decode cX13_readEngine 20 = .ok (.iconst 0, 1) := by decide +kernel
theorem dX13_readEngine_21 : decode cX13_readEngine 21 = .ok (.iconst 1, 1) := by decide +kernel
theorem dX13_readEngine_22 : decode cX13_readEngine 22 = .ok (.invokevirtual 516, 3) := by decide +kernel
theorem dX13_readEngine_25 : decode cX13_readEngine 25 = .ok (.aload_n 0, 1) := by decide +kernel
theorem dX13_readEngine_26 : decode cX13_readEngine 26 = .ok (.aload_n 0, 1) := by decide +kernel
theorem dX13_readEngine_27 : decode cX13_readEngine 27 = .ok (.getfield 490, 3) := by decide +kernel
theorem dX13_readEngine_30 : decode cX13_readEngine 30 = .ok (.ifCond .ne 15, 3) := by decide +kernel
theorem dX13_readEngine_33 : decode cX13_readEngine 33 = .ok (.aload_n 0, 1) := by decide +kernel
theorem dX13_readEngine_34 : decode cX13_readEngine 34 = .ok (.invokevirtual 526, 3) := by decide +kernel
theorem dX13_readEngine_37 : decode cX13_readEngine 37 = .ok (.iconst 0, 1) := by decide +kernel
theorem dX13_readEngine_38 : decode cX13_readEngine 38 = .ok (.iconst 3, 1) := by decide +kernel
theorem dX13_readEngine_39 : decode cX13_readEngine 39 = .ok (.invokestatic 245, 3) := by decide +kernel
theorem dX13_readEngine_42 : decode cX13_readEngine 42 = .ok (.ifCond .eq 7, 3) := by decide +kernel
theorem dX13_readEngine_45 : decode cX13_readEngine 45 = .ok (.iconst 1, 1) := by decide +kernel
theorem dX13_readEngine_46 : decode cX13_readEngine 46 = .ok (.goto 4, 3) := by decide +kernel
theorem dX13_readEngine_49 : decode cX13_readEngine 49 = .ok (.iconst 0, 1) := by decide +kernel
theorem dX13_readEngine_50 : decode cX13_readEngine 50 = .ok (.iconst 2, 1) := by decide +kernel
theorem dX13_readEngine_51 : decode cX13_readEngine 51 = .ok (.invokevirtual 516, 3) := by decide +kernel
theorem dX13_readEngine_54 : decode cX13_readEngine 54 = .ok (.sipush 476, 3) := by decide +kernel
theorem dX13_readEngine_57 : decode cX13_readEngine 57 = .ok (.bipush 21, 2) := by decide +kernel
theorem dX13_readEngine_59 : decode cX13_readEngine 59 = .ok (.aload_n 0, 1) := by decide +kernel
theorem dX13_readEngine_60 : decode cX13_readEngine 60 = .ok (.getfield 490, 3) := by decide +kernel
theorem dX13_readEngine_63 : decode cX13_readEngine 63 = .ok (.ifCond .ne 10, 3) := by decide +kernel
theorem dX13_readEngine_66 : decode cX13_readEngine 66 = .ok (.aload_n 0, 1) := by decide +kernel
theorem dX13_readEngine_67 : decode cX13_readEngine 67 = .ok (.invokevirtual 526, 3) := by decide +kernel
theorem dX13_readEngine_70 : decode cX13_readEngine 70 = .ok (.goto 4, 3) := by decide +kernel
theorem dX13_readEngine_73 : decode cX13_readEngine 73 = .ok (.iconst 0, 1) := by decide +kernel
theorem dX13_readEngine_74 : decode cX13_readEngine 74 = .ok (.imul, 1) := by decide +kernel
theorem dX13_readEngine_75 : decode cX13_readEngine 75 = .ok (.iadd, 1) := by decide +kernel
theorem dX13_readEngine_76 : decode cX13_readEngine 76 = .ok (.istore_n 1, 1) := by decide +kernel
theorem dX13_readEngine_77 : decode cX13_readEngine 77 = .ok (.aload_n 0, 1) := by decide +kernel
theorem dX13_readEngine_78 : decode cX13_readEngine 78 = .ok (.aload_n 0, 1) := by decide +kernel
theorem dX13_readEngine_79 : decode cX13_readEngine 79 = .ok (.getfield 490, 3) := by decide +kernel
theorem dX13_readEngine_82 : decode cX13_readEngine 82 = .ok (.ifCond .ne 14, 3) := by decide +kernel
theorem dX13_readEngine_85 : decode cX13_readEngine 85 = .ok (.aload_n 0, 1) := by decide +kernel
theorem dX13_readEngine_86 : decode cX13_readEngine 86 = .ok (.getfield 13, 3) := by decide +kernel
theorem dX13_readEngine_89 : decode cX13_readEngine 89 = .ok (.iload_n 1, 1) := by decide +kernel
theorem dX13_readEngine_90 : decode cX13_readEngine 90 = .ok (.iconst 0, 1) := by decide +kernel
theorem dX13_readEngine_91 : decode cX13_readEngine 91 = .ok (.iadd, 1) := by decide +kernel
theorem dX13_readEngine_92 : decode cX13_readEngine 92 = .ok (.iaload, 1) := by decide +kernel
theorem dX13_readEngine_93 : decode cX13_readEngine 93 = .ok (.ifCond .ne 7, 3) := by decide +kernel
theorem dX13_readEngine_96 : decode cX13_readEngine 96 = .ok (.iconst 1, 1) := by decide +kernel
theorem dX13_readEngine_97 : decode cX13_readEngine 97 = .ok (.goto 4, 3) := by decide +kernel
theorem dX13_readEngine_100 : decode cX13_readEngine 100 = .ok (.iconst 0, 1) := by decide +kernel
theorem dX13_readEngine_101 : decode cX13_readEngine 101 = .ok (.iconst 4, 1) := by decide +kernel
theorem dX13_readEngine_102 : decode cX13_readEngine 102 = .ok (.invokevirtual 516, 3) := by decide +kernel
theorem dX13_readEngine_105 : decode cX13_readEngine 105 = .ok (.aload_n 0, 1) := by decide +kernel
theorem dX13_readEngine_106 : decode cX13_readEngine 106 = .ok (.invokevirtual 520, 3) := by decide +kernel
theorem dX13_readEngine_109 : decode cX13_readEngine 109 = .ok (.aload_n 0, 1) := by decide +kernel
theorem dX13_readEngine_110 : decode cX13_readEngine 110 = .ok (.getfield 490, 3) := by decide +kernel
theorem dX13_readEngine_113 : decode cX13_readEngine 113 = .ok (.ifCond .eq 4, 3) := by decide +kernel
theorem dX13_readEngine_116 : decode cX13_readEngine 116 = .ok (.return_, 1) := by decide +kernel
theorem dX13_readEngine_117 : decode cX13_readEngine 117 = .ok (.aload_n 0, 1) := by decide +kernel
theorem dX13_readEngine_118 : decode cX13_readEngine 118 = .ok (.getfield 13, 3) := by decide +kernel
theorem dX13_readEngine_121 : decode cX13_readEngine 121 = .ok (.iload_n 1, 1) := by decide +kernel
theorem dX13_readEngine_122 : decode cX13_readEngine 122 = .ok (.iconst 0, 1) := by decide +kernel
theorem dX13_readEngine_123 : decode cX13_readEngine 123 = .ok (.iadd, 1) := by decide +kernel
theorem dX13_readEngine_124 : decode cX13_readEngine 124 = .ok (.iconst 1, 1) := by decide +kernel
theorem dX13_readEngine_125 : decode cX13_readEngine 125 = .ok (.iastore, 1) := by decide +kernel
theorem dX13_readEngine_126 : decode cX13_readEngine 126 = .ok (.aload_n 0, 1) := by decide +kernel
theorem dX13_readEngine_127 : decode cX13_readEngine 127 = .ok (.getfield 13, 3) := by decide +kernel
theorem dX13_readEngine_130 : decode cX13_readEngine 130 = .ok (.iload_n 1, 1) := by decide +kernel
theorem dX13_readEngine_131 : decode cX13_readEngine 131 = .ok (.iconst 2, 1) := by decide +kernel
theorem dX13_readEngine_132 : decode cX13_readEngine 132 = .ok (.iadd, 1) := by decide +kernel
theorem dX13_readEngine_133 : decode cX13_readEngine 133 = .ok (.sipush 256, 3) := by decide +kernel
theorem dX13_readEngine_136 : decode cX13_readEngine 136 = .ok (.iastore, 1) := by decide +kernel
theorem dX13_readEngine_137 : decode cX13_readEngine 137 = .ok (.aload_n 0, 1) := by decide +kernel
theorem dX13_readEngine_138 : decode cX13_readEngine 138 = .ok (.getfield 13, 3) := by decide +kernel
theorem dX13_readEngine_141 : decode cX13_readEngine 141 = .ok (.iload_n 1, 1) := by decide +kernel
theorem dX13_readEngine_142 : decode cX13_readEngine 142 = .ok (.iconst 4, 1) := by decide +kernel
theorem dX13_readEngine_143 : decode cX13_readEngine 143 = .ok (.iadd, 1) := by decide +kernel
theorem dX13_readEngine_144 : decode cX13_readEngine 144 = .ok (.iconst (-1), 1) := by decide +kernel
theorem dX13_readEngine_145 : decode cX13_readEngine 145 = .ok (.iastore, 1) := by decide +kernel
theorem dX13_readEngine_146 : decode cX13_readEngine 146 = .ok (.aload_n 0, 1) := by decide +kernel
theorem dX13_readEngine_147 : decode cX13_readEngine 147 = .ok (.getfield 13, 3) := by decide +kernel
theorem dX13_readEngine_150 : decode cX13_readEngine 150 = .ok (.iload_n 1, 1) := by decide +kernel
theorem dX13_readEngine_151 : decode cX13_readEngine 151 = .ok (.bipush 15, 2) := by decide +kernel
theorem dX13_readEngine_153 : decode cX13_readEngine 153 = .ok (.iadd, 1) := by decide +kernel
theorem dX13_readEngine_154 : decode cX13_readEngine 154 = .ok (.bipush 32, 2) := by decide +kernel
theorem dX13_readEngine_156 : decode cX13_readEngine 156 = .ok (.iastore, 1) := by decide +kernel
theorem dX13_readEngine_157 : decode cX13_readEngine 157 = .ok (.aload_n 0, 1) := by decide +kernel
theorem dX13_readEngine_158 : decode cX13_readEngine 158 = .ok (.getfield 13, 3) := by decide +kernel
theorem dX13_readEngine_161 : decode cX13_readEngine 161 = .ok (.iload_n 1, 1) := by decide +kernel
theorem dX13_readEngine_162 : decode cX13_readEngine 162 = .ok (.bipush 17, 2) := by decide +kernel
theorem dX13_readEngine_164 : decode cX13_readEngine 164 = .ok (.iadd, 1) := by decide +kernel
theorem dX13_readEngine_165 : decode cX13_readEngine 165 = .ok (.bipush 32, 2) := by decide +kernel
theorem dX13_readEngine_167 : decode cX13_readEngine 167 = .ok (.iastore, 1) := by decide +kernel
theorem dX13_readEngine_168 : decode cX13_readEngine 168 = .ok (.aload_n 0, 1) := by decide +kernel
theorem dX13_readEngine_169 : decode cX13_readEngine 169 = .ok (.getfield 13, 3) := by decide +kernel
theorem dX13_readEngine_172 : decode cX13_readEngine 172 = .ok (.iload_n 1, 1) := by decide +kernel
theorem dX13_readEngine_173 : decode cX13_readEngine 173 = .ok (.bipush 19, 2) := by decide +kernel
theorem dX13_readEngine_175 : decode cX13_readEngine 175 = .ok (.iadd, 1) := by decide +kernel
theorem dX13_readEngine_176 : decode cX13_readEngine 176 = .ok (.iconst 4, 1) := by decide +kernel
theorem dX13_readEngine_177 : decode cX13_readEngine 177 = .ok (.iastore, 1) := by decide +kernel
theorem dX13_readEngine_178 : decode cX13_readEngine 178 = .ok (.aload_n 0, 1) := by decide +kernel
theorem dX13_readEngine_179 : decode cX13_readEngine 179 = .ok (.getfield 13, 3) := by decide +kernel
theorem dX13_readEngine_182 : decode cX13_readEngine 182 = .ok (.iload_n 1, 1) := by decide +kernel
theorem dX13_readEngine_183 : decode cX13_readEngine 183 = .ok (.bipush 20, 2) := by decide +kernel
theorem dX13_readEngine_185 : decode cX13_readEngine 185 = .ok (.iadd, 1) := by decide +kernel
theorem dX13_readEngine_186 : decode cX13_readEngine 186 = .ok (.iconst 4, 1) := by decide +kernel
theorem dX13_readEngine_187 : decode cX13_readEngine 187 = .ok (.iastore, 1) := by decide +kernel
theorem dX13_readEngine_188 : decode cX13_readEngine 188 = .ok (.aload_n 0, 1) := by decide +kernel
theorem dX13_readEngine_189 : decode cX13_readEngine 189 = .ok (.ldc 131, 2) := by decide +kernel
theorem dX13_readEngine_191 : decode cX13_readEngine 191 = .ok (.invokevirtual 574, 3) := by decide +kernel
theorem dX13_readEngine_194 : decode cX13_readEngine 194 = .ok (.aload_n 0, 1) := by decide +kernel
theorem dX13_readEngine_195 : decode cX13_readEngine 195 = .ok (.iload_n 1, 1) := by decide +kernel
theorem dX13_readEngine_196 : decode cX13_readEngine 196 = .ok (.iconst 1, 1) := by decide +kernel
theorem dX13_readEngine_197 : decode cX13_readEngine 197 = .ok (.iadd, 1) := by decide +kernel
theorem dX13_readEngine_198 : decode cX13_readEngine 198 = .ok (.invokevirtual 558, 3) := by decide +kernel
theorem dX13_readEngine_201 : decode cX13_readEngine 201 = .ok (.aload_n 0, 1) := by decide +kernel
theorem dX13_readEngine_202 : decode cX13_readEngine 202 = .ok (.iload_n 1, 1) := by decide +kernel
theorem dX13_readEngine_203 : decode cX13_readEngine 203 = .ok (.invokevirtual 578, 3) := by decide +kernel
theorem dX13_readEngine_206 : decode cX13_readEngine 206 = .ok (.ifCond .eq 15, 3) := by decide +kernel
theorem dX13_readEngine_209 : decode cX13_readEngine 209 = .ok (.aload_n 0, 1) := by decide +kernel
theorem dX13_readEngine_210 : decode cX13_readEngine 210 = .ok (.getfield 13, 3) := by decide +kernel
theorem dX13_readEngine_213 : decode cX13_readEngine 213 = .ok (.iload_n 1, 1) := by decide +kernel
theorem dX13_readEngine_214 : decode cX13_readEngine 214 = .ok (.iconst 0, 1) := by decide +kernel
theorem dX13_readEngine_215 : decode cX13_readEngine 215 = .ok (.iadd, 1) := by decide +kernel
theorem dX13_readEngine_216 : decode cX13_readEngine 216 = .ok (.iconst 1, 1) := by decide +kernel
theorem dX13_readEngine_217 : decode cX13_readEngine 217 = .ok (.iastore, 1) := by decide +kernel
theorem dX13_readEngine_218 : decode cX13_readEngine 218 = .ok (.goto (-17), 3) := by decide +kernel
theorem dX13_readEngine_221 : decode cX13_readEngine 221 = .ok (.return_, 1) := by decide +kernel
set_option maxRecDepth 20000 in
theorem ggX13_readLevel_X13_number : GoodIn wsX13_readLevel wsX13_number := goodIn_r _ [5, 6, 7, 8, 9, 10, 4, 11, 12, 13, 14, 15, 16, 17, 18, 19, 20, 21, 22, 23, 24, 25, 26, 27, 28, 29, 30, 31, 32, 33, 34, 35, 36, 37, 38, 39, 40, 41, 42, 43, 44, 45, 46, 47, 48, 49, 50, 51, 52, 58, 59, 60, 61, 62, 63, 64, 65, 66, 67, 68, 69, 70, 71, 72, 73, 74, 75, 76, 77, 78, 79, 80, 81, 82, 83, 84, 85, 86, 87, 88, 89, 90, 91, 92, 93, 94, 95, 96, 97, 98, 99, 100, 101, 102, 103, 104] (by decide +kernel) (by decide +kernel)
set_option maxRecDepth 20000 in
theorem gX13_readLevel_X13_number : GoodIn wsX13_readLevel (wsV RX13 546 RX13 yX13_number wsX13_number) := goodIn_app (goodIn_of _ (by decide +kernel)) ggX13_readLevel_X13_number
set_option maxRecDepth 20000 in
theorem ggX13_readLevel_X13_putNumber : GoodIn wsX13_readLevel wsX13_putNumber := goodIn_r _ [56, 6, 57, 1, 2, 3, 4, 5, 7, 8, 9, 10, 11, 12, 13, 14, 15, 16, 17, 18, 19, 20, 21, 22, 23, 24, 25, 26, 27, 28, 29, 30, 31, 32, 33, 34, 35, 36, 37, 38, 39, 40, 41, 42, 43, 44, 45, 46, 47, 48, 49, 50, 51, 52, 58, 59, 60, 61, 62, 63, 64, 65, 66, 67, 68, 69, 70, 71, 72, 73, 74, 75, 76, 77, 78, 79, 80, 81, 82, 83, 84, 85, 86, 87, 88, 89, 90, 91, 92, 93, 94, 95, 96, 97, 98, 99, 100, 101, 102, 103, 104] (by decide +kernel) (by decide +kernel)
set_option maxRecDepth 20000 in
theorem gX13_readLevel_X13_putNumber : GoodIn wsX13_readLevel (wsV RX13 549 RX13 yX13_putNumber wsX13_putNumber) := goodIn_app (goodIn_of _ (by decide +kernel)) ggX13_readLevel_X13_putNumber
theorem dX13_readLevel_0 : decode cX13_readLevel 0 = .ok (.aload_n 0, 1) := by decide +kernel
theorem dX13_readLevel_1 : decode cX13_readLevel 1 = .ok (.iconst 0, 1) := by decide +kernel
theorem dX13_readLevel_2 : decode cX13_readLevel 2 = .ok (.bipush 15, 2) := by decide +kernel
theorem dX13_readLevel_4 : decode cX13_readLevel 4 = .ok (.invokevirtual 546, 3) := by decide +kernel
theorem dX13_readLevel_7 : decode cX13_readLevel 7 = .ok (.istore_n 1, 1) := by decide +kernel
theorem dX13_readLevel_8 : decode cX13_readLevel 8 = .ok (.aload_n 0, 1) := by decide +kernel
theorem dX13_readLevel_9 : decode cX13_readLevel 9 = .ok (.iconst 4, 1) := by decide +kernel
theorem dX13_readLevel_10 : decode cX13_readLevel 10 = .ok (.bipush 6, 2) := by decide +kernel
theorem dX13_readLevel_12 : decode cX13_readLevel 12 = .ok (.iload_n 1, 1) := by decide +kernel
theorem dX13_readLevel_13 : decode cX13_readLevel 13 = .ok (.imul, 1) := by decide +kernel
theorem dX13_readLevel_14 : decode cX13_readLevel 14 = .ok (.iadd, 1) := by decide +kernel
theorem dX13_readLevel_15 : decode cX13_readLevel 15 = .ok (.iconst 2, 1) := by decide +kernel
theorem dX13_readLevel_16 : decode cX13_readLevel 16 = .ok (.iadd, 1) := by decide +kernel
theorem dX13_readLevel_17 : decode cX13_readLevel 17 = .ok (.iconst 0, 1) := by decide +kernel
theorem dX13_readLevel_18 : decode cX13_readLevel 18 = .ok (.iconst 1, 1) := by decide +kernel
theorem dX13_readLevel_19 : decode cX13_readLevel 19 = .ok (.invokevirtual 549, 3) := by decide +kernel
theorem dX13_readLevel_22 : decode cX13_readLevel 22 = .ok (.return_, 1) := by decide +kernel
set_option maxRecDepth 20000 in
theorem ggX13_readPlace_X13_indexIn : GoodIn wsX13_readPlace wsX13_indexIn := goodIn_r _ [8, 9, 10, 11, 7, 12, 2, 13, 14, 15, 16, 17, 18, 19, 20, 21, 22, 23, 24, 25, 26, 27, 28, 29, 30, 31, 32, 33, 34, 35, 36, 37, 38, 39, 40, 41, 42, 43, 44, 45, 46, 47, 48, 49, 50, 51, 52, 53, 54, 55, 56, 57, 58, 59, 60, 61, 62, 63, 64, 65, 96, 97, 98, 99, 100, 101, 102, 103, 104, 105, 106, 107, 108, 109, 110, 111, 112, 113, 114, 115, 116, 117, 118, 119, 120, 121, 122, 123, 124, 125, 126, 127, 128, 129, 130, 131, 132, 133, 134, 135, 136, 137, 138, 139, 140, 141, 142, 143, 144, 145, 146] (by decide +kernel) (by decide +kernel)
set_option maxRecDepth 20000 in
theorem gX13_readPlace_X13_indexIn : GoodIn wsX13_readPlace (wsV RX13 529 RX13 yX13_indexIn wsX13_indexIn) := goodIn_app (goodIn_of _ (by decide +kernel)) ggX13_readPlace_X13_indexIn
set_option maxRecDepth 20000 in
theorem ggX13_readPlace_X13_check : GoodIn wsX13_readPlace wsX13_check := goodIn_r _ [69, 70, 71, 72, 7, 73, 2, 15, 74, 96, 97, 98, 99, 100, 101, 102, 103, 104, 105, 106, 107, 108, 109, 110, 111, 112, 113, 114, 115, 116, 117, 118, 119, 120, 121, 122, 123, 124, 125, 126, 127, 128, 129, 130, 131, 132, 133, 134, 135, 136, 137, 138, 139, 140, 141, 142] (by decide +kernel) (by decide +kernel)
set_option maxRecDepth 20000 in
theorem gX13_readPlace_X13_check : GoodIn wsX13_readPlace (wsV RX13 516 RX13 yX13_check wsX13_check) := goodIn_app (goodIn_of _ (by decide +kernel)) ggX13_readPlace_X13_check
set_option maxRecDepth 20000 in
theorem ggX13_readPlace_X13_advance : GoodIn wsX13_readPlace wsX13_advance := goodIn_r _ [78, 2, 79, 80, 81, 7, 82, 14, 15, 83, 13, 84, 85, 86, 87, 16, 88, 89, 90, 91, 92, 93, 94, 95, 96, 97, 98, 99, 100, 101, 102, 103, 104, 105, 106, 107, 108, 109, 110, 111, 112, 113, 114, 115, 116, 117, 118, 119, 120, 121, 122, 123, 124, 125, 126, 127, 128, 129, 130, 131, 132, 133, 134, 135, 136, 137, 138, 139, 140, 141, 142] (by decide +kernel) (by decide +kernel)
set_option maxRecDepth 20000 in
theorem gX13_readPlace_X13_advance : GoodIn wsX13_readPlace (wsV RX13 520 RX13 yX13_advance wsX13_advance) := goodIn_app (goodIn_of _ (by decide +kernel)) ggX13_readPlace_X13_advance
theorem dX13_readPlace_0 : decode cX13_readPlace 0 = .ok (.aload_n 0, 1) := by decide +kernel
theorem dX13_readPlace_1 : decode cX13_readPlace 1 = .ok (.aload_n 0, 1) := by decide +kernel
theorem dX13_readPlace_2 : decode cX13_readPlace 2 = .ok (.getfield 126, 3) := by decide +kernel
theorem dX13_readPlace_5 : decode cX13_readPlace 5 = .ok (.invokevirtual 529, 3) := by decide +kernel
theorem dX13_readPlace_8 : decode cX13_readPlace 8 = .ok (.istore_n 3, 1) := by decide +kernel
theorem dX13_readPlace_9 : decode cX13_readPlace 9 = .ok (.aload_n 0, 1) := by decide +kernel
theorem dX13_readPlace_10 : decode cX13_readPlace 10 = .ok (.aload_n 0, 1) := by decide +kernel
theorem dX13_readPlace_11 : decode cX13_readPlace 11 = .ok (.getfield 490, 3) := by decide +kernel
theorem dX13_readPlace_14 : decode cX13_readPlace 14 = .ok (.ifCond .ne 17, 3) := by decide +kernel
theorem dX13_readPlace_17 : decode cX13_readPlace 17 = .ok (.iload_n 3, 1) := by decide +kernel
theorem dX13_readPlace_18 : decode cX13_readPlace 18 = .ok (.iconst (-1), 1) := by decide +kernel
theorem dX13_readPlace_19 : decode cX13_readPlace 19 = .ok (.if_icmp .eq 16, 3) := by decide +kernel
theorem dX13_readPlace_22 : decode cX13_readPlace 22 = .ok (.iload_n 2, 1) := by decide +kernel
theorem dX13_readPlace_23 : decode cX13_readPlace 23 = .ok (.iload_n 3, 1) := by decide +kernel
theorem dX13_readPlace_24 : decode cX13_readPlace 24 = .ok (.ishr, 1) := by decide +kernel
theorem dX13_readPlace_25 : decode cX13_readPlace 25 = .ok (.iconst 1, 1) := by decide +kernel
theorem dX13_readPlace_26 : decode cX13_readPlace 26 = .ok (.iand, 1) := by decide +kernel
theorem dX13_readPlace_27 : decode cX13_readPlace 27 = .ok (.iconst 1, 1) := by decide +kernel
theorem dX13_readPlace_28 : decode cX13_readPlace 28 = .ok (.if_icmp .ne 7, 3) := by decide +kernel
theorem dX13_readPlace_31 : decode cX13_readPlace 31 = .ok (.iconst 1, 1) := by decide +kernel
theorem dX13_readPlace_32 : decode cX13_readPlace 32 = .ok (.goto 4, 3) := by decide +kernel
theorem dX13_readPlace_35 : decode cX13_readPlace 35 = .ok (.iconst 0, 1) := by decide +kernel
theorem dX13_readPlace_36 : decode cX13_readPlace 36 = .ok (.iconst 1, 1) := by decide +kernel
theorem dX13_readPlace_37 : decode cX13_readPlace 37 = .ok (.invokevirtual 516, 3) := by decide +kernel
theorem dX13_readPlace_40 : decode cX13_readPlace 40 = .ok (.aload_n 0, 1) := by decide +kernel
theorem dX13_readPlace_41 : decode cX13_readPlace 41 = .ok (.getfield 490, 3) := by decide +kernel
theorem dX13_readPlace_44 : decode cX13_readPlace 44 = .ok (.ifCond .ne 10, 3) := by decide +kernel
theorem dX13_readPlace_47 : decode cX13_readPlace 47 = .ok (.aload_n 0, 1) := by decide +kernel
theorem dX13_readPlace_48 : decode cX13_readPlace 48 = .ok (.getfield 13, 3) := by decide +kernel
theorem dX13_readPlace_51 : decode cX13_readPlace 51 = .ok (.iload_n 1, 1) := by decide +kernel
theorem dX13_readPlace_52 : decode cX13_readPlace 52 = .ok (.iload_n 3, 1) := by decide +kernel
theorem dX13_readPlace_53 : decode cX13_readPlace 53 = .ok (.iastore, 1) := by decide +kernel
theorem dX13_readPlace_54 : decode cX13_readPlace 54 = .ok (.aload_n 0, 1) := by decide +kernel
theorem dX13_readPlace_55 : decode cX13_readPlace 55 = .ok (.invokevirtual 520, 3) := by decide +kernel
theorem dX13_readPlace_58 : decode cX13_readPlace 58 = .ok (.return_, 1) := by decide +kernel
set_option maxRecDepth 20000 in
theorem ggX13_readJump_X13_indexIn : GoodIn wsX13_readJump wsX13_indexIn := goodIn_r _ [7, 8, 9, 10, 6, 11, 12, 13, 14, 15, 16, 17, 18, 19, 20, 21, 22, 23, 24, 25, 26, 27, 28, 29, 30, 31, 32, 33, 34, 35, 36, 37, 38, 39, 40, 41, 42, 43, 44, 45, 46, 47, 48, 49, 50, 51, 52, 53, 54, 55, 56, 57, 58, 59, 60, 61, 62, 63, 64, 65, 111, 112, 113, 114, 115, 116, 117, 118, 119, 120, 121, 122, 123, 124, 125, 126, 127, 128, 129, 130, 131, 132, 133, 134, 135, 136, 137, 138, 139, 140, 141, 142, 143, 144, 145, 146, 147, 148, 149, 150, 151, 152, 153, 154, 155, 156, 157, 158, 159, 160, 161] (by decide +kernel) (by decide +kernel)
set_option maxRecDepth 20000 in
theorem gX13_readJump_X13_indexIn : GoodIn wsX13_readJump (wsV RX13 529 RX13 yX13_indexIn wsX13_indexIn) := goodIn_app (goodIn_of _ (by decide +kernel)) ggX13_readJump_X13_indexIn
set_option maxRecDepth 20000 in
theorem ggX13_readJump_X13_scan : GoodIn wsX13_readJump wsX13_scan := goodIn_r _ [69, 14, 15, 70, 13, 71, 72, 73, 6, 74, 16, 75, 76, 77, 78, 79, 80, 81, 82, 111, 112, 113, 114, 115, 116, 117, 118, 119, 120, 121, 122, 123, 124, 125, 126, 127, 128, 129, 130, 131, 132, 133, 134, 135, 136, 137, 138, 139, 140, 141, 142, 143, 144, 145, 146, 147, 148, 149, 150, 151, 152, 153, 154, 155, 156, 157] (by decide +kernel) (by decide +kernel)
set_option maxRecDepth 20000 in
theorem gX13_readJump_X13_scan : GoodIn wsX13_readJump (wsV RX13 496 RX13 yX13_scan wsX13_scan) := goodIn_app (goodIn_of _ (by decide +kernel)) ggX13_readJump_X13_scan
set_option maxRecDepth 20000 in
theorem ggX13_readJump_X13_readName : GoodIn wsX13_readJump wsX13_readName := goodIn_r _ [86, 12, 87, 88, 15, 89, 14, 90, 91, 92, 93, 6, 94, 13, 95, 1, 96, 97, 3, 4, 5, 7, 8, 9, 10, 11, 16, 17, 18, 19, 20, 21, 22, 23, 24, 25, 26, 27, 28, 29, 30, 31, 32, 33, 34, 35, 36, 37, 38, 39, 40, 41, 42, 43, 44, 45, 46, 47, 48, 49, 50, 51, 52, 53, 54, 55, 56, 57, 58, 59, 60, 61, 62, 63, 64, 65, 98, 99, 100, 101, 102, 103, 104, 105, 106, 107, 108, 109, 110, 66, 67, 68, 69, 70, 71, 72, 73, 74, 75, 76, 77, 78, 79, 80, 81, 82, 111, 112, 113, 114, 115, 116, 117, 118, 119, 120, 121, 122, 123, 124, 125, 126, 127, 128, 129, 130, 131, 132, 133, 134, 135, 136, 137, 138, 139, 140, 141, 142, 143, 144, 145, 146, 147, 148, 149, 150, 151, 152, 153, 154, 155, 156, 157, 158, 159, 160, 161] (by decide +kernel) (by decide +kernel)
set_option maxRecDepth 20000 in
theorem gX13_readJump_X13_readName : GoodIn wsX13_readJump (wsV RX13 558 RX13 yX13_readName wsX13_readName) := goodIn_app (goodIn_of _ (by decide +kernel)) ggX13_readJump_X13_readName
theorem dX13_readJump_0 : decode cX13_readJump 0 = .ok (.aload_n 0, 1) := by decide +kernel
theorem dX13_readJump_1 : decode cX13_readJump 1 = .ok (.aload_n 0, 1) := by decide +kernel
theorem dX13_readJump_2 : decode cX13_readJump 2 = .ok (.getfield 105, 3) := by decide +kernel
theorem dX13_readJump_5 : decode cX13_readJump 5 = .ok (.invokevirtual 529, 3) := by decide +kernel
theorem dX13_readJump_8 : decode cX13_readJump 8 = .ok (.istore_n 2, 1) := by decide +kernel
theorem dX13_readJump_9 : decode cX13_readJump 9 = .ok (.iload_n 2, 1) := by decide +kernel
theorem dX13_readJump_10 : decode cX13_readJump 10 = .ok (.iconst (-1), 1) := by decide +kernel
theorem dX13_readJump_11 : decode cX13_readJump 11 = .ok (.if_icmp .eq 16, 3) := by decide +kernel
theorem dX13_readJump_14 : decode cX13_readJump 14 = .ok (.aload_n 0, 1) := by decide +kernel
theorem dX13_readJump_15 : decode cX13_readJump 15 = .ok (.getfield 13, 3) := by decide +kernel
theorem dX13_readJump_18 : decode cX13_readJump 18 = .ok (.iload_n 1, 1) := by decide +kernel
theorem dX13_readJump_19 : decode cX13_readJump 19 = .ok (.iconst 1, 1) := by decide +kernel
theorem dX13_readJump_20 : decode cX13_readJump 20 = .ok (.iadd, 1) := by decide +kernel
theorem dX13_readJump_21 : decode cX13_readJump 21 = .ok (.iload_n 2, 1) := by decide +kernel
theorem dX13_readJump_22 : decode cX13_readJump 22 = .ok (.iastore, 1) := by decide +kernel
theorem dX13_readJump_23 : decode cX13_readJump 23 = .ok (.aload_n 0, 1) := by decide +kernel
theorem dX13_readJump_24 : decode cX13_readJump 24 = .ok (.invokevirtual 496, 3) := by decide +kernel
theorem dX13_readJump_27 : decode cX13_readJump 27 = .ok (.aload_n 0, 1) := by decide +kernel
theorem dX13_readJump_28 : decode cX13_readJump 28 = .ok (.iload_n 1, 1) := by decide +kernel
theorem dX13_readJump_29 : decode cX13_readJump 29 = .ok (.iconst 2, 1) := by decide +kernel
theorem dX13_readJump_30 : decode cX13_readJump 30 = .ok (.iadd, 1) := by decide +kernel
theorem dX13_readJump_31 : decode cX13_readJump 31 = .ok (.invokevirtual 558, 3) := by decide +kernel
theorem dX13_readJump_34 : decode cX13_readJump 34 = .ok (.return_, 1) := by decide +kernel
set_option maxRecDepth 20000 in
theorem ggX13_readWait_X13_putNumber : GoodIn wsX13_readWait wsX13_putNumber := goodIn_r _ [6, 7, 1, 8, 9, 10, 5, 11, 12, 13, 14, 15, 16, 17, 18, 19, 20, 21, 22, 23, 24, 25, 26, 27, 28, 29, 30, 31, 32, 33, 34, 35, 36, 37, 38, 39, 40, 41, 42, 43, 44, 45, 46, 47, 48, 49, 50, 51, 52, 53, 54, 55, 56, 57, 119, 120, 121, 122, 123, 124, 125, 126, 127, 128, 129, 130, 131, 132, 133, 134, 135, 136, 137, 138, 139, 140, 141, 142, 143, 144, 145, 146, 147, 148, 149, 150, 151, 152, 153, 154, 155, 156, 157, 158, 159, 160, 161, 162, 163, 164, 165] (by decide +kernel) (by decide +kernel)
set_option maxRecDepth 20000 in
theorem gX13_readWait_X13_putNumber : GoodIn wsX13_readWait (wsV RX13 549 RX13 yX13_putNumber wsX13_putNumber) := goodIn_app (goodIn_of _ (by decide +kernel)) ggX13_readWait_X13_putNumber
set_option maxRecDepth 20000 in
theorem ggX13_readWait_X13_accept : GoodIn wsX13_readWait wsX13_accept := goodIn_r _ [61, 62, 63, 64, 5, 65, 7, 12, 27, 21, 29, 66, 67, 68, 69, 70, 71, 72, 73, 74, 75, 76, 77, 78, 79, 80, 81, 82, 83, 84, 85, 86, 87, 88, 89, 90, 91, 92, 93, 94, 95, 96, 97, 98, 99, 100, 101, 102, 103, 104, 105, 106, 107, 108, 109, 110, 111, 112, 113, 114, 41, 42, 43, 44, 45, 46, 47, 48, 49, 50, 51, 52, 53, 54, 55, 56, 57, 119, 120, 121, 122, 123, 124, 125, 126, 127, 128, 129, 130, 131, 132, 133, 134, 135, 136, 137, 138, 139, 140, 141, 142, 143, 144, 145, 146, 147, 148, 149, 150, 151, 152, 153, 154, 155, 156, 157, 158, 159, 160, 161, 162, 163, 164, 165, 166, 167, 168, 169] (by decide +kernel) (by decide +kernel)
set_option maxRecDepth 20000 in
theorem gX13_readWait_X13_accept : GoodIn wsX13_readWait (wsV RX13 552 RX13 yX13_accept wsX13_accept) := goodIn_app (goodIn_of _ (by decide +kernel)) ggX13_readWait_X13_accept
set_option maxRecDepth 20000 in
theorem ggX13_readWait_X13_expectWord : GoodIn wsX13_readWait wsX13_expectWord := goodIn_r _ [118, 62, 63, 64, 5, 65, 7, 12, 27, 21, 29, 66, 67, 68, 69, 70, 71, 72, 73, 74, 75, 76, 77, 78, 79, 80, 81, 82, 83, 84, 85, 86, 87, 88, 89, 90, 91, 92, 93, 94, 95, 96, 97, 98, 99, 100, 101, 102, 103, 104, 105, 106, 107, 108, 109, 110, 111, 112, 113, 114, 13, 14, 15, 16, 17, 18, 19, 20, 22, 37, 38, 39, 40, 41, 42, 43, 44, 45, 46, 47, 48, 49, 50, 51, 52, 53, 54, 55, 56, 57, 119, 120, 121, 122, 123, 124, 125, 126, 127, 128, 129, 130, 131, 132, 133, 134, 135, 136, 137, 138, 139, 140, 141, 142, 143, 144, 145, 146, 147, 148, 149, 150, 151, 152, 153, 154, 155, 156, 157, 158, 159, 160, 161, 162, 163, 164, 165, 166, 167, 168, 169] (by decide +kernel) (by decide +kernel)
set_option maxRecDepth 20000 in
theorem gX13_readWait_X13_expectWord : GoodIn wsX13_readWait (wsV RX13 574 RX13 yX13_expectWord wsX13_expectWord) := goodIn_app (goodIn_of _ (by decide +kernel)) ggX13_readWait_X13_expectWord
theorem dX13_readWait_0 : decode cX13_readWait 0 = .ok (.aload_n 0, 1) := by decide +kernel
theorem dX13_readWait_1 : decode cX13_readWait 1 = .ok (.iload_n 1, 1) := by decide +kernel
theorem dX13_readWait_2 : decode cX13_readWait 2 = .ok (.iconst 1, 1) := by decide +kernel
theorem dX13_readWait_3 : decode cX13_readWait 3 = .ok (.iadd, 1) := by decide +kernel
theorem dX13_readWait_4 : decode cX13_readWait 4 = .ok (.iconst 0, 1) := by decide +kernel
theorem dX13_readWait_5 : decode cX13_readWait 5 = .ok (.iconst 1, 1) := by decide +kernel
theorem dX13_readWait_6 : decode cX13_readWait 6 = .ok (.invokevirtual 549, 3) := by decide +kernel
theorem dX13_readWait_9 : decode cX13_readWait 9 = .ok (.aload_n 0, 1) := by decide +kernel
theorem dX13_readWait_10 : decode cX13_readWait 10 = .ok (.ldc 165, 2) := by decide +kernel
theorem dX13_readWait_12 : decode cX13_readWait 12 = .ok (.invokevirtual 552, 3) := by decide +kernel
theorem dX13_readWait_15 : decode cX13_readWait 15 = .ok (.istore_n 2, 1) := by decide +kernel
theorem dX13_readWait_16 : decode cX13_readWait 16 = .ok (.iload_n 2, 1) := by decide +kernel
theorem dX13_readWait_17 : decode cX13_readWait 17 = .ok (.ifCond .ne 9, 3) := by decide +kernel
theorem dX13_readWait_20 : decode cX13_readWait 20 = .ok (.aload_n 0, 1) := by decide +kernel
theorem dX13_readWait_21 : decode cX13_readWait 21 = .ok (.ldc 101, 2) := by decide +kernel
theorem dX13_readWait_23 : decode cX13_readWait 23 = .ok (.invokevirtual 574, 3) := by decide +kernel
theorem dX13_readWait_26 : decode cX13_readWait 26 = .ok (.aload_n 0, 1) := by decide +kernel
theorem dX13_readWait_27 : decode cX13_readWait 27 = .ok (.getfield 13, 3) := by decide +kernel
theorem dX13_readWait_30 : decode cX13_readWait 30 = .ok (.iload_n 1, 1) := by decide +kernel
theorem dX13_readWait_31 : decode cX13_readWait 31 = .ok (.iconst 2, 1) := by decide +kernel
theorem dX13_readWait_32 : decode cX13_readWait 32 = .ok (.iadd, 1) := by decide +kernel
theorem dX13_readWait_33 : decode cX13_readWait 33 = .ok (.iload_n 2, 1) := by decide +kernel
theorem dX13_readWait_34 : decode cX13_readWait 34 = .ok (.ifCond .eq 7, 3) := by decide +kernel
theorem dX13_readWait_37 : decode cX13_readWait 37 = .ok (.iconst 1, 1) := by decide +kernel
theorem dX13_readWait_38 : decode cX13_readWait 38 = .ok (.goto 4, 3) := by decide +kernel
theorem dX13_readWait_41 : decode cX13_readWait 41 = .ok (.iconst 0, 1) := by decide +kernel
theorem dX13_readWait_42 : decode cX13_readWait 42 = .ok (.iastore, 1) := by decide +kernel
theorem dX13_readWait_43 : decode cX13_readWait 43 = .ok (.aload_n 0, 1) := by decide +kernel
theorem dX13_readWait_44 : decode cX13_readWait 44 = .ok (.iload_n 1, 1) := by decide +kernel
theorem dX13_readWait_45 : decode cX13_readWait 45 = .ok (.iconst 3, 1) := by decide +kernel
theorem dX13_readWait_46 : decode cX13_readWait 46 = .ok (.iadd, 1) := by decide +kernel
theorem dX13_readWait_47 : decode cX13_readWait 47 = .ok (.iconst 0, 1) := by decide +kernel
theorem dX13_readWait_48 : decode cX13_readWait 48 = .ok (.iload_n 2, 1) := by decide +kernel
theorem dX13_readWait_49 : decode cX13_readWait 49 = .ok (.ifCond .eq 8, 3) := by decide +kernel
theorem dX13_readWait_52 : decode cX13_readWait 52 = .ok (.bipush 7, 2) := by decide +kernel
theorem dX13_readWait_54 : decode cX13_readWait 54 = .ok (.goto 5, 3) := by decide +kernel
theorem dX13_readWait_57 : decode cX13_readWait 57 = .ok (.bipush 15, 2) := by decide +kernel
theorem dX13_readWait_59 : decode cX13_readWait 59 = .ok (.invokevirtual 549, 3) := by decide +kernel
theorem dX13_readWait_62 : decode cX13_readWait 62 = .ok (.return_, 1) := by decide +kernel
set_option maxRecDepth 20000 in
theorem ggX13_readMove_X13_readPlace : GoodIn wsX13_readMove wsX13_readPlace := goodIn_r _ [6, 7, 8, 1, 9, 10, 11, 5, 12, 13, 14, 15, 16, 17, 18, 19, 20, 21, 22, 23, 24, 25, 26, 27, 28, 29, 30, 31, 32, 33, 34, 35, 36, 37, 38, 39, 40, 41, 42, 43, 44, 45, 46, 47, 48, 49, 50, 51, 52, 53, 54, 55, 56, 57, 58, 59, 60, 61, 62, 63, 64, 65, 66, 67, 68, 69, 70, 71, 72, 73, 74, 75, 76, 77, 78, 79, 80, 81, 82, 83, 84, 85, 86, 87, 88, 89, 90, 91, 92, 93, 94, 95, 96, 97, 98, 99, 104, 105, 106, 107, 108, 109, 110, 111, 112, 113, 114, 115, 116, 117, 118, 119, 120, 121, 122, 123, 124, 125, 126, 127, 128, 129, 130, 131, 132, 133, 134, 135, 136, 137, 138, 139, 140, 141, 142, 143, 144, 145, 146, 147, 148, 149, 150, 151, 152, 153, 154] (by decide +kernel) (by decide +kernel)
set_option maxRecDepth 20000 in
theorem gX13_readMove_X13_readPlace : GoodIn wsX13_readMove (wsV RX13 581 RX13 yX13_readPlace wsX13_readPlace) := goodIn_app (goodIn_of _ (by decide +kernel)) ggX13_readMove_X13_readPlace
set_option maxRecDepth 20000 in
theorem ggX13_readMove_X13_accept : GoodIn wsX13_readMove wsX13_accept := goodIn_r _ [103, 13, 14, 15, 5, 16, 8, 17, 18, 19, 20, 21, 22, 23, 24, 25, 26, 27, 28, 29, 30, 31, 32, 33, 34, 35, 36, 37, 38, 39, 40, 41, 42, 43, 44, 45, 46, 47, 48, 49, 50, 51, 52, 53, 54, 55, 56, 57, 58, 59, 60, 61, 62, 63, 64, 65, 66, 67, 68, 69, 83, 84, 85, 86, 87, 88, 89, 90, 91, 92, 93, 94, 95, 96, 97, 98, 99, 104, 105, 106, 107, 108, 109, 110, 111, 112, 113, 114, 115, 116, 117, 118, 119, 120, 121, 122, 123, 124, 125, 126, 127, 128, 129, 130, 131, 132, 133, 134, 135, 136, 137, 138, 139, 140, 141, 142, 143, 144, 145, 146, 147, 148, 149, 150, 151, 152, 153, 154] (by decide +kernel) (by decide +kernel)
set_option maxRecDepth 20000 in
theorem gX13_readMove_X13_accept : GoodIn wsX13_readMove (wsV RX13 552 RX13 yX13_accept wsX13_accept) := goodIn_app (goodIn_of _ (by decide +kernel)) ggX13_readMove_X13_accept
theorem dX13_readMove_0 : decode cX13_readMove 0 = .ok (.aload_n 0, 1) := by decide +kernel
theorem dX13_readMove_1 : decode cX13_readMove 1 = .ok (.iload_n 1, 1) := by decide +kernel
theorem dX13_readMove_2 : decode cX13_readMove 2 = .ok (.iconst 1, 1) := by decide +kernel
theorem dX13_readMove_3 : decode cX13_readMove 3 = .ok (.iadd, 1) := by decide +kernel
theorem dX13_readMove_4 : decode cX13_readMove 4 = .ok (.sipush 311, 3) := by decide +kernel
theorem dX13_readMove_7 : decode cX13_readMove 7 = .ok (.invokevirtual 581, 3) := by decide +kernel
theorem dX13_readMove_10 : decode cX13_readMove 10 = .ok (.aload_n 0, 1) := by decide +kernel
theorem dX13_readMove_11 : decode cX13_readMove 11 = .ok (.getfield 13, 3) := by decide +kernel
theorem dX13_readMove_14 : decode cX13_readMove 14 = .ok (.iload_n 1, 1) := by decide +kernel
theorem dX13_readMove_15 : decode cX13_readMove 15 = .ok (.iconst 2, 1) := by decide +kernel
theorem dX13_readMove_16 : decode cX13_readMove 16 = .ok (.iadd, 1) := by decide +kernel
theorem dX13_readMove_17 : decode cX13_readMove 17 = .ok (.aload_n 0, 1) := by decide +kernel
theorem dX13_readMove_18 : decode cX13_readMove 18 = .ok (.ldc 173, 2) := by decide +kernel
theorem dX13_readMove_20 : decode cX13_readMove 20 = .ok (.invokevirtual 552, 3) := by decide +kernel
theorem dX13_readMove_23 : decode cX13_readMove 23 = .ok (.ifCond .eq 7, 3) := by decide +kernel
theorem dX13_readMove_26 : decode cX13_readMove 26 = .ok (.iconst 1, 1) := by decide +kernel
theorem dX13_readMove_27 : decode cX13_readMove 27 = .ok (.goto 17, 3) := by decide +kernel
theorem dX13_readMove_30 : decode cX13_readMove 30 = .ok (.aload_n 0, 1) := by decide +kernel
theorem dX13_readMove_31 : decode cX13_readMove 31 = .ok (.ldc 175, 2) := by decide +kernel
theorem dX13_readMove_33 : decode cX13_readMove 33 = .ok (.invokevirtual 552, 3) := by decide +kernel
theorem dX13_readMove_36 : decode cX13_readMove 36 = .ok (.ifCond .eq 7, 3) := by decide +kernel
theorem dX13_readMove_39 : decode cX13_readMove 39 = .ok (.iconst 2, 1) := by decide +kernel
theorem dX13_readMove_40 : decode cX13_readMove 40 = .ok (.goto 4, 3) := by decide +kernel
theorem dX13_readMove_43 : decode cX13_readMove 43 = .ok (.iconst 0, 1) := by decide +kernel
theorem dX13_readMove_44 : decode cX13_readMove 44 = .ok (.iastore, 1) := by decide +kernel
theorem dX13_readMove_45 : decode cX13_readMove 45 = .ok (.aload_n 0, 1) := by decide +kernel
theorem dX13_readMove_46 : decode cX13_readMove 46 = .ok (.iload_n 1, 1) := by decide +kernel
theorem dX13_readMove_47 : decode cX13_readMove 47 = .ok (.iconst 3, 1) := by decide +kernel
theorem dX13_readMove_48 : decode cX13_readMove 48 = .ok (.iadd, 1) := by decide +kernel
theorem dX13_readMove_49 : decode cX13_readMove 49 = .ok (.bipush 127, 2) := by decide +kernel
theorem dX13_readMove_51 : decode cX13_readMove 51 = .ok (.invokevirtual 581, 3) := by decide +kernel
theorem dX13_readMove_54 : decode cX13_readMove 54 = .ok (.return_, 1) := by decide +kernel
set_option maxRecDepth 20000 in
theorem ggX13_readAccess_X13_readPlace : GoodIn wsX13_readAccess wsX13_readPlace := goodIn_r _ [6, 7, 8, 1, 9, 10, 11, 5, 12, 13, 14, 15, 16, 17, 18, 19, 20, 21, 22, 23, 24, 25, 26, 27, 28, 29, 30, 31, 32, 33, 34, 35, 36, 37, 38, 39, 40, 41, 42, 43, 44, 45, 46, 47, 48, 49, 50, 51, 52, 53, 54, 55, 56, 57, 58, 59, 60, 61, 62, 63, 64, 65, 66, 67, 68, 69, 70, 71, 72, 73, 74, 75, 76, 77, 78, 79, 80, 81, 82, 83, 84, 85, 86, 87, 88, 89, 90, 91, 92, 93, 94, 95, 96, 97, 98, 99, 124, 125, 126, 127, 128, 129, 130, 131, 132, 133, 134, 135, 136, 137, 138, 139, 140, 141, 142, 143, 144, 145, 146, 147, 148, 149, 150, 151, 152, 153, 154, 155, 156, 157, 158, 159, 160, 161, 162, 163, 164, 165, 166, 167, 168, 169, 170, 171, 172, 173, 174] (by decide +kernel) (by decide +kernel)
set_option maxRecDepth 20000 in
theorem gX13_readAccess_X13_readPlace : GoodIn wsX13_readAccess (wsV RX13 581 RX13 yX13_readPlace wsX13_readPlace) := goodIn_app (goodIn_of _ (by decide +kernel)) ggX13_readAccess_X13_readPlace
set_option maxRecDepth 20000 in
theorem ggX13_readAccess_X13_accept : GoodIn wsX13_readAccess wsX13_accept := goodIn_r _ [103, 13, 14, 15, 5, 16, 8, 17, 18, 19, 20, 21, 22, 23, 24, 25, 26, 27, 28, 29, 30, 31, 32, 33, 34, 35, 36, 37, 38, 39, 40, 41, 42, 43, 44, 45, 46, 47, 48, 49, 50, 51, 52, 53, 54, 55, 56, 57, 58, 59, 60, 61, 62, 63, 64, 65, 66, 67, 68, 69, 83, 84, 85, 86, 87, 88, 89, 90, 91, 92, 93, 94, 95, 96, 97, 98, 99, 124, 125, 126, 127, 128, 129, 130, 131, 132, 133, 134, 135, 136, 137, 138, 139, 140, 141, 142, 143, 144, 145, 146, 147, 148, 149, 150, 151, 152, 153, 154, 155, 156, 157, 158, 159, 160, 161, 162, 163, 164, 165, 166, 167, 168, 169, 170, 171, 172, 173, 174] (by decide +kernel) (by decide +kernel)
set_option maxRecDepth 20000 in
theorem gX13_readAccess_X13_accept : GoodIn wsX13_readAccess (wsV RX13 552 RX13 yX13_accept wsX13_accept) := goodIn_app (goodIn_of _ (by decide +kernel)) ggX13_readAccess_X13_accept
set_option maxRecDepth 20000 in
theorem ggX13_readAccess_X13_putNumber : GoodIn wsX13_readAccess wsX13_putNumber := goodIn_r _ [107, 8, 1, 108, 109, 110, 5, 111, 17, 70, 71, 72, 73, 74, 75, 76, 77, 19, 78, 112, 113, 114, 115, 18, 116, 20, 117, 118, 119, 120, 121, 122, 123, 79, 80, 81, 82, 83, 84, 85, 86, 87, 88, 89, 90, 91, 92, 93, 94, 95, 96, 97, 98, 99, 124, 125, 126, 127, 128, 129, 130, 131, 132, 133, 134, 135, 136, 137, 138, 139, 140, 141, 142, 143, 144, 145, 146, 147, 148, 149, 150, 151, 152, 153, 154, 155, 156, 157, 158, 159, 160, 161, 162, 163, 164, 165, 166, 167, 168, 169, 170] (by decide +kernel) (by decide +kernel)
set_option maxRecDepth 20000 in
theorem gX13_readAccess_X13_putNumber : GoodIn wsX13_readAccess (wsV RX13 549 RX13 yX13_putNumber wsX13_putNumber) := goodIn_app (goodIn_of _ (by decide +kernel)) ggX13_readAccess_X13_putNumber
theorem dX13_readAccess_0 : decode cX13_readAccess 0 = .ok (.aload_n 0, 1) := by decide +kernel
theorem dX13_readAccess_1 : decode cX13_readAccess 1 = .ok (.iload_n 1, 1) := by decide +kernel
theorem dX13_readAccess_2 : decode cX13_readAccess 2 = .ok (.iconst 1, 1) := by decide +kernel
theorem dX13_readAccess_3 : decode cX13_readAccess 3 = .ok (.iadd, 1) := by decide +kernel
theorem dX13_readAccess_4 : decode cX13_readAccess 4 = .ok (.iload_n 2, 1) := by decide +kernel
theorem dX13_readAccess_5 : decode cX13_readAccess 5 = .ok (.invokevirtual 581, 3) := by decide +kernel
theorem dX13_readAccess_8 : decode cX13_readAccess 8 = .ok (.aload_n 0, 1) := by decide +kernel
theorem dX13_readAccess_9 : decode cX13_readAccess 9 = .ok (.ldc 110, 2) := by decide +kernel
theorem dX13_readAccess_11 : decode cX13_readAccess 11 = .ok (.invokevirtual 552, 3) := by decide +kernel
theorem dX13_readAccess_14 : decode cX13_readAccess 14 = .ok (.ifCond .eq 16, 3) := by decide +kernel
theorem dX13_readAccess_17 : decode cX13_readAccess 17 = .ok (.aload_n 0, 1) := by decide +kernel
theorem dX13_readAccess_18 : decode cX13_readAccess 18 = .ok (.getfield 13, 3) := by decide +kernel
theorem dX13_readAccess_21 : decode cX13_readAccess 21 = .ok (.iload_n 1, 1) := by decide +kernel
theorem dX13_readAccess_22 : decode cX13_readAccess 22 = .ok (.iconst 2, 1) := by decide +kernel
theorem dX13_readAccess_23 : decode cX13_readAccess 23 = .ok (.iadd, 1) := by decide +kernel
theorem dX13_readAccess_24 : decode cX13_readAccess 24 = .ok (.bipush 16, 2) := by decide +kernel
theorem dX13_readAccess_26 : decode cX13_readAccess 26 = .ok (.iastore, 1) := by decide +kernel
theorem dX13_readAccess_27 : decode cX13_readAccess 27 = .ok (.goto 35, 3) := by decide +kernel
theorem dX13_readAccess_30 : decode cX13_readAccess 30 = .ok (.aload_n 0, 1) := by decide +kernel
theorem dX13_readAccess_31 : decode cX13_readAccess 31 = .ok (.ldc 112, 2) := by decide +kernel
theorem dX13_readAccess_33 : decode cX13_readAccess 33 = .ok (.invokevirtual 552, 3) := by decide +kernel
theorem dX13_readAccess_36 : decode cX13_readAccess 36 = .ok (.ifCond .eq 16, 3) := by decide +kernel
theorem dX13_readAccess_39 : decode cX13_readAccess 39 = .ok (.aload_n 0, 1) := by decide +kernel
theorem dX13_readAccess_40 : decode cX13_readAccess 40 = .ok (.getfield 13, 3) := by decide +kernel
theorem dX13_readAccess_43 : decode cX13_readAccess 43 = .ok (.iload_n 1, 1) := by decide +kernel
theorem dX13_readAccess_44 : decode cX13_readAccess 44 = .ok (.iconst 2, 1) := by decide +kernel
theorem dX13_readAccess_45 : decode cX13_readAccess 45 = .ok (.iadd, 1) := by decide +kernel
theorem dX13_readAccess_46 : decode cX13_readAccess 46 = .ok (.bipush 17, 2) := by decide +kernel
theorem dX13_readAccess_48 : decode cX13_readAccess 48 = .ok (.iastore, 1) := by decide +kernel
theorem dX13_readAccess_49 : decode cX13_readAccess 49 = .ok (.goto 13, 3) := by decide +kernel
theorem dX13_readAccess_52 : decode cX13_readAccess 52 = .ok (.aload_n 0, 1) := by decide +kernel
theorem dX13_readAccess_53 : decode cX13_readAccess 53 = .ok (.iload_n 1, 1) := by decide +kernel
theorem dX13_readAccess_54 : decode cX13_readAccess 54 = .ok (.iconst 2, 1) := by decide +kernel
theorem dX13_readAccess_55 : decode cX13_readAccess 55 = .ok (.iadd, 1) := by decide +kernel
theorem dX13_readAccess_56 : decode cX13_readAccess 56 = .ok (.iconst 0, 1) := by decide +kernel
theorem dX13_readAccess_57 : decode cX13_readAccess 57 = .ok (.bipush 15, 2) := by decide +kernel
theorem dX13_readAccess_59 : decode cX13_readAccess 59 = .ok (.invokevirtual 549, 3) := by decide +kernel
theorem dX13_readAccess_62 : decode cX13_readAccess 62 = .ok (.return_, 1) := by decide +kernel
set_option maxRecDepth 20000 in
theorem ggX13_readQueueing_X13_accept : GoodIn wsX13_readQueueing wsX13_accept := goodIn_r _ [6, 7, 8, 9, 5, 10, 11, 12, 13, 14, 15, 16, 17, 18, 19, 20, 21, 22, 23, 24, 25, 26, 27, 28, 29, 30, 31, 32, 33, 34, 35, 36, 37, 38, 39, 40, 41, 42, 43, 44, 45, 46, 47, 48, 49, 50, 51, 52, 53, 54, 55, 56, 57, 58, 59, 60, 61, 62, 63, 64, 65, 66, 67, 68, 69, 70, 71, 72, 73, 74, 75, 76, 77, 78, 79, 80, 81, 82, 83, 84, 85, 86, 87, 88, 89, 90, 91, 92, 93, 94, 95, 96, 97, 98, 99, 100, 101, 102, 103, 104, 105, 106, 107, 108, 109, 110, 111, 112, 113, 114, 115, 116, 117, 118, 119, 120, 121, 122, 123, 124, 125, 126, 127, 128, 129, 130, 131, 132] (by decide +kernel) (by decide +kernel)
set_option maxRecDepth 20000 in
theorem gX13_readQueueing_X13_accept : GoodIn wsX13_readQueueing (wsV RX13 552 RX13 yX13_accept wsX13_accept) := goodIn_app (goodIn_of _ (by decide +kernel)) ggX13_readQueueing_X13_accept
theorem dX13_readQueueing_0 : decode cX13_readQueueing 0 = .ok (.aload_n 0, 1) := by decide +kernel
theorem dX13_readQueueing_1 : decode cX13_readQueueing 1 = .ok (.getfield 13, 3) := by decide +kernel
theorem dX13_readQueueing_4 : decode cX13_readQueueing 4 = .ok (.iload_n 1, 1) := by decide +kernel
theorem dX13_readQueueing_5 : decode cX13_readQueueing 5 = .ok (.iconst 1, 1) := by decide +kernel
theorem dX13_readQueueing_6 : decode cX13_readQueueing 6 = .ok (.iadd, 1) := by decide +kernel
theorem dX13_readQueueing_7 : decode cX13_readQueueing 7 = .ok (.aload_n 0, 1) := by decide +kernel
theorem dX13_readQueueing_8 : decode cX13_readQueueing 8 = .ok (.aload_n 2, 1) := by decide +kernel
theorem dX13_readQueueing_9 : decode cX13_readQueueing 9 = .ok (.invokevirtual 552, 3) := by decide +kernel
theorem dX13_readQueueing_12 : decode cX13_readQueueing 12 = .ok (.ifCond .eq 7, 3) := by decide +kernel
theorem dX13_readQueueing_15 : decode cX13_readQueueing 15 = .ok (.iconst 1, 1) := by decide +kernel
theorem dX13_readQueueing_16 : decode cX13_readQueueing 16 = .ok (.goto 4, 3) := by decide +kernel
theorem dX13_readQueueing_19 : decode cX13_readQueueing 19 = .ok (.iconst 0, 1) := by decide +kernel
theorem dX13_readQueueing_20 : decode cX13_readQueueing 20 = .ok (.iastore, 1) := by decide +kernel
theorem dX13_readQueueing_21 : decode cX13_readQueueing 21 = .ok (.aload_n 0, 1) := by decide +kernel
theorem dX13_readQueueing_22 : decode cX13_readQueueing 22 = .ok (.getfield 13, 3) := by decide +kernel
theorem dX13_readQueueing_25 : decode cX13_readQueueing 25 = .ok (.iload_n 1, 1) := by decide +kernel
theorem dX13_readQueueing_26 : decode cX13_readQueueing 26 = .ok (.iconst 2, 1) := by decide +kernel
theorem dX13_readQueueing_27 : decode cX13_readQueueing 27 = .ok (.iadd, 1) := by decide +kernel
theorem dX13_readQueueing_28 : decode cX13_readQueueing 28 = .ok (.aload_n 0, 1) := by decide +kernel
theorem dX13_readQueueing_29 : decode cX13_readQueueing 29 = .ok (.ldc 169, 2) := by decide +kernel
theorem dX13_readQueueing_31 : decode cX13_readQueueing 31 = .ok (.invokevirtual 552, 3) := by decide +kernel
theorem dX13_readQueueing_34 : decode cX13_readQueueing 34 = .ok (.ifCond .eq 7, 3) := by decide +kernel
theorem dX13_readQueueing_37 : decode cX13_readQueueing 37 = .ok (.iconst 1, 1) := by decide +kernel
theorem dX13_readQueueing_38 : decode cX13_readQueueing 38 = .ok (.goto 4, 3) := by decide +kernel
theorem dX13_readQueueing_41 : decode cX13_readQueueing 41 = .ok (.iconst 0, 1) := by decide +kernel
theorem dX13_readQueueing_42 : decode cX13_readQueueing 42 = .ok (.iastore, 1) := by decide +kernel
theorem dX13_readQueueing_43 : decode cX13_readQueueing 43 = .ok (.return_, 1) := by decide +kernel
set_option maxRecDepth 20000 in
theorem ggX13_readOperands_X13_readJump : GoodIn wsX13_readOperands wsX13_readJump := goodIn_r _ [5, 6, 7, 8, 9, 10, 4, 11, 12, 13, 14, 15, 16, 17, 18, 19, 20, 21, 22, 23, 24, 25, 26, 27, 28, 29, 30, 31, 32, 33, 34, 35, 36, 37, 38, 39, 40, 41, 42, 43, 44, 45, 46, 47, 48, 49, 50, 51, 52, 53, 54, 55, 56, 57, 58, 59, 60, 61, 62, 63, 64, 65, 66, 67, 68, 69, 70, 71, 72, 73, 74, 75, 76, 77, 78, 79, 80, 81, 82, 83, 84, 85, 86, 87, 88, 89, 90, 91, 92, 93, 94, 95, 96, 97, 98, 99, 100, 101, 102, 103, 104, 105, 106, 107, 108, 109, 110, 111, 112, 113, 114, 163, 164, 165, 166, 167, 168, 169, 170, 171, 172, 173, 174, 175, 176, 177, 178, 179, 180, 181, 182, 183, 184, 185, 186, 187, 188, 189, 190, 191, 192, 193, 194, 195, 196, 197, 198, 199, 200, 201, 202, 203, 204, 205, 206, 207, 208, 209, 210, 211, 212, 213] (by decide +kernel) (by decide +kernel)
set_option maxRecDepth 20000 in
theorem gX13_readOperands_X13_readJump : GoodIn wsX13_readOperands (wsV RX13 584 RX13 yX13_readJump wsX13_readJump) := goodIn_app (goodIn_of _ (by decide +kernel)) ggX13_readOperands_X13_readJump
set_option maxRecDepth 20000 in
theorem ggX13_readOperands_X13_readWait : GoodIn wsX13_readOperands wsX13_readWait := goodIn_r _ [118, 7, 119, 120, 121, 4, 122, 16, 123, 124, 125, 126, 17, 102, 103, 104, 105, 106, 107, 108, 109, 19, 110, 127, 128, 129, 130, 18, 131, 20, 132, 133, 134, 135, 136, 137, 138, 111, 112, 113, 114, 70, 71, 72, 73, 74, 75, 76, 77, 78, 79, 80, 81, 82, 83, 84, 85, 86, 139, 140, 141, 142, 12, 13, 14, 15, 21, 22, 23, 24, 25, 26, 27, 28, 29, 30, 31, 32, 33, 34, 35, 36, 37, 38, 39, 40, 41, 42, 43, 44, 45, 46, 47, 48, 49, 50, 51, 52, 53, 54, 55, 56, 57, 58, 59, 60, 61, 62, 63, 64, 65, 66, 67, 68, 69, 143, 144, 145, 146, 163, 164, 165, 166, 167, 168, 169, 170, 171, 172, 173, 174, 175, 176, 177, 178, 179, 180, 181, 182, 183, 184, 185, 186, 187, 188, 189, 190, 191, 192, 193, 194, 195, 196, 197, 198, 199, 200, 201, 202, 203, 204, 205, 206, 207, 208, 209, 210, 211, 212, 213] (by decide +kernel) (by decide +kernel)
set_option maxRecDepth 20000 in
theorem gX13_readOperands_X13_readWait : GoodIn wsX13_readOperands (wsV RX13 587 RX13 yX13_readWait wsX13_readWait) := goodIn_app (goodIn_of _ (by decide +kernel)) ggX13_readOperands_X13_readWait
set_option maxRecDepth 20000 in
theorem ggX13_readOperands_X13_readPlace : GoodIn wsX13_readOperands wsX13_readPlace := goodIn_r _ [150, 100, 16, 7, 8, 9, 10, 4, 11, 12, 13, 14, 15, 17, 18, 19, 20, 21, 22, 23, 24, 25, 26, 27, 28, 29, 30, 31, 32, 33, 34, 35, 36, 37, 38, 39, 40, 41, 42, 43, 44, 45, 46, 47, 48, 49, 50, 51, 52, 53, 54, 55, 56, 57, 58, 59, 60, 61, 62, 63, 64, 65, 66, 67, 68, 69, 102, 103, 104, 105, 106, 107, 108, 109, 110, 111, 112, 113, 114, 70, 71, 72, 73, 74, 75, 76, 77, 78, 79, 80, 81, 82, 83, 84, 85, 86, 163, 164, 165, 166, 167, 168, 169, 170, 171, 172, 173, 174, 175, 176, 177, 178, 179, 180, 181, 182, 183, 184, 185, 186, 187, 188, 189, 190, 191, 192, 193, 194, 195, 196, 197, 198, 199, 200, 201, 202, 203, 204, 205, 206, 207, 208, 209, 210, 211, 212, 213] (by decide +kernel) (by decide +kernel)
set_option maxRecDepth 20000 in
theorem gX13_readOperands_X13_readPlace : GoodIn wsX13_readOperands (wsV RX13 581 RX13 yX13_readPlace wsX13_readPlace) := goodIn_app (goodIn_of _ (by decide +kernel)) ggX13_readOperands_X13_readPlace
set_option maxRecDepth 20000 in
theorem ggX13_readOperands_X13_putNumber : GoodIn wsX13_readOperands wsX13_putNumber := goodIn_r _ [122, 16, 7, 123, 124, 125, 4, 126, 17, 102, 103, 104, 105, 106, 107, 108, 109, 19, 110, 127, 128, 129, 130, 18, 131, 20, 132, 133, 134, 135, 136, 137, 138, 111, 112, 113, 114, 70, 71, 72, 73, 74, 75, 76, 77, 78, 79, 80, 81, 82, 83, 84, 85, 86, 163, 164, 165, 166, 167, 168, 169, 170, 171, 172, 173, 174, 175, 176, 177, 178, 179, 180, 181, 182, 183, 184, 185, 186, 187, 188, 189, 190, 191, 192, 193, 194, 195, 196, 197, 198, 199, 200, 201, 202, 203, 204, 205, 206, 207, 208, 209] (by decide +kernel) (by decide +kernel)
set_option maxRecDepth 20000 in
theorem gX13_readOperands_X13_putNumber : GoodIn wsX13_readOperands (wsV RX13 549 RX13 yX13_putNumber wsX13_putNumber) := goodIn_app (goodIn_of _ (by decide +kernel)) ggX13_readOperands_X13_putNumber
set_option maxRecDepth 20000 in
theorem ggX13_readOperands_X13_readQueueing : GoodIn wsX13_readOperands wsX13_readQueueing := goodIn_r _ [154, 7, 139, 140, 141, 4, 142, 12, 13, 14, 15, 16, 17, 18, 19, 20, 21, 22, 23, 24, 25, 26, 27, 28, 29, 30, 31, 32, 33, 34, 35, 36, 37, 38, 39, 40, 41, 42, 43, 44, 45, 46, 47, 48, 49, 50, 51, 52, 53, 54, 55, 56, 57, 58, 59, 60, 61, 62, 63, 64, 65, 66, 67, 68, 69, 70, 71, 72, 73, 74, 75, 76, 77, 78, 79, 80, 81, 82, 83, 84, 85, 86, 163, 164, 165, 166, 167, 168, 169, 170, 171, 172, 173, 174, 175, 176, 177, 178, 179, 180, 181, 182, 183, 184, 185, 186, 187, 188, 189, 190, 191, 192, 193, 194, 195, 196, 197, 198, 199, 200, 201, 202, 203, 204, 205, 206, 207, 208, 209, 210, 211, 212, 213] (by decide +kernel) (by decide +kernel)
set_option maxRecDepth 20000 in
theorem gX13_readOperands_X13_readQueueing : GoodIn wsX13_readOperands (wsV RX13 590 RX13 yX13_readQueueing wsX13_readQueueing) := goodIn_app (goodIn_of _ (by decide +kernel)) ggX13_readOperands_X13_readQueueing
set_option maxRecDepth 20000 in
theorem ggX13_readOperands_X13_readMove : GoodIn wsX13_readOperands wsX13_readMove := goodIn_r _ [158, 7, 147, 148, 149, 4, 150, 100, 16, 8, 9, 10, 11, 12, 13, 14, 15, 17, 18, 19, 20, 21, 22, 23, 24, 25, 26, 27, 28, 29, 30, 31, 32, 33, 34, 35, 36, 37, 38, 39, 40, 41, 42, 43, 44, 45, 46, 47, 48, 49, 50, 51, 52, 53, 54, 55, 56, 57, 58, 59, 60, 61, 62, 63, 64, 65, 66, 67, 68, 69, 102, 103, 104, 105, 106, 107, 108, 109, 110, 111, 112, 113, 114, 70, 71, 72, 73, 74, 75, 76, 77, 78, 79, 80, 81, 82, 83, 84, 85, 86, 139, 140, 141, 142, 163, 164, 165, 166, 167, 168, 169, 170, 171, 172, 173, 174, 175, 176, 177, 178, 179, 180, 181, 182, 183, 184, 185, 186, 187, 188, 189, 190, 191, 192, 193, 194, 195, 196, 197, 198, 199, 200, 201, 202, 203, 204, 205, 206, 207, 208, 209, 210, 211, 212, 213] (by decide +kernel) (by decide +kernel)
set_option maxRecDepth 20000 in
theorem gX13_readOperands_X13_readMove : GoodIn wsX13_readOperands (wsV RX13 594 RX13 yX13_readMove wsX13_readMove) := goodIn_app (goodIn_of _ (by decide +kernel)) ggX13_readOperands_X13_readMove
set_option maxRecDepth 20000 in
theorem ggX13_readOperands_X13_readAccess : GoodIn wsX13_readOperands wsX13_readAccess := goodIn_r _ [162, 7, 147, 148, 149, 4, 150, 100, 16, 8, 9, 10, 11, 12, 13, 14, 15, 17, 18, 19, 20, 21, 22, 23, 24, 25, 26, 27, 28, 29, 30, 31, 32, 33, 34, 35, 36, 37, 38, 39, 40, 41, 42, 43, 44, 45, 46, 47, 48, 49, 50, 51, 52, 53, 54, 55, 56, 57, 58, 59, 60, 61, 62, 63, 64, 65, 66, 67, 68, 69, 102, 103, 104, 105, 106, 107, 108, 109, 110, 111, 112, 113, 114, 70, 71, 72, 73, 74, 75, 76, 77, 78, 79, 80, 81, 82, 83, 84, 85, 86, 139, 140, 141, 142, 119, 120, 121, 122, 123, 124, 125, 126, 127, 128, 129, 130, 131, 132, 133, 134, 135, 136, 137, 138, 163, 164, 165, 166, 167, 168, 169, 170, 171, 172, 173, 174, 175, 176, 177, 178, 179, 180, 181, 182, 183, 184, 185, 186, 187, 188, 189, 190, 191, 192, 193, 194, 195, 196, 197, 198, 199, 200, 201, 202, 203, 204, 205, 206, 207, 208, 209, 210, 211, 212, 213] (by decide +kernel) (by decide +kernel)
set_option maxRecDepth 20000 in
theorem gX13_readOperands_X13_readAccess : GoodIn wsX13_readOperands (wsV RX13 597 RX13 yX13_readAccess wsX13_readAccess) := goodIn_app (goodIn_of _ (by decide +kernel)) ggX13_readOperands_X13_readAccess
theorem dX13_readOperands_0 : decode cX13_readOperands 0 = .ok (.iload_n 2, 1) := by decide +kernel
theorem dX13_readOperands_1 : decode cX13_readOperands 1 = .ok (.tableswitch 187 0 12 #[67, 75, 83, 83, 116, 126, 136, 187, 187, 187, 144, 167, 177], 67) := by decide +kernel
theorem dX13_readOperands_68 : decode cX13_readOperands 68 = .ok (.aload_n 0, 1) := by decide +kernel
theorem dX13_readOperands_69 : decode cX13_readOperands 69 = .ok (.iload_n 1, 1) := by decide +kernel
theorem dX13_readOperands_70 : decode cX13_readOperands 70 = .ok (.invokevirtual 584, 3) := by decide +kernel
theorem dX13_readOperands_73 : decode cX13_readOperands 73 = .ok (.goto 125, 3) := by decide +kernel
theorem dX13_readOperands_76 : decode cX13_readOperands 76 = .ok (.aload_n 0, 1) := by decide +kernel
theorem dX13_readOperands_77 : decode cX13_readOperands 77 = .ok (.iload_n 1, 1) := by decide +kernel
theorem dX13_readOperands_78 : decode cX13_readOperands 78 = .ok (.invokevirtual 587, 3) := by decide +kernel
theorem dX13_readOperands_81 : decode cX13_readOperands 81 = .ok (.goto 117, 3) := by decide +kernel
theorem dX13_readOperands_84 : decode cX13_readOperands 84 = .ok (.aload_n 0, 1) := by decide +kernel
theorem dX13_readOperands_85 : decode cX13_readOperands 85 = .ok (.iload_n 1, 1) := by decide +kernel
theorem dX13_readOperands_86 : decode cX13_readOperands 86 = .ok (.iconst 1, 1) := by decide +kernel
theorem dX13_readOperands_87 : decode cX13_readOperands 87 = .ok (.iadd, 1) := by decide +kernel
theorem dX13_readOperands_88 : decode cX13_readOperands 88 = .ok (.iload_n 2, 1) := by decide +kernel
theorem dX13_readOperands_89 : decode cX13_readOperands 89 = .ok (.iconst 2, 1) := by decide +kernel
theorem dX13_readOperands_90 : decode cX13_readOperands 90 = .ok (.if_icmp .ne 8, 3) := by decide +kernel
theorem dX13_readOperands_93 : decode cX13_readOperands 93 = .ok (.bipush 63, 2) := by decide +kernel
theorem dX13_readOperands_95 : decode cX13_readOperands 95 = .ok (.goto 6, 3) := by decide +kernel
theorem dX13_readOperands_98 : decode cX13_readOperands 98 = .ok (.sipush 415, 3) := by decide +kernel
theorem dX13_readOperands_101 : decode cX13_readOperands 101 = .ok (.invokevirtual 581, 3) := by decide +kernel
theorem dX13_readOperands_104 : decode cX13_readOperands 104 = .ok (.aload_n 0, 1) := by decide +kernel
theorem dX13_readOperands_105 : decode cX13_readOperands 105 = .ok (.iload_n 1, 1) := by decide +kernel
theorem dX13_readOperands_106 : decode cX13_readOperands 106 = .ok (.iconst 2, 1) := by decide +kernel
theorem dX13_readOperands_107 : decode cX13_readOperands 107 = .ok (.iadd, 1) := by decide +kernel
theorem dX13_readOperands_108 : decode cX13_readOperands 108 = .ok (.iconst 1, 1) := by decide +kernel
theorem dX13_readOperands_109 : decode cX13_readOperands 109 = .ok (.bipush 32, 2) := by decide +kernel
theorem dX13_readOperands_111 : decode cX13_readOperands 111 = .ok (.invokevirtual 549, 3) := by decide +kernel
theorem dX13_readOperands_114 : decode cX13_readOperands 114 = .ok (.goto 84, 3) := by decide +kernel
theorem dX13_readOperands_117 : decode cX13_readOperands 117 = .ok (.aload_n 0, 1) := by decide +kernel
theorem dX13_readOperands_118 : decode cX13_readOperands 118 = .ok (.iload_n 1, 1) := by decide +kernel
theorem dX13_readOperands_119 : decode cX13_readOperands 119 = .ok (.ldc 167, 2) := by decide +kernel
theorem dX13_readOperands_121 : decode cX13_readOperands 121 = .ok (.invokevirtual 590, 3) := by decide +kernel
theorem dX13_readOperands_124 : decode cX13_readOperands 124 = .ok (.goto 74, 3) := by decide +kernel
theorem dX13_readOperands_127 : decode cX13_readOperands 127 = .ok (.aload_n 0, 1) := by decide +kernel
theorem dX13_readOperands_128 : decode cX13_readOperands 128 = .ok (.iload_n 1, 1) := by decide +kernel
theorem dX13_readOperands_129 : decode cX13_readOperands 129 = .ok (.ldc 171, 2) := by decide +kernel
theorem dX13_readOperands_131 : decode cX13_readOperands 131 = .ok (.invokevirtual 590, 3) := by decide +kernel
theorem dX13_readOperands_134 : decode cX13_readOperands 134 = .ok (.goto 64, 3) := by decide +kernel
theorem dX13_readOperands_137 : decode cX13_readOperands 137 = .ok (.aload_n 0, 1) := by decide +kernel
theorem dX13_readOperands_138 : decode cX13_readOperands 138 = .ok (.iload_n 1, 1) := by decide +kernel
theorem dX13_readOperands_139 : decode cX13_readOperands 139 = .ok (.invokevirtual 594, 3) := by decide +kernel
theorem dX13_readOperands_142 : decode cX13_readOperands 142 = .ok (.goto 56, 3) := by decide +kernel
theorem dX13_readOperands_145 : decode cX13_readOperands 145 = .ok (.aload_n 0, 1) := by decide +kernel
theorem dX13_readOperands_146 : decode cX13_readOperands 146 = .ok (.iload_n 1, 1) := by decide +kernel
theorem dX13_readOperands_147 : decode cX13_readOperands 147 = .ok (.iconst 1, 1) := by decide +kernel
theorem dX13_readOperands_148 : decode cX13_readOperands 148 = .ok (.iadd, 1) := by decide +kernel
theorem dX13_readOperands_149 : decode cX13_readOperands 149 = .ok (.sipush 135, 3) := by decide +kernel
theorem dX13_readOperands_152 : decode cX13_readOperands 152 = .ok (.invokevirtual 581, 3) := by decide +kernel
theorem dX13_readOperands_155 : decode cX13_readOperands 155 = .ok (.aload_n 0, 1) := by decide +kernel
theorem dX13_readOperands_156 : decode cX13_readOperands 156 = .ok (.iload_n 1, 1) := by decide +kernel
theorem dX13_readOperands_157 : decode cX13_readOperands 157 = .ok (.iconst 2, 1) := by decide +kernel
theorem dX13_readOperands_158 : decode cX13_readOperands 158 = .ok (.iadd, 1) := by decide +kernel
theorem dX13_readOperands_159 : decode cX13_readOperands 159 = .ok (.iconst 0, 1) := by decide +kernel
theorem dX13_readOperands_160 : decode cX13_readOperands 160 = .ok (.bipush 31, 2) := by decide +kernel
theorem dX13_readOperands_162 : decode cX13_readOperands 162 = .ok (.invokevirtual 549, 3) := by decide +kernel
theorem dX13_readOperands_165 : decode cX13_readOperands 165 = .ok (.goto 33, 3) := by decide +kernel
theorem dX13_readOperands_168 : decode cX13_readOperands 168 = .ok (.aload_n 0, 1) := by decide +kernel
theorem dX13_readOperands_169 : decode cX13_readOperands 169 = .ok (.iload_n 1, 1) := by decide +kernel
theorem dX13_readOperands_170 : decode cX13_readOperands 170 = .ok (.bipush 38, 2) := by decide +kernel
theorem dX13_readOperands_172 : decode cX13_readOperands 172 = .ok (.invokevirtual 597, 3) := by decide +kernel
theorem dX13_readOperands_175 : decode cX13_readOperands 175 = .ok (.goto 23, 3) := by decide +kernel
theorem dX13_readOperands_178 : decode cX13_readOperands 178 = .ok (.aload_n 0, 1) := by decide +kernel
theorem dX13_readOperands_179 : decode cX13_readOperands 179 = .ok (.iload_n 1, 1) := by decide +kernel
theorem dX13_readOperands_180 : decode cX13_readOperands 180 = .ok (.bipush 22, 2) := by decide +kernel
theorem dX13_readOperands_182 : decode cX13_readOperands 182 = .ok (.invokevirtual 597, 3) := by decide +kernel
theorem dX13_readOperands_185 : decode cX13_readOperands 185 = .ok (.goto 13, 3) := by decide +kernel
theorem dX13_readOperands_188 : decode cX13_readOperands 188 = .ok (.aload_n 0, 1) := by decide +kernel
theorem dX13_readOperands_189 : decode cX13_readOperands 189 = .ok (.iload_n 1, 1) := by decide +kernel
theorem dX13_readOperands_190 : decode cX13_readOperands 190 = .ok (.iconst 1, 1) := by decide +kernel
theorem dX13_readOperands_191 : decode cX13_readOperands 191 = .ok (.iadd, 1) := by decide +kernel
theorem dX13_readOperands_192 : decode cX13_readOperands 192 = .ok (.iconst 0, 1) := by decide +kernel
theorem dX13_readOperands_193 : decode cX13_readOperands 193 = .ok (.bipush 7, 2) := by decide +kernel
theorem dX13_readOperands_195 : decode cX13_readOperands 195 = .ok (.invokevirtual 549, 3) := by decide +kernel
theorem dX13_readOperands_198 : decode cX13_readOperands 198 = .ok (.return_, 1) := by decide +kernel
set_option maxRecDepth 20000 in
theorem ggX13_readLabel_X13_isName : GoodIn wsX13_readLabel wsX13_isName := goodIn_r _ [10, 11, 12, 13, 14, 15, 16, 17, 18, 19, 9, 20, 21, 22, 23, 24, 3, 2, 25, 26, 27, 28, 29, 30, 31, 32, 33, 34, 35, 36, 37, 38, 39, 40, 41, 42, 43, 44, 45, 46, 47, 48, 49, 50, 51, 52, 53, 54, 55, 56, 57, 58, 59, 60, 61, 62, 63, 64, 65, 66, 67, 68, 69, 70, 71, 72, 73, 74, 121, 122, 123, 124, 125, 126, 127, 128, 129, 130, 131, 132, 133, 134, 135, 136, 137, 138, 139, 140, 141, 142, 143, 144, 145, 146, 147, 148, 149, 150, 151, 152, 153, 154, 155, 156, 157, 158, 159, 160, 161, 162, 163, 164, 165, 166, 167, 168, 169, 170, 171] (by decide +kernel) (by decide +kernel)
set_option maxRecDepth 20000 in
theorem gX13_readLabel_X13_isName : GoodIn wsX13_readLabel (wsV RX13 536 RX13 yX13_isName wsX13_isName) := goodIn_app (goodIn_of _ (by decide +kernel)) ggX13_readLabel_X13_isName
set_option maxRecDepth 20000 in
theorem ggX13_readLabel_X13_labelled : GoodIn wsX13_readLabel wsX13_labelled := goodIn_r _ [78, 5, 4, 79, 80, 81, 9, 82, 25, 121, 122, 123, 124, 125, 126, 127, 128, 129, 130, 131, 132, 133, 134, 135, 136, 137, 138, 139, 140, 141, 142, 143, 144, 145, 146, 147, 148, 149, 150, 151, 152, 153, 154, 155, 156, 157, 158, 159, 160, 161, 162, 163, 164, 165, 166, 167] (by decide +kernel) (by decide +kernel)
set_option maxRecDepth 20000 in
theorem gX13_readLabel_X13_labelled : GoodIn wsX13_readLabel (wsV RX13 543 RX13 yX13_labelled wsX13_labelled) := goodIn_app (goodIn_of _ (by decide +kernel)) ggX13_readLabel_X13_labelled
set_option maxRecDepth 20000 in
theorem ggX13_readLabel_X13_check : GoodIn wsX13_readLabel wsX13_check := goodIn_r _ [86, 87, 88, 89, 9, 90, 11, 2, 91, 121, 122, 123, 124, 125, 126, 127, 128, 129, 130, 131, 132, 133, 134, 135, 136, 137, 138, 139, 140, 141, 142, 143, 144, 145, 146, 147, 148, 149, 150, 151, 152, 153, 154, 155, 156, 157, 158, 159, 160, 161, 162, 163, 164, 165, 166, 167] (by decide +kernel) (by decide +kernel)
set_option maxRecDepth 20000 in
theorem gX13_readLabel_X13_check : GoodIn wsX13_readLabel (wsV RX13 516 RX13 yX13_check wsX13_check) := goodIn_app (goodIn_of _ (by decide +kernel)) ggX13_readLabel_X13_check
set_option maxRecDepth 20000 in
theorem ggX13_readLabel_X13_advance : GoodIn wsX13_readLabel wsX13_advance := goodIn_r _ [95, 11, 96, 97, 98, 9, 99, 3, 2, 100, 12, 101, 102, 103, 104, 25, 105, 106, 107, 108, 109, 110, 111, 112, 121, 122, 123, 124, 125, 126, 127, 128, 129, 130, 131, 132, 133, 134, 135, 136, 137, 138, 139, 140, 141, 142, 143, 144, 145, 146, 147, 148, 149, 150, 151, 152, 153, 154, 155, 156, 157, 158, 159, 160, 161, 162, 163, 164, 165, 166, 167] (by decide +kernel) (by decide +kernel)
set_option maxRecDepth 20000 in
theorem gX13_readLabel_X13_advance : GoodIn wsX13_readLabel (wsV RX13 520 RX13 yX13_advance wsX13_advance) := goodIn_app (goodIn_of _ (by decide +kernel)) ggX13_readLabel_X13_advance
set_option maxRecDepth 20000 in
theorem ggX13_readLabel_X13_expect : GoodIn wsX13_readLabel wsX13_expect := goodIn_r _ [116, 117, 118, 119, 9, 120, 11, 12, 25, 2, 83, 84, 85, 86, 87, 88, 89, 90, 91, 92, 93, 94, 95, 96, 97, 98, 99, 3, 100, 101, 102, 103, 104, 105, 106, 107, 108, 109, 110, 111, 112, 121, 122, 123, 124, 125, 126, 127, 128, 129, 130, 131, 132, 133, 134, 135, 136, 137, 138, 139, 140, 141, 142, 143, 144, 145, 146, 147, 148, 149, 150, 151, 152, 153, 154, 155, 156, 157, 158, 159, 160, 161, 162, 163, 164, 165, 166, 167] (by decide +kernel) (by decide +kernel)
set_option maxRecDepth 20000 in
theorem gX13_readLabel_X13_expect : GoodIn wsX13_readLabel (wsV RX13 600 RX13 yX13_expect wsX13_expect) := goodIn_app (goodIn_of _ (by decide +kernel)) ggX13_readLabel_X13_expect
theorem dX13_readLabel_0 : decode cX13_readLabel 0 = .ok (.aload_n 0, 1) := by decide +kernel
theorem dX13_readLabel_1 : decode cX13_readLabel 1 = .ok (.getfield 13, 3) := by decide +kernel
theorem dX13_readLabel_4 : decode cX13_readLabel 4 = .ok (.iconst 0, 1) := by decide +kernel
theorem dX13_readLabel_5 : decode cX13_readLabel 5 = .ok (.iaload, 1) := by decide +kernel
theorem dX13_readLabel_6 : decode cX13_readLabel 6 = .ok (.istore_n 1, 1) := by decide +kernel
theorem dX13_readLabel_7 : decode cX13_readLabel 7 = .ok (.aload_n 0, 1) := by decide +kernel
theorem dX13_readLabel_8 : decode cX13_readLabel 8 = .ok (.getfield 478, 3) := by decide +kernel
theorem dX13_readLabel_11 : decode cX13_readLabel 11 = .ok (.istore_n 2, 1) := by decide +kernel
theorem dX13_readLabel_12 : decode cX13_readLabel 12 = .ok (.aload_n 0, 1) := by decide +kernel
theorem dX13_readLabel_13 : decode cX13_readLabel 13 = .ok (.invokevirtual 536, 3) := by decide +kernel
theorem dX13_readLabel_16 : decode cX13_readLabel 16 = .ok (.ifCond .eq 15, 3) := by decide +kernel
theorem dX13_readLabel_19 : decode cX13_readLabel 19 = .ok (.aload_n 0, 1) := by decide +kernel
theorem dX13_readLabel_20 : decode cX13_readLabel 20 = .ok (.getfield 475, 3) := by decide +kernel
theorem dX13_readLabel_23 : decode cX13_readLabel 23 = .ok (.aload_n 0, 1) := by decide +kernel
theorem dX13_readLabel_24 : decode cX13_readLabel 24 = .ok (.getfield 478, 3) := by decide +kernel
theorem dX13_readLabel_27 : decode cX13_readLabel 27 = .ok (.isub, 1) := by decide +kernel
theorem dX13_readLabel_28 : decode cX13_readLabel 28 = .ok (.goto 4, 3) := by decide +kernel
theorem dX13_readLabel_31 : decode cX13_readLabel 31 = .ok (.iconst 0, 1) := by decide +kernel
theorem dX13_readLabel_32 : decode cX13_readLabel 32 = .ok (.istore_n 3, 1) := by decide +kernel
theorem dX13_readLabel_33 : decode cX13_readLabel 33 = .ok (.iload_n 3, 1) := by decide +kernel
theorem dX13_readLabel_34 : decode cX13_readLabel 34 = .ok (.ifCond .le 34, 3) := by decide +kernel
theorem dX13_readLabel_37 : decode cX13_readLabel 37 = .ok (.aload_n 0, 1) := by decide +kernel
theorem dX13_readLabel_38 : decode cX13_readLabel 38 = .ok (.aload_n 0, 1) := by decide +kernel
theorem dX13_readLabel_39 : decode cX13_readLabel 39 = .ok (.iload_n 2, 1) := by decide +kernel
theorem dX13_readLabel_40 : decode cX13_readLabel 40 = .ok (.iload_n 3, 1) := by decide +kernel
theorem dX13_readLabel_41 : decode cX13_readLabel 41 = .ok (.iload_n 1, 1) := by decide +kernel
theorem dX13_readLabel_42 : decode cX13_readLabel 42 = .ok (.invokevirtual 543, 3) := by decide +kernel
theorem dX13_readLabel_45 : decode cX13_readLabel 45 = .ok (.iconst (-1), 1) := by decide +kernel
theorem dX13_readLabel_46 : decode cX13_readLabel 46 = .ok (.if_icmp .ne 7, 3) := by decide +kernel
theorem dX13_readLabel_49 : decode cX13_readLabel 49 = .ok (.iconst 1, 1) := by decide +kernel
theorem dX13_readLabel_50 : decode cX13_readLabel 50 = .ok (.goto 4, 3) := by decide +kernel
theorem dX13_readLabel_53 : decode cX13_readLabel 53 = .ok (.iconst 0, 1) := by decide +kernel
theorem dX13_readLabel_54 : decode cX13_readLabel 54 = .ok (.iconst 4, 1) := by decide +kernel
theorem dX13_readLabel_55 : decode cX13_readLabel 55 = .ok (.invokevirtual 516, 3) := by decide +kernel
theorem dX13_readLabel_58 : decode cX13_readLabel 58 = .ok (.aload_n 0, 1) := by decide +kernel
theorem dX13_readLabel_59 : decode cX13_readLabel 59 = .ok (.invokevirtual 520, 3) := by decide +kernel
theorem dX13_readLabel_62 : decode cX13_readLabel 62 = .ok (.aload_n 0, 1) := by decide +kernel
theorem dX13_readLabel_63 : decode cX13_readLabel 63 = .ok (.bipush 58, 2) := by decide +kernel
theorem dX13_readLabel_65 : decode cX13_readLabel 65 = .ok (.invokevirtual 600, 3) := by decide +kernel
theorem dX13_readLabel_68 : decode cX13_readLabel 68 = .ok (.iload_n 1, 1) := by decide +kernel
theorem dX13_readLabel_69 : decode cX13_readLabel 69 = .ok (.bipush 32, 2) := by decide +kernel
theorem dX13_readLabel_71 : decode cX13_readLabel 71 = .ok (.if_icmp .ge 17, 3) := by decide +kernel
theorem dX13_readLabel_74 : decode cX13_readLabel 74 = .ok (.aload_n 0, 1) := by decide +kernel
theorem dX13_readLabel_75 : decode cX13_readLabel 75 = .ok (.getfield 198, 3) := by decide +kernel
theorem dX13_readLabel_78 : decode cX13_readLabel 78 = .ok (.iload_n 1, 1) := by decide +kernel
theorem dX13_readLabel_79 : decode cX13_readLabel 79 = .ok (.iload_n 2, 1) := by decide +kernel
theorem dX13_readLabel_80 : decode cX13_readLabel 80 = .ok (.iastore, 1) := by decide +kernel
theorem dX13_readLabel_81 : decode cX13_readLabel 81 = .ok (.aload_n 0, 1) := by decide +kernel
theorem dX13_readLabel_82 : decode cX13_readLabel 82 = .ok (.getfield 201, 3) := by decide +kernel
theorem dX13_readLabel_85 : decode cX13_readLabel 85 = .ok (.iload_n 1, 1) := by decide +kernel
theorem dX13_readLabel_86 : decode cX13_readLabel 86 = .ok (.iload_n 3, 1) := by decide +kernel
theorem dX13_readLabel_87 : decode cX13_readLabel 87 = .ok (.iastore, 1) := by decide +kernel
theorem dX13_readLabel_88 : decode cX13_readLabel 88 = .ok (.return_, 1) := by decide +kernel
set_option maxRecDepth 20000 in
theorem ggX13_readInstruction_X13_readLabel : GoodIn wsX13_readInstruction wsX13_readLabel := goodIn_r _ [8, 3, 9, 10, 11, 12, 13, 14, 15, 7, 16, 2, 17, 1, 18, 19, 20, 21, 22, 23, 24, 25, 26, 27, 28, 29, 30, 31, 32, 33, 34, 35, 36, 37, 38, 39, 40, 41, 42, 43, 44, 45, 46, 47, 48, 49, 50, 51, 52, 53, 54, 55, 56, 57, 58, 59, 60, 61, 62, 63, 64, 65, 66, 67, 68, 69, 70, 71, 72, 73, 74, 75, 76, 77, 78, 79, 80, 81, 82, 83, 84, 85, 86, 87, 88, 89, 90, 91, 92, 93, 94, 95, 96, 97, 98, 99, 100, 101, 102, 103, 104, 105, 106, 107, 108, 109, 110, 111, 112, 113, 114, 115, 116, 117, 118, 119, 120, 121, 122, 123, 124, 189, 190, 191, 192, 193, 194, 195, 196, 197, 198, 199, 200, 201, 202, 203, 204, 205, 206, 207, 208, 209, 210, 211, 212, 213, 214, 215, 216, 217, 218, 219, 220, 221, 222, 223, 224, 225, 226, 227, 228, 229, 230, 231, 232, 233, 234, 235, 236, 237, 238, 239] (by decide +kernel) (by decide +kernel)
set_option maxRecDepth 20000 in
theorem gX13_readInstruction_X13_readLabel : GoodIn wsX13_readInstruction (wsV RX13 603 RX13 yX13_readLabel wsX13_readLabel) := goodIn_app (goodIn_of _ (by decide +kernel)) ggX13_readInstruction_X13_readLabel
set_option maxRecDepth 20000 in
theorem ggX13_readInstruction_X13_indexIn : GoodIn wsX13_readInstruction wsX13_indexIn := goodIn_r _ [24, 25, 26, 27, 7, 28, 2, 17, 10, 9, 29, 30, 31, 32, 33, 34, 35, 36, 37, 38, 39, 40, 41, 42, 43, 44, 45, 46, 47, 48, 49, 50, 51, 52, 53, 54, 55, 56, 57, 58, 59, 60, 61, 62, 63, 64, 65, 66, 67, 68, 69, 70, 71, 72, 73, 74, 75, 76, 77, 78, 189, 190, 191, 192, 193, 194, 195, 196, 197, 198, 199, 200, 201, 202, 203, 204, 205, 206, 207, 208, 209, 210, 211, 212, 213, 214, 215, 216, 217, 218, 219, 220, 221, 222, 223, 224, 225, 226, 227, 228, 229, 230, 231, 232, 233, 234, 235, 236, 237, 238, 239] (by decide +kernel) (by decide +kernel)
set_option maxRecDepth 20000 in
theorem gX13_readInstruction_X13_indexIn : GoodIn wsX13_readInstruction (wsV RX13 529 RX13 yX13_indexIn wsX13_indexIn) := goodIn_app (goodIn_of _ (by decide +kernel)) ggX13_readInstruction_X13_indexIn
set_option maxRecDepth 20000 in
theorem ggX13_readInstruction_X13_check : GoodIn wsX13_readInstruction wsX13_check := goodIn_r _ [90, 91, 92, 93, 7, 94, 2, 9, 95, 189, 190, 191, 192, 193, 194, 195, 196, 197, 198, 199, 200, 201, 202, 203, 204, 205, 206, 207, 208, 209, 210, 211, 212, 213, 214, 215, 216, 217, 218, 219, 220, 221, 222, 223, 224, 225, 226, 227, 228, 229, 230, 231, 232, 233, 234, 235] (by decide +kernel) (by decide +kernel)
set_option maxRecDepth 20000 in
theorem gX13_readInstruction_X13_check : GoodIn wsX13_readInstruction (wsV RX13 516 RX13 yX13_check wsX13_check) := goodIn_app (goodIn_of _ (by decide +kernel)) ggX13_readInstruction_X13_check
set_option maxRecDepth 20000 in
theorem ggX13_readInstruction_X13_advance : GoodIn wsX13_readInstruction wsX13_advance := goodIn_r _ [99, 2, 100, 101, 102, 7, 103, 10, 9, 104, 17, 105, 106, 107, 108, 29, 109, 110, 111, 112, 113, 114, 115, 116, 189, 190, 191, 192, 193, 194, 195, 196, 197, 198, 199, 200, 201, 202, 203, 204, 205, 206, 207, 208, 209, 210, 211, 212, 213, 214, 215, 216, 217, 218, 219, 220, 221, 222, 223, 224, 225, 226, 227, 228, 229, 230, 231, 232, 233, 234, 235] (by decide +kernel) (by decide +kernel)
set_option maxRecDepth 20000 in
theorem gX13_readInstruction_X13_advance : GoodIn wsX13_readInstruction (wsV RX13 520 RX13 yX13_advance wsX13_advance) := goodIn_app (goodIn_of _ (by decide +kernel)) ggX13_readInstruction_X13_advance
set_option maxRecDepth 20000 in
theorem ggX13_readInstruction_X13_readOperands : GoodIn wsX13_readInstruction wsX13_readOperands := goodIn_r _ [128, 129, 130, 131, 7, 132, 18, 3, 21, 22, 23, 24, 25, 26, 27, 28, 2, 17, 10, 9, 29, 30, 31, 32, 33, 34, 35, 36, 37, 38, 39, 40, 41, 42, 43, 44, 45, 46, 47, 48, 49, 50, 51, 52, 53, 54, 55, 56, 57, 58, 59, 60, 61, 62, 63, 64, 65, 66, 67, 68, 69, 70, 71, 72, 73, 74, 75, 76, 77, 78, 100, 101, 102, 103, 104, 105, 106, 107, 108, 109, 110, 111, 112, 113, 114, 115, 116, 133, 134, 135, 136, 137, 138, 139, 140, 13, 14, 15, 16, 1, 19, 20, 87, 88, 89, 90, 91, 92, 93, 94, 95, 96, 97, 98, 99, 141, 142, 143, 144, 145, 146, 147, 148, 149, 150, 151, 152, 153, 154, 155, 156, 157, 158, 159, 160, 161, 162, 163, 164, 165, 166, 167, 168, 169, 170, 171, 172, 173, 174, 175, 176, 177, 178, 179, 180, 181, 182, 183, 184, 185, 186, 187, 188, 189, 190, 191, 192, 193, 194, 195, 196, 197, 198, 199, 200, 201, 202, 203, 204, 205, 206, 207, 208, 209, 210, 211, 212, 213, 214, 215, 216, 217, 218, 219, 220, 221, 222, 223, 224, 225, 226, 227, 228, 229, 230, 231, 232, 233, 234, 235, 236, 237, 238, 239] (by decide +kernel) (by decide +kernel)
set_option maxRecDepth 20000 in
theorem gX13_readInstruction_X13_readOperands : GoodIn wsX13_readInstruction (wsV RX13 606 RX13 yX13_readOperands wsX13_readOperands) := goodIn_app (goodIn_of _ (by decide +kernel)) ggX13_readInstruction_X13_readOperands
set_option maxRecDepth 20000 in
theorem ggX13_readInstruction_X13_accept : GoodIn wsX13_readInstruction wsX13_accept := goodIn_r _ [168, 25, 26, 27, 7, 28, 2, 17, 10, 9, 29, 30, 31, 32, 33, 34, 35, 36, 37, 38, 39, 40, 41, 42, 43, 44, 45, 46, 47, 48, 49, 50, 51, 52, 53, 54, 55, 56, 57, 58, 59, 60, 61, 62, 63, 64, 65, 66, 67, 68, 69, 70, 71, 72, 73, 74, 75, 76, 77, 78, 100, 101, 102, 103, 104, 105, 106, 107, 108, 109, 110, 111, 112, 113, 114, 115, 116, 189, 190, 191, 192, 193, 194, 195, 196, 197, 198, 199, 200, 201, 202, 203, 204, 205, 206, 207, 208, 209, 210, 211, 212, 213, 214, 215, 216, 217, 218, 219, 220, 221, 222, 223, 224, 225, 226, 227, 228, 229, 230, 231, 232, 233, 234, 235, 236, 237, 238, 239] (by decide +kernel) (by decide +kernel)
set_option maxRecDepth 20000 in
theorem gX13_readInstruction_X13_accept : GoodIn wsX13_readInstruction (wsV RX13 552 RX13 yX13_accept wsX13_accept) := goodIn_app (goodIn_of _ (by decide +kernel)) ggX13_readInstruction_X13_accept
set_option maxRecDepth 20000 in
theorem ggX13_readInstruction_X13_putNumber : GoodIn wsX13_readInstruction wsX13_putNumber := goodIn_r _ [148, 2, 3, 149, 150, 151, 7, 152, 17, 87, 88, 89, 90, 91, 92, 93, 94, 9, 95, 153, 154, 155, 156, 10, 157, 29, 158, 159, 160, 161, 162, 163, 164, 96, 97, 98, 99, 100, 101, 102, 103, 104, 105, 106, 107, 108, 109, 110, 111, 112, 113, 114, 115, 116, 189, 190, 191, 192, 193, 194, 195, 196, 197, 198, 199, 200, 201, 202, 203, 204, 205, 206, 207, 208, 209, 210, 211, 212, 213, 214, 215, 216, 217, 218, 219, 220, 221, 222, 223, 224, 225, 226, 227, 228, 229, 230, 231, 232, 233, 234, 235] (by decide +kernel) (by decide +kernel)
set_option maxRecDepth 20000 in
theorem gX13_readInstruction_X13_putNumber : GoodIn wsX13_readInstruction (wsV RX13 549 RX13 yX13_putNumber wsX13_putNumber) := goodIn_app (goodIn_of _ (by decide +kernel)) ggX13_readInstruction_X13_putNumber
theorem dX13_readInstruction_0 : decode cX13_readInstruction 0 = .ok (.aload_n 0, 1) := by decide +kernel
theorem dX13_readInstruction_1 : decode cX13_readInstruction 1 = .ok (.invokevirtual 603, 3) := by decide +kernel
theorem dX13_readInstruction_4 : decode cX13_readInstruction 4 = .ok (.aload_n 0, 1) := by decide +kernel
theorem dX13_readInstruction_5 : decode cX13_readInstruction 5 = .ok (.aload_n 0, 1) := by decide +kernel
theorem dX13_readInstruction_6 : decode cX13_readInstruction 6 = .ok (.getfield 85, 3) := by decide +kernel
theorem dX13_readInstruction_9 : decode cX13_readInstruction 9 = .ok (.invokevirtual 529, 3) := by decide +kernel
theorem dX13_readInstruction_12 : decode cX13_readInstruction 12 = .ok (.istore_n 1, 1) := by decide +kernel
theorem dX13_readInstruction_13 : decode cX13_readInstruction 13 = .ok (.aload_n 0, 1) := by decide +kernel
theorem dX13_readInstruction_14 : decode cX13_readInstruction 14 = .ok (.aload_n 0, 1) := by decide +kernel
theorem dX13_readInstruction_15 : decode cX13_readInstruction 15 = .ok (.getfield 490, 3) := by decide +kernel
theorem dX13_readInstruction_18 : decode cX13_readInstruction 18 = .ok (.ifCond .ne 8, 3) := by decide +kernel
theorem dX13_readInstruction_21 : decode cX13_readInstruction 21 = .ok (.iload_n 1, 1) := by decide +kernel
theorem dX13_readInstruction_22 : decode cX13_readInstruction 22 = .ok (.iconst (-1), 1) := by decide +kernel
theorem dX13_readInstruction_23 : decode cX13_readInstruction 23 = .ok (.if_icmp .eq 7, 3) := by decide +kernel
theorem dX13_readInstruction_26 : decode cX13_readInstruction 26 = .ok (.iconst 1, 1) := by decide +kernel
theorem dX13_readInstruction_27 : decode cX13_readInstruction 27 = .ok (.goto 4, 3) := by decide +kernel
theorem dX13_readInstruction_30 : decode cX13_readInstruction 30 = .ok (.iconst 0, 1) := by decide +kernel
theorem dX13_readInstruction_31 : decode cX13_readInstruction 31 = .ok (.iconst 1, 1) := by decide +kernel
theorem dX13_readInstruction_32 : decode cX13_readInstruction 32 = .ok (.invokevirtual 516, 3) := by decide +kernel
theorem dX13_readInstruction_35 : decode cX13_readInstruction 35 = .ok (.aload_n 0, 1) := by decide +kernel
theorem dX13_readInstruction_36 : decode cX13_readInstruction 36 = .ok (.aload_n 0, 1) := by decide +kernel
theorem dX13_readInstruction_37 : decode cX13_readInstruction 37 = .ok (.getfield 490, 3) := by decide +kernel
theorem dX13_readInstruction_40 : decode cX13_readInstruction 40 = .ok (.ifCond .ne 14, 3) := by decide +kernel
theorem dX13_readInstruction_43 : decode cX13_readInstruction 43 = .ok (.aload_n 0, 1) := by decide +kernel
theorem dX13_readInstruction_44 : decode cX13_readInstruction 44 = .ok (.getfield 13, 3) := by decide +kernel
theorem dX13_readInstruction_47 : decode cX13_readInstruction 47 = .ok (.iconst 0, 1) := by decide +kernel
theorem dX13_readInstruction_48 : decode cX13_readInstruction 48 = .ok (.iaload, 1) := by decide +kernel
theorem dX13_readInstruction_49 : decode cX13_readInstruction 49 = .ok (.bipush 32, 2) := by decide +kernel
theorem dX13_readInstruction_51 : decode cX13_readInstruction 51 = .ok (.if_icmp .ge 7, 3) := by decide +kernel
theorem dX13_readInstruction_54 : decode cX13_readInstruction 54 = .ok (.iconst 1, 1) := by decide +kernel
theorem dX13_readInstruction_55 : decode cX13_readInstruction 55 = .ok (.goto 4, 3) := by decide +kernel
theorem dX13_readInstruction_58 : decode cX13_readInstruction 58 = .ok (.iconst 0, 1) := by decide +kernel
theorem dX13_readInstruction_59 : decode cX13_readInstruction 59 = .ok (.iconst 3, 1) := by decide +kernel
theorem dX13_readInstruction_60 : decode cX13_readInstruction 60 = .ok (.invokevirtual 516, 3) := by decide +kernel
theorem dX13_readInstruction_63 : decode cX13_readInstruction 63 = .ok (.aload_n 0, 1) := by decide +kernel
theorem dX13_readInstruction_64 : decode cX13_readInstruction 64 = .ok (.invokevirtual 520, 3) := by decide +kernel
theorem dX13_readInstruction_67 : decode cX13_readInstruction 67 = .ok (.aload_n 0, 1) := by decide +kernel
theorem dX13_readInstruction_68 : decode cX13_readInstruction 68 = .ok (.getfield 490, 3) := by decide +kernel
theorem dX13_readInstruction_71 : decode cX13_readInstruction 71 = .ok (.ifCond .eq 4, 3) := by decide +kernel
theorem dX13_readInstruction_74 : decode cX13_readInstruction 74 = .ok (.return_, 1) := by decide +kernel
theorem dX13_readInstruction_75 : decode cX13_readInstruction 75 = .ok (.sipush 284, 3) := by decide +kernel
theorem dX13_readInstruction_78 : decode cX13_readInstruction 78 = .ok (.bipush 6, 2) := by decide +kernel
theorem dX13_readInstruction_80 : decode cX13_readInstruction 80 = .ok (.aload_n 0, 1) := by decide +kernel
theorem dX13_readInstruction_81 : decode cX13_readInstruction 81 = .ok (.getfield 13, 3) := by decide +kernel
theorem dX13_readInstruction_84 : decode cX13_readInstruction 84 = .ok (.iconst 0, 1) := by decide +kernel
theorem dX13_readInstruction_85 : decode cX13_readInstruction 85 = .ok (.iaload, 1) := by decide +kernel
theorem dX13_readInstruction_86 : decode cX13_readInstruction 86 = .ok (.imul, 1) := by decide +kernel
theorem dX13_readInstruction_87 : decode cX13_readInstruction 87 = .ok (.iadd, 1) := by decide +kernel
theorem dX13_readInstruction_88 : decode cX13_readInstruction 88 = .ok (.istore_n 2, 1) := by decide +kernel
theorem dX13_readInstruction_89 : decode cX13_readInstruction 89 = .ok (.aload_n 0, 1) := by decide +kernel
theorem dX13_readInstruction_90 : decode cX13_readInstruction 90 = .ok (.getfield 13, 3) := by decide +kernel
theorem dX13_readInstruction_93 : decode cX13_readInstruction 93 = .ok (.iload_n 2, 1) := by decide +kernel
theorem dX13_readInstruction_94 : decode cX13_readInstruction 94 = .ok (.iconst 0, 1) := by decide +kernel
theorem dX13_readInstruction_95 : decode cX13_readInstruction 95 = .ok (.iadd, 1) := by decide +kernel
theorem dX13_readInstruction_96 : decode cX13_readInstruction 96 = .ok (.iload_n 1, 1) := by decide +kernel
theorem dX13_readInstruction_97 : decode cX13_readInstruction 97 = .ok (.iastore, 1) := by decide +kernel
theorem dX13_readInstruction_98 : decode cX13_readInstruction 98 = .ok (.aload_n 0, 1) := by decide +kernel
theorem dX13_readInstruction_99 : decode cX13_readInstruction 99 = .ok (.getfield 13, 3) := by decide +kernel
theorem dX13_readInstruction_102 : decode cX13_readInstruction 102 = .ok (.iload_n 2, 1) := by decide +kernel
theorem dX13_readInstruction_103 : decode cX13_readInstruction 103 = .ok (.iconst 4, 1) := by decide +kernel
theorem dX13_readInstruction_104 : decode cX13_readInstruction 104 = .ok (.iadd, 1) := by decide +kernel
theorem dX13_readInstruction_105 : decode cX13_readInstruction 105 = .ok (.iconst (-1), 1) := by decide +kernel
theorem dX13_readInstruction_106 : decode cX13_readInstruction 106 = .ok (.iastore, 1) := by decide +kernel
theorem dX13_readInstruction_107 : decode cX13_readInstruction 107 = .ok (.aload_n 0, 1) := by decide +kernel
theorem dX13_readInstruction_108 : decode cX13_readInstruction 108 = .ok (.iload_n 2, 1) := by decide +kernel
theorem dX13_readInstruction_109 : decode cX13_readInstruction 109 = .ok (.iload_n 1, 1) := by decide +kernel
theorem dX13_readInstruction_110 : decode cX13_readInstruction 110 = .ok (.invokevirtual 606, 3) := by decide +kernel
theorem dX13_readInstruction_113 : decode cX13_readInstruction 113 = .ok (.aload_n 0, 1) := by decide +kernel
theorem dX13_readInstruction_114 : decode cX13_readInstruction 114 = .ok (.ldc 135, 2) := by decide +kernel
theorem dX13_readInstruction_116 : decode cX13_readInstruction 116 = .ok (.invokevirtual 552, 3) := by decide +kernel
theorem dX13_readInstruction_119 : decode cX13_readInstruction 119 = .ok (.ifCond .eq 13, 3) := by decide +kernel
theorem dX13_readInstruction_122 : decode cX13_readInstruction 122 = .ok (.aload_n 0, 1) := by decide +kernel
theorem dX13_readInstruction_123 : decode cX13_readInstruction 123 = .ok (.iload_n 2, 1) := by decide +kernel
theorem dX13_readInstruction_124 : decode cX13_readInstruction 124 = .ok (.iconst 4, 1) := by decide +kernel
theorem dX13_readInstruction_125 : decode cX13_readInstruction 125 = .ok (.iadd, 1) := by decide +kernel
theorem dX13_readInstruction_126 : decode cX13_readInstruction 126 = .ok (.iconst 0, 1) := by decide +kernel
theorem dX13_readInstruction_127 : decode cX13_readInstruction 127 = .ok (.bipush 15, 2) := by decide +kernel
theorem dX13_readInstruction_129 : decode cX13_readInstruction 129 = .ok (.invokevirtual 549, 3) := by decide +kernel
theorem dX13_readInstruction_132 : decode cX13_readInstruction 132 = .ok (.aload_n 0, 1) := by decide +kernel
theorem dX13_readInstruction_133 : decode cX13_readInstruction 133 = .ok (.ldc 137, 2) := by decide +kernel
theorem dX13_readInstruction_135 : decode cX13_readInstruction 135 = .ok (.invokevirtual 552, 3) := by decide +kernel
theorem dX13_readInstruction_138 : decode cX13_readInstruction 138 = .ok (.ifCond .eq 13, 3) := by decide +kernel
theorem dX13_readInstruction_141 : decode cX13_readInstruction 141 = .ok (.aload_n 0, 1) := by decide +kernel
theorem dX13_readInstruction_142 : decode cX13_readInstruction 142 = .ok (.iload_n 2, 1) := by decide +kernel
theorem dX13_readInstruction_143 : decode cX13_readInstruction 143 = .ok (.iconst 5, 1) := by decide +kernel
theorem dX13_readInstruction_144 : decode cX13_readInstruction 144 = .ok (.iadd, 1) := by decide +kernel
theorem dX13_readInstruction_145 : decode cX13_readInstruction 145 = .ok (.iconst 0, 1) := by decide +kernel
theorem dX13_readInstruction_146 : decode cX13_readInstruction 146 = .ok (.bipush 31, 2) := by decide +kernel
theorem dX13_readInstruction_148 : decode cX13_readInstruction 148 = .ok (.invokevirtual 549, 3) := by decide +kernel
theorem dX13_readInstruction_151 : decode cX13_readInstruction 151 = .ok (.aload_n 0, 1) := by decide +kernel
theorem dX13_readInstruction_152 : decode cX13_readInstruction 152 = .ok (.getfield 13, 3) := by decide +kernel
theorem dX13_readInstruction_155 : decode cX13_readInstruction 155 = .ok (.iconst 0, 1) := by decide +kernel
theorem dX13_readInstruction_156 : decode cX13_readInstruction 156 = .ok (.dup2, 1) := by decide +kernel
theorem dX13_readInstruction_157 : decode cX13_readInstruction 157 = .ok (.iaload, 1) := by decide +kernel
theorem dX13_readInstruction_158 : decode cX13_readInstruction 158 = .ok (.iconst 1, 1) := by decide +kernel
theorem dX13_readInstruction_159 : decode cX13_readInstruction 159 = .ok (.iadd, 1) := by decide +kernel
theorem dX13_readInstruction_160 : decode cX13_readInstruction 160 = .ok (.iastore, 1) := by decide +kernel
theorem dX13_readInstruction_161 : decode cX13_readInstruction 161 = .ok (.return_, 1) := by decide +kernel
set_option maxRecDepth 20000 in
theorem ggX13_readClause_X13_accept : GoodIn wsX13_readClause wsX13_accept := goodIn_r _ [5, 6, 7, 8, 4, 9, 10, 11, 12, 13, 14, 15, 16, 17, 18, 19, 20, 21, 22, 23, 24, 25, 26, 27, 28, 29, 30, 31, 32, 33, 34, 35, 36, 37, 38, 39, 40, 41, 42, 43, 44, 45, 46, 47, 48, 49, 50, 51, 52, 53, 54, 55, 56, 57, 58, 59, 60, 61, 62, 63, 64, 65, 66, 67, 68, 69, 70, 71, 72, 73, 74, 75, 76, 77, 78, 79, 80, 225, 226, 227, 228, 229, 230, 231, 232, 233, 234, 235, 236, 237, 238, 239, 240, 241, 242, 243, 244, 245, 246, 247, 248, 249, 250, 251, 252, 253, 254, 255, 256, 257, 258, 259, 260, 261, 262, 263, 264, 265, 266, 267, 268, 269, 270, 271, 272, 273, 274, 275] (by decide +kernel) (by decide +kernel)
set_option maxRecDepth 20000 in
theorem gX13_readClause_X13_accept : GoodIn wsX13_readClause (wsV RX13 552 RX13 yX13_accept wsX13_accept) := goodIn_app (goodIn_of _ (by decide +kernel)) ggX13_readClause_X13_accept
set_option maxRecDepth 20000 in
theorem ggX13_readClause_X13_readEngine : GoodIn wsX13_readClause wsX13_readEngine := goodIn_r _ [84, 10, 11, 85, 86, 87, 88, 4, 89, 90, 91, 92, 93, 13, 94, 95, 96, 97, 98, 12, 99, 14, 100, 101, 102, 103, 104, 105, 106, 107, 108, 109, 110, 64, 65, 66, 67, 68, 69, 70, 71, 72, 73, 74, 75, 76, 77, 78, 79, 80, 111, 112, 113, 114, 6, 7, 8, 9, 15, 16, 17, 18, 19, 20, 21, 22, 23, 24, 25, 26, 27, 28, 29, 30, 31, 32, 33, 34, 35, 36, 37, 38, 39, 40, 41, 42, 43, 44, 45, 46, 47, 48, 49, 50, 51, 52, 53, 54, 55, 56, 57, 58, 59, 60, 61, 62, 63, 115, 116, 117, 118, 119, 120, 121, 122, 123, 124, 125, 126, 127, 128, 129, 130, 131, 132, 133, 134, 135, 136, 137, 138, 1, 2, 3, 5, 139, 140, 141, 142, 143, 144, 145, 146, 147, 148, 149, 150, 151, 152, 153, 154, 155, 156, 157, 158, 159, 160, 161, 162, 163, 164, 165, 166, 225, 226, 227, 228, 229, 230, 231, 232, 233, 234, 235, 236, 237, 238, 239, 240, 241, 242, 243, 244, 245, 246, 247, 248, 249, 250, 251, 252, 253, 254, 255, 256, 257, 258, 259, 260, 261, 262, 263, 264, 265, 266, 267, 268, 269, 270, 271, 272, 273, 274, 275] (by decide +kernel) (by decide +kernel)
set_option maxRecDepth 20000 in
theorem gX13_readClause_X13_readEngine : GoodIn wsX13_readClause (wsV RX13 609 RX13 yX13_readEngine wsX13_readEngine) := goodIn_app (goodIn_of _ (by decide +kernel)) ggX13_readClause_X13_readEngine
set_option maxRecDepth 20000 in
theorem ggX13_readClause_X13_readLevel : GoodIn wsX13_readClause wsX13_readLevel := goodIn_r _ [170, 143, 144, 145, 4, 146, 10, 11, 86, 87, 88, 89, 90, 91, 92, 93, 13, 94, 95, 96, 97, 98, 12, 99, 14, 100, 101, 102, 103, 104, 105, 106, 107, 108, 109, 110, 64, 65, 66, 67, 68, 69, 70, 71, 72, 73, 74, 75, 76, 77, 78, 79, 80, 151, 152, 153, 154, 85, 225, 226, 227, 228, 229, 230, 231, 232, 233, 234, 235, 236, 237, 238, 239, 240, 241, 242, 243, 244, 245, 246, 247, 248, 249, 250, 251, 252, 253, 254, 255, 256, 257, 258, 259, 260, 261, 262, 263, 264, 265, 266, 267, 268, 269, 270, 271] (by decide +kernel) (by decide +kernel)
set_option maxRecDepth 20000 in
theorem gX13_readClause_X13_readLevel : GoodIn wsX13_readClause (wsV RX13 612 RX13 yX13_readLevel wsX13_readLevel) := goodIn_app (goodIn_of _ (by decide +kernel)) ggX13_readClause_X13_readLevel
set_option maxRecDepth 20000 in
theorem ggX13_readClause_X13_readInstruction : GoodIn wsX13_readClause wsX13_readInstruction := goodIn_r _ [174, 127, 10, 85, 175, 176, 177, 4, 178, 13, 12, 179, 180, 123, 124, 125, 126, 11, 128, 129, 130, 131, 132, 133, 134, 6, 7, 8, 9, 14, 15, 16, 17, 18, 19, 20, 21, 22, 23, 24, 25, 26, 27, 28, 29, 30, 31, 32, 33, 34, 35, 36, 37, 38, 39, 40, 41, 42, 43, 44, 45, 46, 47, 48, 49, 50, 51, 52, 53, 54, 55, 56, 57, 58, 59, 60, 61, 62, 63, 181, 182, 183, 184, 185, 186, 187, 188, 86, 87, 88, 89, 90, 91, 92, 93, 94, 107, 108, 109, 110, 64, 65, 66, 67, 68, 69, 70, 71, 72, 73, 74, 75, 76, 77, 78, 79, 80, 189, 190, 191, 192, 193, 194, 195, 196, 197, 198, 199, 200, 201, 202, 203, 204, 115, 116, 117, 118, 119, 120, 121, 122, 205, 206, 207, 208, 151, 152, 153, 154, 143, 144, 145, 146, 95, 96, 97, 98, 99, 100, 101, 102, 103, 104, 105, 106, 1, 2, 3, 5, 111, 112, 113, 114, 209, 210, 211, 212, 213, 214, 215, 216, 217, 218, 219, 220, 221, 222, 223, 224, 225, 226, 227, 228, 229, 230, 231, 232, 233, 234, 235, 236, 237, 238, 239, 240, 241, 242, 243, 244, 245, 246, 247, 248, 249, 250, 251, 252, 253, 254, 255, 256, 257, 258, 259, 260, 261, 262, 263, 264, 265, 266, 267, 268, 269, 270, 271, 272, 273, 274, 275] (by decide +kernel) (by decide +kernel)
set_option maxRecDepth 20000 in
theorem gX13_readClause_X13_readInstruction : GoodIn wsX13_readClause (wsV RX13 615 RX13 yX13_readInstruction wsX13_readInstruction) := goodIn_app (goodIn_of _ (by decide +kernel)) ggX13_readClause_X13_readInstruction
set_option maxRecDepth 20000 in
theorem ggX13_readClause_X13_expect : GoodIn wsX13_readClause wsX13_expect := goodIn_r _ [192, 193, 194, 195, 4, 196, 10, 11, 14, 13, 86, 87, 88, 89, 90, 91, 92, 93, 94, 107, 108, 109, 110, 64, 65, 66, 67, 12, 68, 69, 70, 71, 72, 73, 74, 75, 76, 77, 78, 79, 80, 225, 226, 227, 228, 229, 230, 231, 232, 233, 234, 235, 236, 237, 238, 239, 240, 241, 242, 243, 244, 245, 246, 247, 248, 249, 250, 251, 252, 253, 254, 255, 256, 257, 258, 259, 260, 261, 262, 263, 264, 265, 266, 267, 268, 269, 270, 271] (by decide +kernel) (by decide +kernel)
set_option maxRecDepth 20000 in
theorem gX13_readClause_X13_expect : GoodIn wsX13_readClause (wsV RX13 600 RX13 yX13_expect wsX13_expect) := goodIn_app (goodIn_of _ (by decide +kernel)) ggX13_readClause_X13_expect
theorem dX13_readClause_0 : decode cX13_readClause 0 = .ok (.aload_n 0, 1) := by decide +kernel
theorem dX13_readClause_1 : decode cX13_readClause 1 = .ok (.ldc 129, 2) := by decide +kernel
theorem dX13_readClause_3 : decode cX13_readClause 3 = .ok (.invokevirtual 552, 3) := by decide +kernel
theorem dX13_readClause_6 : decode cX13_readClause 6 = .ok (.ifCond .eq 10, 3) := by decide +kernel
theorem dX13_readClause_9 : decode cX13_readClause 9 = .ok (.aload_n 0, 1) := by decide +kernel
theorem dX13_readClause_10 : decode cX13_readClause 10 = .ok (.invokevirtual 609, 3) := by decide +kernel
theorem dX13_readClause_13 : decode cX13_readClause 13 = .ok (.goto 23, 3) := by decide +kernel
theorem dX13_readClause_16 : decode cX13_readClause 16 = .ok (.aload_n 0, 1) := by decide +kernel
theorem dX13_readClause_17 : decode cX13_readClause 17 = .ok (.ldc 133, 2) := by decide +kernel
theorem dX13_readClause_19 : decode cX13_readClause 19 = .ok (.invokevirtual 552, 3) := by decide +kernel
theorem dX13_readClause_22 : decode cX13_readClause 22 = .ok (.ifCond .eq 10, 3) := by decide +kernel
theorem dX13_readClause_25 : decode cX13_readClause 25 = .ok (.aload_n 0, 1) := by decide +kernel
theorem dX13_readClause_26 : decode cX13_readClause 26 = .ok (.invokevirtual 612, 3) := by decide +kernel
theorem dX13_readClause_29 : decode cX13_readClause 29 = .ok (.goto 7, 3) := by decide +kernel
theorem dX13_readClause_32 : decode cX13_readClause 32 = .ok (.aload_n 0, 1) := by decide +kernel
theorem dX13_readClause_33 : decode cX13_readClause 33 = .ok (.invokevirtual 615, 3) := by decide +kernel
theorem dX13_readClause_36 : decode cX13_readClause 36 = .ok (.aload_n 0, 1) := by decide +kernel
theorem dX13_readClause_37 : decode cX13_readClause 37 = .ok (.bipush 59, 2) := by decide +kernel
theorem dX13_readClause_39 : decode cX13_readClause 39 = .ok (.invokevirtual 600, 3) := by decide +kernel
theorem dX13_readClause_42 : decode cX13_readClause 42 = .ok (.return_, 1) := by decide +kernel
set_option maxRecDepth 20000 in
theorem ggX13_load_X13_inRange : GoodIn wsX13_load wsX13_inRange := goodIn_r _ [13] (by decide +kernel) (by decide +kernel)
set_option maxRecDepth 20000 in
theorem gX13_load_X13_inRange : GoodIn wsX13_load (va_wsS RX13 245 yX13_inRange wsX13_inRange) := goodIn_app (goodIn_of _ (by decide +kernel)) ggX13_load_X13_inRange
set_option maxRecDepth 20000 in
theorem ggX13_load_X13_raise : GoodIn wsX13_load wsX13_raise := goodIn_r _ [17, 1, 282, 283, 284, 285, 286, 287, 288, 289, 290, 291, 292, 293, 294, 295, 296, 297, 298, 299, 300, 301, 302, 303, 304, 305, 306, 307, 308, 309, 310, 311, 312, 313, 314, 315, 316, 317, 318, 319, 320, 321, 322, 323, 324, 325, 326, 327, 328] (by decide +kernel) (by decide +kernel)
set_option maxRecDepth 20000 in
theorem gX13_load_X13_raise : GoodIn wsX13_load (wsV RX13 259 RX13 yX13_raise wsX13_raise) := goodIn_app (goodIn_of _ (by decide +kernel)) ggX13_load_X13_raise
set_option maxRecDepth 20000 in
theorem ggX13_load_X13_clear : GoodIn wsX13_load wsX13_clear := goodIn_r _ [20] (by decide +kernel) (by decide +kernel)
set_option maxRecDepth 20000 in
theorem gX13_load_X13_clear : GoodIn wsX13_load (va_wsS RX13 228 yX13_clear wsX13_clear) := goodIn_app (goodIn_of _ (by decide +kernel)) ggX13_load_X13_clear
set_option maxRecDepth 20000 in
theorem ggX13_load_X13_startText : GoodIn wsX13_load wsX13_startText := goodIn_r _ [24, 25, 26, 5, 27, 28, 29, 30, 12, 31, 32, 6, 33, 34, 35, 36, 37, 38, 39, 40, 41, 42, 43, 44, 45, 282, 283, 284, 285, 286, 287, 288, 289, 290, 291, 292, 293, 294, 295, 296, 297, 298, 299, 300, 301, 302, 303, 304, 305, 306, 307, 308, 309, 310, 311, 312, 313, 314, 315, 316, 317, 318, 319, 320, 321, 322, 323, 324, 325, 326, 327, 328] (by decide +kernel) (by decide +kernel)
set_option maxRecDepth 20000 in
theorem gX13_load_X13_startText : GoodIn wsX13_load (wsV RX13 618 RX13 yX13_startText wsX13_startText) := goodIn_app (goodIn_of _ (by decide +kernel)) ggX13_load_X13_startText
set_option maxRecDepth 20000 in
theorem ggX13_load_X13_readClause : GoodIn wsX13_load wsX13_readClause := goodIn_r _ [49, 50, 51, 52, 12, 53, 54, 55, 56, 57, 5, 6, 26, 32, 37, 58, 59, 60, 61, 62, 63, 64, 65, 66, 67, 68, 69, 70, 71, 72, 73, 74, 75, 76, 77, 78, 79, 80, 81, 82, 83, 84, 85, 86, 87, 88, 89, 90, 91, 92, 93, 94, 95, 96, 97, 98, 99, 100, 101, 102, 103, 104, 105, 106, 28, 29, 30, 31, 25, 33, 34, 35, 36, 38, 39, 40, 41, 42, 43, 44, 45, 107, 108, 109, 110, 3, 111, 112, 113, 114, 115, 116, 117, 118, 119, 120, 121, 122, 123, 124, 125, 126, 127, 128, 10, 11, 13, 129, 130, 131, 132, 133, 134, 135, 136, 137, 138, 139, 140, 141, 4, 142, 143, 144, 145, 146, 147, 148, 149, 150, 151, 152, 153, 154, 155, 156, 157, 158, 159, 160, 161, 162, 163, 164, 165, 166, 167, 168, 169, 170, 171, 172, 173, 174, 175, 176, 177, 178, 179, 180, 181, 182, 183, 184, 185, 186, 187, 188, 189, 190, 191, 192, 193, 194, 195, 196, 197, 198, 199, 200, 201, 202, 203, 204, 205, 206, 207, 208, 209, 210, 211, 212, 213, 214, 215, 216, 217, 218, 219, 220, 221, 222, 223, 224, 225, 226, 227, 228, 229, 230, 231, 232, 233, 234, 235, 236, 237, 238, 239, 240, 241, 242, 243, 244, 245, 282, 283, 284, 285, 286, 287, 288, 289, 290, 291, 292, 293, 294, 295, 296, 297, 298, 299, 300, 301, 302, 303, 304, 305, 306, 307, 308, 309, 310, 311, 312, 313, 314, 315, 316, 317, 318, 319, 320, 321, 322, 323, 324, 325, 326, 327, 328, 329, 330, 331, 332] (by decide +kernel) (by decide +kernel)
set_option maxRecDepth 20000 in
theorem gX13_load_X13_readClause : GoodIn wsX13_load (wsV RX13 621 RX13 yX13_readClause wsX13_readClause) := goodIn_app (goodIn_of _ (by decide +kernel)) ggX13_load_X13_readClause
set_option maxRecDepth 20000 in
theorem ggX13_load_X13_layNames : GoodIn wsX13_load wsX13_layNames := goodIn_r _ [249, 4, 5, 141, 142, 3, 119, 143, 202, 203, 204, 12, 205, 201, 200, 206, 207, 208, 209, 37, 282, 283, 284, 285, 286, 287, 288, 289, 290, 291, 292, 293, 294, 295, 296, 297, 298, 299, 300, 301, 302, 303, 304, 305, 306, 307, 308, 309, 310, 311, 312, 313, 314, 315, 316, 317, 318, 319, 320, 321, 322, 323, 324, 325, 326, 327, 328] (by decide +kernel) (by decide +kernel)
set_option maxRecDepth 20000 in
theorem gX13_load_X13_layNames : GoodIn wsX13_load (wsV RX13 624 RX13 yX13_layNames wsX13_layNames) := goodIn_app (goodIn_of _ (by decide +kernel)) ggX13_load_X13_layNames
set_option maxRecDepth 20000 in
theorem ggX13_load_X13_finish : GoodIn wsX13_load wsX13_finish := goodIn_r _ [253, 2, 5, 119, 254, 282, 283, 284, 285, 286, 287, 288, 289, 290, 291, 292, 293, 294, 295, 296, 297, 298, 299, 300, 301, 302, 303, 304, 305, 306, 307, 308, 309, 310, 311, 312, 313, 314, 315, 316, 317, 318, 319, 320, 321, 322, 323, 324, 325, 326, 327, 328] (by decide +kernel) (by decide +kernel)
set_option maxRecDepth 20000 in
theorem gX13_load_X13_finish : GoodIn wsX13_load (wsV RX13 627 RX13 yX13_finish wsX13_finish) := goodIn_app (goodIn_of _ (by decide +kernel)) ggX13_load_X13_finish
set_option maxRecDepth 20000 in
theorem ggX13_load_X13_copy : GoodIn wsX13_load wsX13_copy := goodIn_r _ [257] (by decide +kernel) (by decide +kernel)
set_option maxRecDepth 20000 in
theorem gX13_load_X13_copy : GoodIn wsX13_load (va_wsS RX13 441 yX13_copy wsX13_copy) := goodIn_app (goodIn_of _ (by decide +kernel)) ggX13_load_X13_copy
set_option maxRecDepth 20000 in
theorem ggX13_load_X13_levelOf : GoodIn wsX13_load wsX13_levelOf := goodIn_r _ [261, 262, 263, 264, 12, 265, 7, 282, 283, 284, 285, 286, 287, 288, 289, 290, 291, 292, 293, 294, 295, 296, 297, 298, 299, 300, 301, 302, 303, 304, 305, 306, 307, 308, 309, 310, 311, 312, 313, 314, 315, 316, 317, 318, 319, 320, 321, 322, 323, 324, 325, 326, 327, 328] (by decide +kernel) (by decide +kernel)
set_option maxRecDepth 20000 in
theorem gX13_load_X13_levelOf : GoodIn wsX13_load (wsV RX13 262 RX13 yX13_levelOf wsX13_levelOf) := goodIn_app (goodIn_of _ (by decide +kernel)) ggX13_load_X13_levelOf
set_option maxRecDepth 20000 in
theorem ggX13_load_X13_putPin : GoodIn wsX13_load wsX13_putPin := goodIn_r _ [269, 7, 282, 283, 284, 285, 286, 287, 288, 289, 290, 291, 292, 293, 294, 295, 296, 297, 298, 299, 300, 301, 302, 303, 304, 305, 306, 307, 308, 309, 310, 311, 312, 313, 314, 315, 316, 317, 318, 319, 320, 321, 322, 323, 324, 325, 326, 327, 328] (by decide +kernel) (by decide +kernel)
set_option maxRecDepth 20000 in
theorem gX13_load_X13_putPin : GoodIn wsX13_load (wsV RX13 284 RX13 yX13_putPin wsX13_putPin) := goodIn_app (goodIn_of _ (by decide +kernel)) ggX13_load_X13_putPin
set_option maxRecDepth 20000 in
theorem ggX13_load_X13_setting : GoodIn wsX13_load wsX13_setting := goodIn_r _ [273, 7, 282, 283, 284, 285, 286, 287, 288, 289, 290, 291, 292, 293, 294, 295, 296, 297, 298, 299, 300, 301, 302, 303, 304, 305, 306, 307, 308, 309, 310, 311, 312, 313, 314, 315, 316, 317, 318, 319, 320, 321, 322, 323, 324, 325, 326, 327, 328] (by decide +kernel) (by decide +kernel)
set_option maxRecDepth 20000 in
theorem gX13_load_X13_setting : GoodIn wsX13_load (wsV RX13 249 RX13 yX13_setting wsX13_setting) := goodIn_app (goodIn_of _ (by decide +kernel)) ggX13_load_X13_setting
set_option maxRecDepth 20000 in
theorem ggX13_load_X13_begin : GoodIn wsX13_load wsX13_begin := goodIn_r _ [277, 278, 279, 280, 12, 281, 7, 270, 271, 272, 273, 282, 283, 284, 285, 286, 287, 288, 289, 290, 291, 292, 293, 294, 295, 296, 297, 298, 299, 300, 301, 302, 303, 304, 305, 306, 307, 308, 309, 310, 311, 312, 313, 314, 315, 316, 317, 318, 319, 320, 321, 322, 323, 324, 325, 326, 327, 328] (by decide +kernel) (by decide +kernel)
set_option maxRecDepth 20000 in
theorem gX13_load_X13_begin : GoodIn wsX13_load (wsV RX13 427 RX13 yX13_begin wsX13_begin) := goodIn_app (goodIn_of _ (by decide +kernel)) ggX13_load_X13_begin
set_option maxRecDepth 20000 in
theorem ggX13_load_X13_set : GoodIn wsX13_load wsX13_set := goodIn_r _ [281, 7, 282, 283, 284, 285, 286, 287, 288, 289, 290, 291, 292, 293, 294, 295, 296, 297, 298, 299, 300, 301, 302, 303, 304, 305, 306, 307, 308, 309, 310, 311, 312, 313, 314, 315, 316, 317, 318, 319, 320, 321, 322, 323, 324, 325, 326, 327, 328] (by decide +kernel) (by decide +kernel)
set_option maxRecDepth 20000 in
theorem gX13_load_X13_set : GoodIn wsX13_load (wsV RX13 282 RX13 yX13_set wsX13_set) := goodIn_app (goodIn_of _ (by decide +kernel)) ggX13_load_X13_set
theorem dX13_load_0 : decode cX13_load 0 = .ok (.aload_n 0, 1) := by decide +kernel
theorem dX13_load_1 : decode cX13_load 1 = .ok (.iconst 0, 1) := by decide +kernel
theorem dX13_load_2 : decode cX13_load 2 = .ok (.putfield 231, 3) := by decide +kernel
theorem dX13_load_5 : decode cX13_load 5 = .ok (.iload_n 1, 1) := by decide +kernel
theorem dX13_load_6 : decode cX13_load 6 = .ok (.iconst 0, 1) := by decide +kernel
theorem dX13_load_7 : decode cX13_load 7 = .ok (.aload_n 0, 1) := by decide +kernel
theorem dX13_load_8 : decode cX13_load 8 = .ok (.getfield 466, 3) := by decide +kernel
theorem dX13_load_11 : decode cX13_load 11 = .ok (.invokestatic 245, 3) := by decide +kernel
theorem dX13_load_14 : decode cX13_load 14 = .ok (.ifCond .ne 9, 3) := by decide +kernel
theorem dX13_load_17 : decode cX13_load 17 = .ok (.aload_n 0, 1) := by decide +kernel
theorem dX13_load_18 : decode cX13_load 18 = .ok (.iconst 1, 1) := by decide +kernel
theorem dX13_load_19 : decode cX13_load 19 = .ok (.invokevirtual 259, 3) := by decide +kernel
theorem dX13_load_22 : decode cX13_load 22 = .ok (.ireturn, 1) := by decide +kernel
theorem dX13_load_23 : decode cX13_load 23 = .ok (.aload_n 0, 1) := by decide +kernel
theorem dX13_load_24 : decode cX13_load 24 = .ok (.getfield 13, 3) := by decide +kernel
theorem dX13_load_27 : decode cX13_load 27 = .ok (.invokestatic 228, 3) := by decide +kernel
theorem dX13_load_30 : decode cX13_load 30 = .ok (.aload_n 0, 1) := by decide +kernel
theorem dX13_load_31 : decode cX13_load 31 = .ok (.iconst 0, 1) := by decide +kernel
theorem dX13_load_32 : decode cX13_load 32 = .ok (.putfield 540, 3) := by decide +kernel
theorem dX13_load_35 : decode cX13_load 35 = .ok (.aload_n 0, 1) := by decide +kernel
theorem dX13_load_36 : decode cX13_load 36 = .ok (.iload_n 1, 1) := by decide +kernel
theorem dX13_load_37 : decode cX13_load 37 = .ok (.invokevirtual 618, 3) := by decide +kernel
theorem dX13_load_40 : decode cX13_load 40 = .ok (.aload_n 0, 1) := by decide +kernel
theorem dX13_load_41 : decode cX13_load 41 = .ok (.getfield 490, 3) := by decide +kernel
theorem dX13_load_44 : decode cX13_load 44 = .ok (.ifCond .ne 17, 3) := by decide +kernel
theorem dX13_load_47 : decode cX13_load 47 = .ok (.aload_n 0, 1) := by decide +kernel
theorem dX13_load_48 : decode cX13_load 48 = .ok (.getfield 481, 3) := by decide +kernel
theorem dX13_load_51 : decode cX13_load 51 = .ok (.ifCond .eq 10, 3) := by decide +kernel
theorem dX13_load_54 : decode cX13_load 54 = .ok (.aload_n 0, 1) := by decide +kernel
theorem dX13_load_55 : decode cX13_load 55 = .ok (.invokevirtual 621, 3) := by decide +kernel
theorem dX13_load_58 : decode cX13_load 58 = .ok (.goto (-18), 3) := by decide +kernel
theorem dX13_load_61 : decode cX13_load 61 = .ok (.aload_n 0, 1) := by decide +kernel
theorem dX13_load_62 : decode cX13_load 62 = .ok (.invokevirtual 624, 3) := by decide +kernel
theorem dX13_load_65 : decode cX13_load 65 = .ok (.aload_n 0, 1) := by decide +kernel
theorem dX13_load_66 : decode cX13_load 66 = .ok (.invokevirtual 627, 3) := by decide +kernel
theorem dX13_load_69 : decode cX13_load 69 = .ok (.ifCond .eq 11, 3) := by decide +kernel
theorem dX13_load_72 : decode cX13_load 72 = .ok (.bipush (-10), 2) := by decide +kernel
theorem dX13_load_74 : decode cX13_load 74 = .ok (.aload_n 0, 1) := by decide +kernel
theorem dX13_load_75 : decode cX13_load 75 = .ok (.getfield 490, 3) := by decide +kernel
theorem dX13_load_78 : decode cX13_load 78 = .ok (.isub, 1) := by decide +kernel
theorem dX13_load_79 : decode cX13_load 79 = .ok (.ireturn, 1) := by decide +kernel
theorem dX13_load_80 : decode cX13_load 80 = .ok (.aload_n 0, 1) := by decide +kernel
theorem dX13_load_81 : decode cX13_load 81 = .ok (.getfield 13, 3) := by decide +kernel
theorem dX13_load_84 : decode cX13_load 84 = .ok (.iconst 0, 1) := by decide +kernel
theorem dX13_load_85 : decode cX13_load 85 = .ok (.aload_n 0, 1) := by decide +kernel
theorem dX13_load_86 : decode cX13_load 86 = .ok (.getfield 9, 3) := by decide +kernel
theorem dX13_load_89 : decode cX13_load 89 = .ok (.iconst 0, 1) := by decide +kernel
theorem dX13_load_90 : decode cX13_load 90 = .ok (.invokestatic 441, 3) := by decide +kernel
theorem dX13_load_93 : decode cX13_load 93 = .ok (.iconst 0, 1) := by decide +kernel
theorem dX13_load_94 : decode cX13_load 94 = .ok (.istore_n 2, 1) := by decide +kernel
theorem dX13_load_95 : decode cX13_load 95 = .ok (.iload_n 2, 1) := by decide +kernel
theorem dX13_load_96 : decode cX13_load 96 = .ok (.bipush 16, 2) := by decide +kernel
theorem dX13_load_98 : decode cX13_load 98 = .ok (.if_icmp .ge 20, 3) := by decide +kernel
theorem dX13_load_101 : decode cX13_load 101 = .ok (.aload_n 0, 1) := by decide +kernel
theorem dX13_load_102 : decode cX13_load 102 = .ok (.iload_n 2, 1) := by decide +kernel
theorem dX13_load_103 : decode cX13_load 103 = .ok (.iconst 3, 1) := by decide +kernel
theorem dX13_load_104 : decode cX13_load 104 = .ok (.aload_n 0, 1) := by decide +kernel
theorem dX13_load_105 : decode cX13_load 105 = .ok (.iload_n 2, 1) := by decide +kernel
theorem dX13_load_106 : decode cX13_load 106 = .ok (.invokevirtual 262, 3) := by decide +kernel
theorem dX13_load_109 : decode cX13_load 109 = .ok (.invokevirtual 284, 3) := by decide +kernel
theorem dX13_load_112 : decode cX13_load 112 = .ok (.iinc 2 1, 3) := by decide +kernel
theorem dX13_load_115 : decode cX13_load 115 = .ok (.goto (-20), 3) := by decide +kernel
theorem dX13_load_118 : decode cX13_load 118 = .ok (.iconst 0, 1) := by decide +kernel
theorem dX13_load_119 : decode cX13_load 119 = .ok (.istore_n 2, 1) := by decide +kernel
theorem dX13_load_120 : decode cX13_load 120 = .ok (.iload_n 2, 1) := by decide +kernel
theorem dX13_load_121 : decode cX13_load 121 = .ok (.iconst 4, 1) := by decide +kernel
theorem dX13_load_122 : decode cX13_load 122 = .ok (.if_icmp .ge 31, 3) := by decide +kernel
theorem dX13_load_125 : decode cX13_load 125 = .ok (.aload_n 0, 1) := by decide +kernel
theorem dX13_load_126 : decode cX13_load 126 = .ok (.iload_n 2, 1) := by decide +kernel
theorem dX13_load_127 : decode cX13_load 127 = .ok (.iconst 0, 1) := by decide +kernel
theorem dX13_load_128 : decode cX13_load 128 = .ok (.invokevirtual 249, 3) := by decide +kernel
theorem dX13_load_131 : decode cX13_load 131 = .ok (.iconst 1, 1) := by decide +kernel
theorem dX13_load_132 : decode cX13_load 132 = .ok (.if_icmp .ne 15, 3) := by decide +kernel
theorem dX13_load_135 : decode cX13_load 135 = .ok (.aload_n 0, 1) := by decide +kernel
theorem dX13_load_136 : decode cX13_load 136 = .ok (.iload_n 2, 1) := by decide +kernel
theorem dX13_load_137 : decode cX13_load 137 = .ok (.invokevirtual 427, 3) := by decide +kernel
theorem dX13_load_140 : decode cX13_load 140 = .ok (.aload_n 0, 1) := by decide +kernel
theorem dX13_load_141 : decode cX13_load 141 = .ok (.iload_n 2, 1) := by decide +kernel
theorem dX13_load_142 : decode cX13_load 142 = .ok (.iconst 0, 1) := by decide +kernel
theorem dX13_load_143 : decode cX13_load 143 = .ok (.iconst 1, 1) := by decide +kernel
theorem dX13_load_144 : decode cX13_load 144 = .ok (.invokevirtual 282, 3) := by decide +kernel
theorem dX13_load_147 : decode cX13_load 147 = .ok (.iinc 2 1, 3) := by decide +kernel
theorem dX13_load_150 : decode cX13_load 150 = .ok (.goto (-30), 3) := by decide +kernel
theorem dX13_load_153 : decode cX13_load 153 = .ok (.aload_n 0, 1) := by decide +kernel
theorem dX13_load_154 : decode cX13_load 154 = .ok (.iconst 0, 1) := by decide +kernel
theorem dX13_load_155 : decode cX13_load 155 = .ok (.putfield 459, 3) := by decide +kernel
theorem dX13_load_158 : decode cX13_load 158 = .ok (.aload_n 0, 1) := by decide +kernel
theorem dX13_load_159 : decode cX13_load 159 = .ok (.iconst 0, 1) := by decide +kernel
theorem dX13_load_160 : decode cX13_load 160 = .ok (.putfield 462, 3) := by decide +kernel
theorem dX13_load_163 : decode cX13_load 163 = .ok (.aload_n 0, 1) := by decide +kernel
theorem dX13_load_164 : decode cX13_load 164 = .ok (.getfield 9, 3) := by decide +kernel
theorem dX13_load_167 : decode cX13_load 167 = .ok (.iconst 0, 1) := by decide +kernel
theorem dX13_load_168 : decode cX13_load 168 = .ok (.iaload, 1) := by decide +kernel
theorem dX13_load_169 : decode cX13_load 169 = .ok (.ireturn, 1) := by decide +kernel
set_option maxRecDepth 20000 in
theorem ggX13_write__J0_length_8abf5 : GoodIn wsX13_write_ wsJ0_length_8abf5 := goodIn_r _ [7, 8, 9, 10, 11, 6, 12, 13, 14, 99, 100, 101, 102] (by decide +kernel) (by decide +kernel)
set_option maxRecDepth 20000 in
theorem gX13_write__J0_length_8abf5 : GoodIn wsX13_write_ (wsV RX13 505 RJ0 yJ0_length_8abf5 wsJ0_length_8abf5) := goodIn_app (goodIn_of _ (by decide +kernel)) ggX13_write__J0_length_8abf5
set_option maxRecDepth 20000 in
theorem ggX13_write__J0_charAt_5068e : GoodIn wsX13_write_ wsJ0_charAt_5068e := goodIn_r _ [18, 8, 19, 20, 21, 6, 22, 13, 14, 23, 24, 25, 26, 27, 28, 29, 30, 31, 32, 33, 34, 35, 36, 37, 38, 39, 40, 41, 42, 43, 44, 45, 46, 47, 48, 49, 50, 51, 99, 100, 101, 102] (by decide +kernel) (by decide +kernel)
set_option maxRecDepth 20000 in
theorem gX13_write__J0_charAt_5068e : GoodIn wsX13_write_ (wsV RX13 508 RJ0 yJ0_charAt_5068e wsJ0_charAt_5068e) := goodIn_app (goodIn_of _ (by decide +kernel)) ggX13_write__J0_charAt_5068e
theorem dX13_write__0 : decode cX13_write_ 0 = .ok (.aload_n 0, 1) := by decide +kernel
theorem dX13_write__1 : decode cX13_write_ 1 = .ok (.getfield 630, 3) := by decide +kernel
theorem dX13_write__4 : decode cX13_write_ 4 = .ok (.ifCond .le 24, 3) := by decide +kernel
theorem dX13_write__7 : decode cX13_write_ 7 = .ok (.aload_n 0, 1) := by decide +kernel
theorem dX13_write__8 : decode cX13_write_ 8 = .ok (.getfield 213, 3) := by decide +kernel
theorem dX13_write__11 : decode cX13_write_ 11 = .ok (.aload_n 0, 1) := by decide +kernel
theorem dX13_write__12 : decode cX13_write_ 12 = .ok (.getfield 630, 3) := by decide +kernel
theorem dX13_write__15 : decode cX13_write_ 15 = .ok (.bipush 32, 2) := by decide +kernel
theorem dX13_write__17 : decode cX13_write_ 17 = .ok (.iastore, 1) := by decide +kernel
theorem dX13_write__18 : decode cX13_write_ 18 = .ok (.aload_n 0, 1) := by decide +kernel
theorem dX13_write__19 : decode cX13_write_ 19 = .ok (.dup, 1) := by decide +kernel
theorem dX13_write__20 : decode cX13_write_ 20 = .ok (.getfield 630, 3) := by decide +kernel
theorem dX13_write__23 : decode cX13_write_ 23 = .ok (.iconst 1, 1) := by decide +kernel
theorem dX13_write__24 : decode cX13_write_ 24 = .ok (.iadd, 1) := by decide +kernel
theorem dX13_write__25 : decode cX13_write_ 25 = .ok (.putfield 630, 3) := by decide +kernel
theorem dX13_write__28 : decode cX13_write_ 28 = .ok (.iconst 0, 1) := by decide +kernel
theorem dX13_write__29 : decode cX13_write_ 29 = .ok (.istore_n 2, 1) := by decide +kernel
theorem dX13_write__30 : decode cX13_write_ 30 = .ok (.iload_n 2, 1) := by decide +kernel
theorem dX13_write__31 : decode cX13_write_ 31 = .ok (.aload_n 1, 1) := by decide +kernel
theorem dX13_write__32 : decode cX13_write_ 32 = .ok (.invokevirtual 505, 3) := by decide +kernel
theorem dX13_write__35 : decode cX13_write_ 35 = .ok (.if_icmp .ge 33, 3) := by decide +kernel
theorem dX13_write__38 : decode cX13_write_ 38 = .ok (.aload_n 0, 1) := by decide +kernel
theorem dX13_write__39 : decode cX13_write_ 39 = .ok (.getfield 213, 3) := by decide +kernel
theorem dX13_write__42 : decode cX13_write_ 42 = .ok (.aload_n 0, 1) := by decide +kernel
theorem dX13_write__43 : decode cX13_write_ 43 = .ok (.getfield 630, 3) := by decide +kernel
theorem dX13_write__46 : decode cX13_write_ 46 = .ok (.aload_n 1, 1) := by decide +kernel
theorem dX13_write__47 : decode cX13_write_ 47 = .ok (.iload_n 2, 1) := by decide +kernel
theorem dX13_write__48 : decode cX13_write_ 48 = .ok (.invokevirtual 508, 3) := by decide +kernel
theorem dX13_write__51 : decode cX13_write_ 51 = .ok (.iastore, 1) := by decide +kernel
theorem dX13_write__52 : decode cX13_write_ 52 = .ok (.aload_n 0, 1) := by decide +kernel
theorem dX13_write__53 : decode cX13_write_ 53 = .ok (.dup, 1) := by decide +kernel
theorem dX13_write__54 : decode cX13_write_ 54 = .ok (.getfield 630, 3) := by decide +kernel
theorem dX13_write__57 : decode cX13_write_ 57 = .ok (.iconst 1, 1) := by decide +kernel
theorem dX13_write__58 : decode cX13_write_ 58 = .ok (.iadd, 1) := by decide +kernel
theorem dX13_write__59 : decode cX13_write_ 59 = .ok (.putfield 630, 3) := by decide +kernel
theorem dX13_write__62 : decode cX13_write_ 62 = .ok (.iinc 2 1, 3) := by decide +kernel
theorem dX13_write__65 : decode cX13_write_ 65 = .ok (.goto (-35), 3) := by decide +kernel
theorem dX13_write__68 : decode cX13_write_ 68 = .ok (.return_, 1) := by decide +kernel
set_option maxRecDepth 20000 in
theorem ggX13_digits_X13_digits : GoodIn wsX13_digits wsX13_digits := goodIn_r _ [0, 1, 2, 3, 4, 5, 6, 7, 8, 9, 10, 11, 12, 13, 14, 15, 16, 17, 18, 19, 20, 21, 22, 23, 24, 25, 26, 27, 28, 29, 30, 31, 32, 33, 34, 35, 36, 37, 38, 39, 40, 41, 42, 43, 44, 45, 46, 47, 48, 49, 50, 51, 52, 53] (by decide +kernel) (by decide +kernel)
set_option maxRecDepth 20000 in
theorem gX13_digits_X13_digits : GoodIn wsX13_digits (wsV RX13 633 RX13 yX13_digits wsX13_digits) := goodIn_app (goodIn_of _ (by decide +kernel)) ggX13_digits_X13_digits
theorem dX13_digits_0 : decode cX13_digits 0 = .ok (.iload_n 1, 1) := by decide +kernel
theorem dX13_digits_1 : decode cX13_digits 1 = .ok (.bipush 9, 2) := by decide +kernel
theorem dX13_digits_3 : decode cX13_digits 3 = .ok (.if_icmp .le 11, 3) := by decide +kernel
theorem dX13_digits_6 : decode cX13_digits 6 = .ok (.aload_n 0, 1) := by decide +kernel
theorem dX13_digits_7 : decode cX13_digits 7 = .ok (.iload_n 1, 1) := by decide +kernel
theorem dX13_digits_8 : decode cX13_digits 8 = .ok (.bipush 10, 2) := by decide +kernel
theorem dX13_digits_10 : decode cX13_digits 10 = .ok (.idiv, 1) := by decide +kernel
theorem dX13_digits_11 : decode cX13_digits 11 = .ok (.invokevirtual 633, 3) := by decide +kernel
theorem dX13_digits_14 : decode cX13_digits 14 = .ok (.aload_n 0, 1) := by decide +kernel
theorem dX13_digits_15 : decode cX13_digits 15 = .ok (.getfield 213, 3) := by decide +kernel
theorem dX13_digits_18 : decode cX13_digits 18 = .ok (.aload_n 0, 1) := by decide +kernel
theorem dX13_digits_19 : decode cX13_digits 19 = .ok (.getfield 630, 3) := by decide +kernel
theorem dX13_digits_22 : decode cX13_digits 22 = .ok (.bipush 48, 2) := by decide +kernel
theorem dX13_digits_24 : decode cX13_digits 24 = .ok (.iload_n 1, 1) := by decide +kernel
theorem dX13_digits_25 : decode cX13_digits 25 = .ok (.bipush 10, 2) := by decide +kernel
theorem dX13_digits_27 : decode cX13_digits 27 = .ok (.irem, 1) := by decide +kernel
theorem dX13_digits_28 : decode cX13_digits 28 = .ok (.iadd, 1) := by decide +kernel
theorem dX13_digits_29 : decode cX13_digits 29 = .ok (.iastore, 1) := by decide +kernel
theorem dX13_digits_30 : decode cX13_digits 30 = .ok (.aload_n 0, 1) := by decide +kernel
theorem dX13_digits_31 : decode cX13_digits 31 = .ok (.dup, 1) := by decide +kernel
theorem dX13_digits_32 : decode cX13_digits 32 = .ok (.getfield 630, 3) := by decide +kernel
theorem dX13_digits_35 : decode cX13_digits 35 = .ok (.iconst 1, 1) := by decide +kernel
theorem dX13_digits_36 : decode cX13_digits 36 = .ok (.iadd, 1) := by decide +kernel
theorem dX13_digits_37 : decode cX13_digits 37 = .ok (.putfield 630, 3) := by decide +kernel
theorem dX13_digits_40 : decode cX13_digits 40 = .ok (.return_, 1) := by decide +kernel
set_option maxRecDepth 20000 in
theorem ggX13_writeNumber_X13_write_ : GoodIn wsX13_writeNumber wsX13_write_ := goodIn_r _ [5, 6, 7, 8, 9, 10, 11, 12, 13, 14, 15, 16, 17, 18, 19, 20, 21, 22, 23, 24, 25, 26, 27, 28, 29, 30, 31, 32, 33, 34, 35, 36, 37, 38, 39, 40, 41, 42, 43, 44, 45, 46, 47, 48, 49, 50, 51, 52, 53, 54, 55, 56, 61, 62, 63, 64, 65, 66, 67, 68, 69, 70, 71, 72, 73, 74, 75, 76, 77, 78, 79, 80, 81, 82, 83, 84, 85, 86, 87, 88, 89, 90, 91, 92, 93, 94, 95, 96, 97, 98, 99, 100, 101, 102, 103, 104, 105, 106, 107, 108, 109, 110, 111] (by decide +kernel) (by decide +kernel)
set_option maxRecDepth 20000 in
theorem gX13_writeNumber_X13_write_ : GoodIn wsX13_writeNumber (wsV RX13 636 RX13 yX13_write_ wsX13_write_) := goodIn_app (goodIn_of _ (by decide +kernel)) ggX13_writeNumber_X13_write_
set_option maxRecDepth 20000 in
theorem ggX13_writeNumber_X13_digits : GoodIn wsX13_writeNumber wsX13_digits := goodIn_r _ [60, 7, 6, 57, 58, 59, 4, 61, 62, 63, 64, 65, 66, 67, 68, 69, 70, 71, 72, 73, 74, 75, 76, 77, 78, 79, 80, 81, 82, 83, 84, 85, 86, 87, 88, 89, 90, 91, 92, 93, 94, 95, 96, 97, 98, 99, 100, 101, 102, 103, 104, 105, 106, 107] (by decide +kernel) (by decide +kernel)
set_option maxRecDepth 20000 in
theorem gX13_writeNumber_X13_digits : GoodIn wsX13_writeNumber (wsV RX13 633 RX13 yX13_digits wsX13_digits) := goodIn_app (goodIn_of _ (by decide +kernel)) ggX13_writeNumber_X13_digits
theorem dX13_writeNumber_0 : decode cX13_writeNumber 0 = .ok (.aload_n 0, 1) := by decide +kernel
theorem dX13_writeNumber_1 : decode cX13_writeNumber 1 = .ok (.ldc 89, 2) := by decide +kernel
theorem dX13_writeNumber_3 : decode cX13_writeNumber 3 = .ok (.invokevirtual 636, 3) := by decide +kernel
theorem dX13_writeNumber_6 : decode cX13_writeNumber 6 = .ok (.aload_n 0, 1) := by decide +kernel
theorem dX13_writeNumber_7 : decode cX13_writeNumber 7 = .ok (.iload_n 1, 1) := by decide +kernel
theorem dX13_writeNumber_8 : decode cX13_writeNumber 8 = .ok (.invokevirtual 633, 3) := by decide +kernel
theorem dX13_writeNumber_11 : decode cX13_writeNumber 11 = .ok (.return_, 1) := by decide +kernel
set_option maxRecDepth 20000 in
theorem ggX13_writeIf_X13_write_ : GoodIn wsX13_writeIf wsX13_write_ := goodIn_r _ [5, 6, 7, 8, 9, 10, 11, 12, 13, 14, 15, 16, 17, 18, 19, 20, 21, 22, 23, 24, 25, 26, 27, 28, 29, 30, 31, 32, 33, 34, 35, 36, 37, 38, 39, 40, 41, 42, 43, 44, 45, 46, 47, 48, 49, 50, 51, 52, 53, 54, 55, 56, 57, 58, 59, 60, 61, 62, 63, 64, 65, 66, 67, 68, 69, 70, 71, 72, 73, 74, 75, 76, 77, 78, 79, 80, 81, 82, 83, 84, 85, 86, 87, 88, 89, 90, 91, 92, 93, 94, 95, 96, 97, 98, 99, 100, 101, 102, 103, 104, 105, 106, 107] (by decide +kernel) (by decide +kernel)
set_option maxRecDepth 20000 in
theorem gX13_writeIf_X13_write_ : GoodIn wsX13_writeIf (wsV RX13 636 RX13 yX13_write_ wsX13_write_) := goodIn_app (goodIn_of _ (by decide +kernel)) ggX13_writeIf_X13_write_
theorem dX13_writeIf_0 : decode cX13_writeIf 0 = .ok (.iload_n 1, 1) := by decide +kernel
theorem dX13_writeIf_1 : decode cX13_writeIf 1 = .ok (.ifCond .eq 8, 3) := by decide +kernel
theorem dX13_writeIf_4 : decode cX13_writeIf 4 = .ok (.aload_n 0, 1) := by decide +kernel
theorem dX13_writeIf_5 : decode cX13_writeIf 5 = .ok (.aload_n 2, 1) := by decide +kernel
theorem dX13_writeIf_6 : decode cX13_writeIf 6 = .ok (.invokevirtual 636, 3) := by decide +kernel
theorem dX13_writeIf_9 : decode cX13_writeIf 9 = .ok (.return_, 1) := by decide +kernel
set_option maxRecDepth 20000 in
theorem ggX13_writeAccess_X13_code : GoodIn wsX13_writeAccess wsX13_code := goodIn_r _ [6, 7, 71, 72, 73, 74, 75, 76, 77, 78, 79, 80, 81, 82, 83, 84, 85, 86, 87, 88, 89, 90, 91, 92, 93, 94, 95, 96, 97, 98, 99, 100, 101, 102, 103, 104, 105, 106, 107, 108, 109, 110, 111, 112, 113, 114, 115, 116, 117] (by decide +kernel) (by decide +kernel)
set_option maxRecDepth 20000 in
theorem gX13_writeAccess_X13_code : GoodIn wsX13_writeAccess (wsV RX13 242 RX13 yX13_code wsX13_code) := goodIn_app (goodIn_of _ (by decide +kernel)) ggX13_writeAccess_X13_code
set_option maxRecDepth 20000 in
theorem ggX13_writeAccess_X13_write_ : GoodIn wsX13_writeAccess wsX13_write_ := goodIn_r _ [11, 12, 13, 14, 15, 16, 17, 18, 19, 20, 21, 22, 23, 24, 25, 26, 27, 28, 29, 30, 31, 32, 33, 34, 35, 36, 37, 38, 39, 40, 41, 42, 43, 44, 45, 46, 47, 48, 49, 50, 51, 52, 53, 54, 55, 56, 57, 58, 59, 60, 61, 62, 71, 72, 73, 74, 75, 76, 77, 78, 79, 80, 81, 82, 83, 84, 85, 86, 87, 88, 89, 90, 91, 92, 93, 94, 95, 96, 97, 98, 99, 100, 101, 102, 103, 104, 105, 106, 107, 108, 109, 110, 111, 112, 113, 114, 115, 116, 117, 118, 119, 120, 121] (by decide +kernel) (by decide +kernel)
set_option maxRecDepth 20000 in
theorem gX13_writeAccess_X13_write_ : GoodIn wsX13_writeAccess (wsV RX13 636 RX13 yX13_write_ wsX13_write_) := goodIn_app (goodIn_of _ (by decide +kernel)) ggX13_writeAccess_X13_write_
set_option maxRecDepth 20000 in
theorem ggX13_writeAccess_X13_writeNumber : GoodIn wsX13_writeAccess wsX13_writeNumber := goodIn_r _ [66, 8, 9, 10, 5, 11, 12, 13, 14, 15, 16, 17, 18, 19, 20, 21, 22, 23, 24, 25, 26, 27, 28, 29, 30, 31, 32, 33, 34, 35, 36, 37, 38, 39, 40, 41, 42, 43, 44, 45, 46, 47, 48, 49, 50, 51, 52, 53, 54, 55, 56, 57, 58, 59, 60, 61, 62, 67, 68, 69, 70, 71, 72, 73, 74, 75, 76, 77, 78, 79, 80, 81, 82, 83, 84, 85, 86, 87, 88, 89, 90, 91, 92, 93, 94, 95, 96, 97, 98, 99, 100, 101, 102, 103, 104, 105, 106, 107, 108, 109, 110, 111, 112, 113, 114, 115, 116, 117, 118, 119, 120, 121] (by decide +kernel) (by decide +kernel)
set_option maxRecDepth 20000 in
theorem gX13_writeAccess_X13_writeNumber : GoodIn wsX13_writeAccess (wsV RX13 638 RX13 yX13_writeNumber wsX13_writeNumber) := goodIn_app (goodIn_of _ (by decide +kernel)) ggX13_writeAccess_X13_writeNumber
theorem dX13_writeAccess_0 : decode cX13_writeAccess 0 = .ok (.aload_n 0, 1) := by decide +kernel
theorem dX13_writeAccess_1 : decode cX13_writeAccess 1 = .ok (.aload_n 0, 1) := by decide +kernel
theorem dX13_writeAccess_2 : decode cX13_writeAccess 2 = .ok (.getfield 126, 3) := by decide +kernel
theorem dX13_writeAccess_5 : decode cX13_writeAccess 5 = .ok (.aload_n 0, 1) := by decide +kernel
theorem dX13_writeAccess_6 : decode cX13_writeAccess 6 = .ok (.iload_n 1, 1) := by decide +kernel
theorem dX13_writeAccess_7 : decode cX13_writeAccess 7 = .ok (.iconst 1, 1) := by decide +kernel
theorem dX13_writeAccess_8 : decode cX13_writeAccess 8 = .ok (.invokevirtual 242, 3) := by decide +kernel
theorem dX13_writeAccess_11 : decode cX13_writeAccess 11 = .ok (.aaload, 1) := by decide +kernel
theorem dX13_writeAccess_12 : decode cX13_writeAccess 12 = .ok (.invokevirtual 636, 3) := by decide +kernel
theorem dX13_writeAccess_15 : decode cX13_writeAccess 15 = .ok (.aload_n 0, 1) := by decide +kernel
theorem dX13_writeAccess_16 : decode cX13_writeAccess 16 = .ok (.iload_n 1, 1) := by decide +kernel
theorem dX13_writeAccess_17 : decode cX13_writeAccess 17 = .ok (.iconst 2, 1) := by decide +kernel
theorem dX13_writeAccess_18 : decode cX13_writeAccess 18 = .ok (.invokevirtual 242, 3) := by decide +kernel
theorem dX13_writeAccess_21 : decode cX13_writeAccess 21 = .ok (.istore_n 2, 1) := by decide +kernel
theorem dX13_writeAccess_22 : decode cX13_writeAccess 22 = .ok (.iload_n 2, 1) := by decide +kernel
theorem dX13_writeAccess_23 : decode cX13_writeAccess 23 = .ok (.bipush 16, 2) := by decide +kernel
theorem dX13_writeAccess_25 : decode cX13_writeAccess 25 = .ok (.if_icmp .ge 11, 3) := by decide +kernel
theorem dX13_writeAccess_28 : decode cX13_writeAccess 28 = .ok (.aload_n 0, 1) := by decide +kernel
theorem dX13_writeAccess_29 : decode cX13_writeAccess 29 = .ok (.iload_n 2, 1) := by decide +kernel
theorem dX13_writeAccess_30 : decode cX13_writeAccess 30 = .ok (.invokevirtual 638, 3) := by decide +kernel
theorem dX13_writeAccess_33 : decode cX13_writeAccess 33 = .ok (.goto 20, 3) := by decide +kernel
theorem dX13_writeAccess_36 : decode cX13_writeAccess 36 = .ok (.aload_n 0, 1) := by decide +kernel
theorem dX13_writeAccess_37 : decode cX13_writeAccess 37 = .ok (.iload_n 2, 1) := by decide +kernel
theorem dX13_writeAccess_38 : decode cX13_writeAccess 38 = .ok (.bipush 16, 2) := by decide +kernel
theorem dX13_writeAccess_40 : decode cX13_writeAccess 40 = .ok (.if_icmp .ne 8, 3) := by decide +kernel
theorem dX13_writeAccess_43 : decode cX13_writeAccess 43 = .ok (.ldc 110, 2) := by decide +kernel
theorem dX13_writeAccess_45 : decode cX13_writeAccess 45 = .ok (.goto 5, 3) := by decide +kernel
theorem dX13_writeAccess_48 : decode cX13_writeAccess 48 = .ok (.ldc 112, 2) := by decide +kernel
theorem dX13_writeAccess_50 : decode cX13_writeAccess 50 = .ok (.invokevirtual 636, 3) := by decide +kernel
theorem dX13_writeAccess_53 : decode cX13_writeAccess 53 = .ok (.return_, 1) := by decide +kernel
set_option maxRecDepth 20000 in
theorem ggX13_writeOperands_X13_code : GoodIn wsX13_writeOperands wsX13_code := goodIn_r _ [7, 8, 80, 81, 82, 83, 84, 85, 86, 87, 88, 89, 90, 91, 92, 93, 94, 95, 96, 97, 98, 99, 100, 101, 102, 103, 104, 105, 106, 107, 108, 109, 110, 111, 112, 113, 114, 115, 116, 117, 118, 119, 120, 121, 122, 123, 124, 125, 126] (by decide +kernel) (by decide +kernel)
set_option maxRecDepth 20000 in
theorem gX13_writeOperands_X13_code : GoodIn wsX13_writeOperands (wsV RX13 242 RX13 yX13_code wsX13_code) := goodIn_app (goodIn_of _ (by decide +kernel)) ggX13_writeOperands_X13_code
set_option maxRecDepth 20000 in
theorem ggX13_writeOperands_X13_writeIf : GoodIn wsX13_writeOperands wsX13_writeIf := goodIn_r _ [12, 13, 14, 15, 6, 16, 17, 18, 19, 20, 21, 22, 23, 24, 25, 26, 27, 28, 29, 30, 31, 32, 33, 34, 35, 36, 37, 38, 39, 40, 41, 42, 43, 44, 45, 46, 47, 48, 49, 50, 51, 52, 53, 54, 55, 56, 57, 58, 59, 60, 61, 62, 63, 64, 65, 66, 67, 80, 81, 82, 83, 84, 85, 86, 87, 88, 89, 90, 91, 92, 93, 94, 95, 96, 97, 98, 99, 100, 101, 102, 103, 104, 105, 106, 107, 108, 109, 110, 111, 112, 113, 114, 115, 116, 117, 118, 119, 120, 121, 122, 123, 124, 125, 126, 127, 128, 129, 130] (by decide +kernel) (by decide +kernel)
set_option maxRecDepth 20000 in
theorem gX13_writeOperands_X13_writeIf : GoodIn wsX13_writeOperands (wsV RX13 641 RX13 yX13_writeIf wsX13_writeIf) := goodIn_app (goodIn_of _ (by decide +kernel)) ggX13_writeOperands_X13_writeIf
set_option maxRecDepth 20000 in
theorem ggX13_writeOperands_X13_writeNumber : GoodIn wsX13_writeOperands wsX13_writeNumber := goodIn_r _ [71, 13, 14, 15, 6, 16, 17, 18, 19, 20, 21, 22, 23, 24, 25, 26, 27, 28, 29, 30, 31, 32, 33, 34, 35, 36, 37, 38, 39, 40, 41, 42, 43, 44, 45, 46, 47, 48, 49, 50, 51, 52, 53, 54, 55, 56, 57, 58, 59, 60, 61, 62, 63, 64, 65, 66, 67, 72, 73, 74, 75, 80, 81, 82, 83, 84, 85, 86, 87, 88, 89, 90, 91, 92, 93, 94, 95, 96, 97, 98, 99, 100, 101, 102, 103, 104, 105, 106, 107, 108, 109, 110, 111, 112, 113, 114, 115, 116, 117, 118, 119, 120, 121, 122, 123, 124, 125, 126, 127, 128, 129, 130] (by decide +kernel) (by decide +kernel)
set_option maxRecDepth 20000 in
theorem gX13_writeOperands_X13_writeNumber : GoodIn wsX13_writeOperands (wsV RX13 638 RX13 yX13_writeNumber wsX13_writeNumber) := goodIn_app (goodIn_of _ (by decide +kernel)) ggX13_writeOperands_X13_writeNumber
set_option maxRecDepth 20000 in
theorem ggX13_writeOperands_X13_write_ : GoodIn wsX13_writeOperands wsX13_write_ := goodIn_r _ [16, 17, 18, 19, 20, 21, 22, 23, 24, 25, 26, 27, 28, 29, 30, 31, 32, 33, 34, 35, 36, 37, 38, 39, 40, 41, 42, 43, 44, 45, 46, 47, 48, 49, 50, 51, 52, 53, 54, 55, 56, 57, 58, 59, 60, 61, 62, 63, 64, 65, 66, 67, 80, 81, 82, 83, 84, 85, 86, 87, 88, 89, 90, 91, 92, 93, 94, 95, 96, 97, 98, 99, 100, 101, 102, 103, 104, 105, 106, 107, 108, 109, 110, 111, 112, 113, 114, 115, 116, 117, 118, 119, 120, 121, 122, 123, 124, 125, 126, 127, 128, 129, 130] (by decide +kernel) (by decide +kernel)
set_option maxRecDepth 20000 in
theorem gX13_writeOperands_X13_write_ : GoodIn wsX13_writeOperands (wsV RX13 636 RX13 yX13_write_ wsX13_write_) := goodIn_app (goodIn_of _ (by decide +kernel)) ggX13_writeOperands_X13_write_
set_option maxRecDepth 20000 in
theorem ggX13_writeOperands_X13_writeAccess : GoodIn wsX13_writeOperands wsX13_writeAccess := goodIn_r _ [79, 2, 3, 4, 5, 6, 7, 8, 13, 14, 15, 16, 17, 18, 19, 20, 21, 22, 23, 24, 25, 26, 27, 28, 29, 30, 31, 32, 33, 34, 35, 36, 37, 38, 39, 40, 41, 42, 43, 44, 45, 46, 47, 48, 49, 50, 51, 52, 53, 54, 55, 56, 57, 58, 59, 60, 61, 62, 63, 64, 65, 66, 67, 68, 69, 70, 71, 72, 73, 74, 75, 80, 81, 82, 83, 84, 85, 86, 87, 88, 89, 90, 91, 92, 93, 94, 95, 96, 97, 98, 99, 100, 101, 102, 103, 104, 105, 106, 107, 108, 109, 110, 111, 112, 113, 114, 115, 116, 117, 118, 119, 120, 121, 122, 123, 124, 125, 126, 127, 128, 129, 130] (by decide +kernel) (by decide +kernel)
set_option maxRecDepth 20000 in
theorem gX13_writeOperands_X13_writeAccess : GoodIn wsX13_writeOperands (wsV RX13 645 RX13 yX13_writeAccess wsX13_writeAccess) := goodIn_app (goodIn_of _ (by decide +kernel)) ggX13_writeOperands_X13_writeAccess
theorem dX13_writeOperands_0 : decode cX13_writeOperands 0 = .ok (.aload_n 0, 1) := by decide +kernel
theorem dX13_writeOperands_1 : decode cX13_writeOperands 1 = .ok (.iload_n 1, 1) := by decide +kernel
theorem dX13_writeOperands_2 : decode cX13_writeOperands 2 = .ok (.iconst 1, 1) := by decide +kernel
theorem dX13_writeOperands_3 : decode cX13_writeOperands 3 = .ok (.invokevirtual 242, 3) := by decide +kernel
theorem dX13_writeOperands_6 : decode cX13_writeOperands 6 = .ok (.istore_n 3, 1) := by decide +kernel
theorem dX13_writeOperands_7 : decode cX13_writeOperands 7 = .ok (.aload_n 0, 1) := by decide +kernel
theorem dX13_writeOperands_8 : decode cX13_writeOperands 8 = .ok (.iload_n 1, 1) := by decide +kernel
theorem dX13_writeOperands_9 : decode cX13_writeOperands 9 = .ok (.iconst 2, 1) := by decide +kernel
theorem dX13_writeOperands_10 : decode cX13_writeOperands 10 = .ok (.invokevirtual 242, 3) := by decide +kernel
theorem dX13_writeOperands_13 : decode cX13_writeOperands 13 = .ok (.istore 4, 2) := by decide +kernel
theorem dX13_writeOperands_15 : decode cX13_writeOperands 15 = .ok (.iload_n 2, 1) := by decide +kernel
theorem dX13_writeOperands_16 : decode cX13_writeOperands 16 = .ok (.tableswitch 259 0 12 #[68, 96, 232, 232, 131, 131, 177, 259, 259, 259, 232, 251, 251], 68) := by decide +kernel
theorem dX13_writeOperands_84 : decode cX13_writeOperands 84 = .ok (.aload_n 0, 1) := by decide +kernel
theorem dX13_writeOperands_85 : decode cX13_writeOperands 85 = .ok (.iload_n 3, 1) := by decide +kernel
theorem dX13_writeOperands_86 : decode cX13_writeOperands 86 = .ok (.ifCond .le 7, 3) := by decide +kernel
theorem dX13_writeOperands_89 : decode cX13_writeOperands 89 = .ok (.iconst 1, 1) := by decide +kernel
theorem dX13_writeOperands_90 : decode cX13_writeOperands 90 = .ok (.goto 4, 3) := by decide +kernel
theorem dX13_writeOperands_93 : decode cX13_writeOperands 93 = .ok (.iconst 0, 1) := by decide +kernel
theorem dX13_writeOperands_94 : decode cX13_writeOperands 94 = .ok (.aload_n 0, 1) := by decide +kernel
theorem dX13_writeOperands_95 : decode cX13_writeOperands 95 = .ok (.getfield 105, 3) := by decide +kernel
theorem dX13_writeOperands_98 : decode cX13_writeOperands 98 = .ok (.iload_n 3, 1) := by decide +kernel
theorem dX13_writeOperands_99 : decode cX13_writeOperands 99 = .ok (.aaload, 1) := by decide +kernel
theorem dX13_writeOperands_100 : decode cX13_writeOperands 100 = .ok (.invokevirtual 641, 3) := by decide +kernel
theorem dX13_writeOperands_103 : decode cX13_writeOperands 103 = .ok (.aload_n 0, 1) := by decide +kernel
theorem dX13_writeOperands_104 : decode cX13_writeOperands 104 = .ok (.iload 4, 2) := by decide +kernel
theorem dX13_writeOperands_106 : decode cX13_writeOperands 106 = .ok (.invokevirtual 638, 3) := by decide +kernel
theorem dX13_writeOperands_109 : decode cX13_writeOperands 109 = .ok (.goto 171, 3) := by decide +kernel
theorem dX13_writeOperands_112 : decode cX13_writeOperands 112 = .ok (.aload_n 0, 1) := by decide +kernel
theorem dX13_writeOperands_113 : decode cX13_writeOperands 113 = .ok (.iload_n 3, 1) := by decide +kernel
theorem dX13_writeOperands_114 : decode cX13_writeOperands 114 = .ok (.invokevirtual 638, 3) := by decide +kernel
theorem dX13_writeOperands_117 : decode cX13_writeOperands 117 = .ok (.aload_n 0, 1) := by decide +kernel
theorem dX13_writeOperands_118 : decode cX13_writeOperands 118 = .ok (.iload 4, 2) := by decide +kernel
theorem dX13_writeOperands_120 : decode cX13_writeOperands 120 = .ok (.iconst 1, 1) := by decide +kernel
theorem dX13_writeOperands_121 : decode cX13_writeOperands 121 = .ok (.if_icmp .ne 8, 3) := by decide +kernel
theorem dX13_writeOperands_124 : decode cX13_writeOperands 124 = .ok (.ldc 165, 2) := by decide +kernel
theorem dX13_writeOperands_126 : decode cX13_writeOperands 126 = .ok (.goto 5, 3) := by decide +kernel
theorem dX13_writeOperands_129 : decode cX13_writeOperands 129 = .ok (.ldc 101, 2) := by decide +kernel
theorem dX13_writeOperands_131 : decode cX13_writeOperands 131 = .ok (.invokevirtual 636, 3) := by decide +kernel
theorem dX13_writeOperands_134 : decode cX13_writeOperands 134 = .ok (.aload_n 0, 1) := by decide +kernel
theorem dX13_writeOperands_135 : decode cX13_writeOperands 135 = .ok (.aload_n 0, 1) := by decide +kernel
theorem dX13_writeOperands_136 : decode cX13_writeOperands 136 = .ok (.iload_n 1, 1) := by decide +kernel
theorem dX13_writeOperands_137 : decode cX13_writeOperands 137 = .ok (.iconst 3, 1) := by decide +kernel
theorem dX13_writeOperands_138 : decode cX13_writeOperands 138 = .ok (.invokevirtual 242, 3) := by decide +kernel
theorem dX13_writeOperands_141 : decode cX13_writeOperands 141 = .ok (.invokevirtual 638, 3) := by decide +kernel
theorem dX13_writeOperands_144 : decode cX13_writeOperands 144 = .ok (.goto 136, 3) := by decide +kernel
theorem dX13_writeOperands_147 : decode cX13_writeOperands 147 = .ok (.aload_n 0, 1) := by decide +kernel
theorem dX13_writeOperands_148 : decode cX13_writeOperands 148 = .ok (.iload_n 3, 1) := by decide +kernel
theorem dX13_writeOperands_149 : decode cX13_writeOperands 149 = .ok (.iconst 1, 1) := by decide +kernel
theorem dX13_writeOperands_150 : decode cX13_writeOperands 150 = .ok (.if_icmp .ne 7, 3) := by decide +kernel
theorem dX13_writeOperands_153 : decode cX13_writeOperands 153 = .ok (.iconst 1, 1) := by decide +kernel
theorem dX13_writeOperands_154 : decode cX13_writeOperands 154 = .ok (.goto 4, 3) := by decide +kernel
theorem dX13_writeOperands_157 : decode cX13_writeOperands 157 = .ok (.iconst 0, 1) := by decide +kernel
theorem dX13_writeOperands_158 : decode cX13_writeOperands 158 = .ok (.iload_n 2, 1) := by decide +kernel
theorem dX13_writeOperands_159 : decode cX13_writeOperands 159 = .ok (.iconst 4, 1) := by decide +kernel
theorem dX13_writeOperands_160 : decode cX13_writeOperands 160 = .ok (.if_icmp .ne 8, 3) := by decide +kernel
theorem dX13_writeOperands_163 : decode cX13_writeOperands 163 = .ok (.ldc 167, 2) := by decide +kernel
theorem dX13_writeOperands_165 : decode cX13_writeOperands 165 = .ok (.goto 5, 3) := by decide +kernel
theorem dX13_writeOperands_168 : decode cX13_writeOperands 168 = .ok (.ldc 171, 2) := by decide +kernel
theorem dX13_writeOperands_170 : decode cX13_writeOperands 170 = .ok (.invokevirtual 641, 3) := by decide +kernel
theorem dX13_writeOperands_173 : decode cX13_writeOperands 173 = .ok (.aload_n 0, 1) := by decide +kernel
theorem dX13_writeOperands_174 : decode cX13_writeOperands 174 = .ok (.iload 4, 2) := by decide +kernel
theorem dX13_writeOperands_176 : decode cX13_writeOperands 176 = .ok (.iconst 1, 1) := by decide +kernel
theorem dX13_writeOperands_177 : decode cX13_writeOperands 177 = .ok (.if_icmp .ne 7, 3) := by decide +kernel
theorem dX13_writeOperands_180 : decode cX13_writeOperands 180 = .ok (.iconst 1, 1) := by decide +kernel
theorem dX13_writeOperands_181 : decode cX13_writeOperands 181 = .ok (.goto 4, 3) := by decide +kernel
theorem dX13_writeOperands_184 : decode cX13_writeOperands 184 = .ok (.iconst 0, 1) := by decide +kernel
theorem dX13_writeOperands_185 : decode cX13_writeOperands 185 = .ok (.ldc 169, 2) := by decide +kernel
theorem dX13_writeOperands_187 : decode cX13_writeOperands 187 = .ok (.invokevirtual 641, 3) := by decide +kernel
theorem dX13_writeOperands_190 : decode cX13_writeOperands 190 = .ok (.goto 90, 3) := by decide +kernel
theorem dX13_writeOperands_193 : decode cX13_writeOperands 193 = .ok (.aload_n 0, 1) := by decide +kernel
theorem dX13_writeOperands_194 : decode cX13_writeOperands 194 = .ok (.aload_n 0, 1) := by decide +kernel
theorem dX13_writeOperands_195 : decode cX13_writeOperands 195 = .ok (.getfield 126, 3) := by decide +kernel
theorem dX13_writeOperands_198 : decode cX13_writeOperands 198 = .ok (.iload_n 3, 1) := by decide +kernel
theorem dX13_writeOperands_199 : decode cX13_writeOperands 199 = .ok (.aaload, 1) := by decide +kernel
theorem dX13_writeOperands_200 : decode cX13_writeOperands 200 = .ok (.invokevirtual 636, 3) := by decide +kernel
theorem dX13_writeOperands_203 : decode cX13_writeOperands 203 = .ok (.aload_n 0, 1) := by decide +kernel
theorem dX13_writeOperands_204 : decode cX13_writeOperands 204 = .ok (.iload 4, 2) := by decide +kernel
theorem dX13_writeOperands_206 : decode cX13_writeOperands 206 = .ok (.ifCond .le 7, 3) := by decide +kernel
theorem dX13_writeOperands_209 : decode cX13_writeOperands 209 = .ok (.iconst 1, 1) := by decide +kernel
theorem dX13_writeOperands_210 : decode cX13_writeOperands 210 = .ok (.goto 4, 3) := by decide +kernel
theorem dX13_writeOperands_213 : decode cX13_writeOperands 213 = .ok (.iconst 0, 1) := by decide +kernel
theorem dX13_writeOperands_214 : decode cX13_writeOperands 214 = .ok (.iload 4, 2) := by decide +kernel
theorem dX13_writeOperands_216 : decode cX13_writeOperands 216 = .ok (.iconst 1, 1) := by decide +kernel
theorem dX13_writeOperands_217 : decode cX13_writeOperands 217 = .ok (.if_icmp .ne 8, 3) := by decide +kernel
theorem dX13_writeOperands_220 : decode cX13_writeOperands 220 = .ok (.ldc 173, 2) := by decide +kernel
theorem dX13_writeOperands_222 : decode cX13_writeOperands 222 = .ok (.goto 5, 3) := by decide +kernel
theorem dX13_writeOperands_225 : decode cX13_writeOperands 225 = .ok (.ldc 175, 2) := by decide +kernel
theorem dX13_writeOperands_227 : decode cX13_writeOperands 227 = .ok (.invokevirtual 641, 3) := by decide +kernel
theorem dX13_writeOperands_230 : decode cX13_writeOperands 230 = .ok (.aload_n 0, 1) := by decide +kernel
theorem dX13_writeOperands_231 : decode cX13_writeOperands 231 = .ok (.aload_n 0, 1) := by decide +kernel
theorem dX13_writeOperands_232 : decode cX13_writeOperands 232 = .ok (.getfield 126, 3) := by decide +kernel
theorem dX13_writeOperands_235 : decode cX13_writeOperands 235 = .ok (.aload_n 0, 1) := by decide +kernel
theorem dX13_writeOperands_236 : decode cX13_writeOperands 236 = .ok (.iload_n 1, 1) := by decide +kernel
theorem dX13_writeOperands_237 : decode cX13_writeOperands 237 = .ok (.iconst 3, 1) := by decide +kernel
theorem dX13_writeOperands_238 : decode cX13_writeOperands 238 = .ok (.invokevirtual 242, 3) := by decide +kernel
theorem dX13_writeOperands_241 : decode cX13_writeOperands 241 = .ok (.aaload, 1) := by decide +kernel
theorem dX13_writeOperands_242 : decode cX13_writeOperands 242 = .ok (.invokevirtual 636, 3) := by decide +kernel
theorem dX13_writeOperands_245 : decode cX13_writeOperands 245 = .ok (.goto 35, 3) := by decide +kernel
theorem dX13_writeOperands_248 : decode cX13_writeOperands 248 = .ok (.aload_n 0, 1) := by decide +kernel
theorem dX13_writeOperands_249 : decode cX13_writeOperands 249 = .ok (.aload_n 0, 1) := by decide +kernel
theorem dX13_writeOperands_250 : decode cX13_writeOperands 250 = .ok (.getfield 126, 3) := by decide +kernel
theorem dX13_writeOperands_253 : decode cX13_writeOperands 253 = .ok (.iload_n 3, 1) := by decide +kernel
theorem dX13_writeOperands_254 : decode cX13_writeOperands 254 = .ok (.aaload, 1) := by decide +kernel
theorem dX13_writeOperands_255 : decode cX13_writeOperands 255 = .ok (.invokevirtual 636, 3) := by decide +kernel
theorem dX13_writeOperands_258 : decode cX13_writeOperands 258 = .ok (.aload_n 0, 1) := by decide +kernel
theorem dX13_writeOperands_259 : decode cX13_writeOperands 259 = .ok (.iload 4, 2) := by decide +kernel
theorem dX13_writeOperands_261 : decode cX13_writeOperands 261 = .ok (.invokevirtual 638, 3) := by decide +kernel
theorem dX13_writeOperands_264 : decode cX13_writeOperands 264 = .ok (.goto 16, 3) := by decide +kernel
theorem dX13_writeOperands_267 : decode cX13_writeOperands 267 = .ok (.aload_n 0, 1) := by decide +kernel
theorem dX13_writeOperands_268 : decode cX13_writeOperands 268 = .ok (.iload_n 1, 1) := by decide +kernel
theorem dX13_writeOperands_269 : decode cX13_writeOperands 269 = .ok (.invokevirtual 645, 3) := by decide +kernel
theorem dX13_writeOperands_272 : decode cX13_writeOperands 272 = .ok (.goto 8, 3) := by decide +kernel
theorem dX13_writeOperands_275 : decode cX13_writeOperands 275 = .ok (.aload_n 0, 1) := by decide +kernel
theorem dX13_writeOperands_276 : decode cX13_writeOperands 276 = .ok (.iload_n 3, 1) := by decide +kernel
theorem dX13_writeOperands_277 : decode cX13_writeOperands 277 = .ok (.invokevirtual 638, 3) := by decide +kernel
theorem dX13_writeOperands_280 : decode cX13_writeOperands 280 = .ok (.return_, 1) := by decide +kernel
set_option maxRecDepth 20000 in
theorem ggX13_format_X13_inRange : GoodIn wsX13_format wsX13_inRange := goodIn_r _ [8] (by decide +kernel) (by decide +kernel)
set_option maxRecDepth 20000 in
theorem gX13_format_X13_inRange : GoodIn wsX13_format (va_wsS RX13 245 yX13_inRange wsX13_inRange) := goodIn_app (goodIn_of _ (by decide +kernel)) ggX13_format_X13_inRange
set_option maxRecDepth 20000 in
theorem ggX13_format_X13_raise : GoodIn wsX13_format wsX13_raise := goodIn_r _ [12, 1, 93, 94, 95, 96, 97, 98, 99, 100, 101, 102, 103, 104, 105, 106, 107, 108, 109, 110, 111, 112, 113, 114, 115, 116, 117, 118, 119, 120, 121, 122, 123, 124, 125, 126, 127, 128, 129, 130, 131, 132, 133, 134, 135, 136, 137, 138, 139] (by decide +kernel) (by decide +kernel)
set_option maxRecDepth 20000 in
theorem gX13_format_X13_raise : GoodIn wsX13_format (wsV RX13 259 RX13 yX13_raise wsX13_raise) := goodIn_app (goodIn_of _ (by decide +kernel)) ggX13_format_X13_raise
set_option maxRecDepth 20000 in
theorem ggX13_format_X13_code : GoodIn wsX13_format wsX13_code := goodIn_r _ [16, 2, 93, 94, 95, 96, 97, 98, 99, 100, 101, 102, 103, 104, 105, 106, 107, 108, 109, 110, 111, 112, 113, 114, 115, 116, 117, 118, 119, 120, 121, 122, 123, 124, 125, 126, 127, 128, 129, 130, 131, 132, 133, 134, 135, 136, 137, 138, 139] (by decide +kernel) (by decide +kernel)
set_option maxRecDepth 20000 in
theorem gX13_format_X13_code : GoodIn wsX13_format (wsV RX13 242 RX13 yX13_code wsX13_code) := goodIn_app (goodIn_of _ (by decide +kernel)) ggX13_format_X13_code
set_option maxRecDepth 20000 in
theorem ggX13_format_X13_write_ : GoodIn wsX13_format wsX13_write_ := goodIn_r _ [20, 3, 21, 22, 23, 24, 25, 26, 27, 28, 29, 30, 31, 32, 33, 34, 35, 36, 37, 38, 39, 40, 41, 42, 43, 44, 45, 46, 47, 48, 49, 50, 51, 52, 53, 54, 55, 56, 57, 58, 59, 60, 61, 62, 63, 64, 65, 66, 67, 68, 69, 70, 93, 94, 95, 96, 97, 98, 99, 100, 101, 102, 103, 104, 105, 106, 107, 108, 109, 110, 111, 112, 113, 114, 115, 116, 117, 118, 119, 120, 121, 122, 123, 124, 125, 126, 127, 128, 129, 130, 131, 132, 133, 134, 135, 136, 137, 138, 139, 140, 141, 142, 143] (by decide +kernel) (by decide +kernel)
set_option maxRecDepth 20000 in
theorem gX13_format_X13_write_ : GoodIn wsX13_format (wsV RX13 636 RX13 yX13_write_ wsX13_write_) := goodIn_app (goodIn_of _ (by decide +kernel)) ggX13_format_X13_write_
set_option maxRecDepth 20000 in
theorem ggX13_format_X13_writeOperands : GoodIn wsX13_format wsX13_writeOperands := goodIn_r _ [74, 75, 76, 13, 14, 15, 7, 16, 2, 77, 78, 79, 80, 17, 18, 19, 20, 3, 21, 22, 23, 24, 25, 26, 27, 28, 29, 30, 31, 32, 33, 34, 35, 36, 37, 38, 39, 40, 41, 42, 43, 44, 45, 46, 47, 48, 49, 50, 51, 52, 53, 54, 55, 56, 57, 58, 59, 60, 61, 62, 63, 64, 65, 66, 67, 68, 69, 70, 81, 82, 83, 84, 85, 86, 87, 88, 89, 90, 91, 92, 93, 94, 95, 96, 97, 98, 99, 100, 101, 102, 103, 104, 105, 106, 107, 108, 109, 110, 111, 112, 113, 114, 115, 116, 117, 118, 119, 120, 121, 122, 123, 124, 125, 126, 127, 128, 129, 130, 131, 132, 133, 134, 135, 136, 137, 138, 139, 140, 141, 142, 143] (by decide +kernel) (by decide +kernel)
set_option maxRecDepth 20000 in
theorem gX13_format_X13_writeOperands : GoodIn wsX13_format (wsV RX13 648 RX13 yX13_writeOperands wsX13_writeOperands) := goodIn_app (goodIn_of _ (by decide +kernel)) ggX13_format_X13_writeOperands
set_option maxRecDepth 20000 in
theorem ggX13_format_X13_writeNumber : GoodIn wsX13_format wsX13_writeNumber := goodIn_r _ [84, 17, 18, 19, 7, 20, 3, 21, 22, 23, 24, 25, 26, 27, 28, 29, 30, 31, 32, 33, 34, 35, 36, 37, 38, 39, 40, 41, 42, 43, 44, 45, 46, 47, 48, 49, 50, 51, 52, 53, 54, 55, 56, 57, 58, 59, 60, 61, 62, 63, 64, 65, 66, 67, 68, 69, 70, 85, 86, 87, 88, 93, 94, 95, 96, 97, 98, 99, 100, 101, 102, 103, 104, 105, 106, 107, 108, 109, 110, 111, 112, 113, 114, 115, 116, 117, 118, 119, 120, 121, 122, 123, 124, 125, 126, 127, 128, 129, 130, 131, 132, 133, 134, 135, 136, 137, 138, 139, 140, 141, 142, 143] (by decide +kernel) (by decide +kernel)
set_option maxRecDepth 20000 in
theorem gX13_format_X13_writeNumber : GoodIn wsX13_format (wsV RX13 638 RX13 yX13_writeNumber wsX13_writeNumber) := goodIn_app (goodIn_of _ (by decide +kernel)) ggX13_format_X13_writeNumber
theorem dX13_format_0 : decode cX13_format 0 = .ok (.aload_n 0, 1) := by decide +kernel
theorem dX13_format_1 : decode cX13_format 1 = .ok (.iconst 0, 1) := by decide +kernel
theorem dX13_format_2 : decode cX13_format 2 = .ok (.putfield 231, 3) := by decide +kernel
theorem dX13_format_5 : decode cX13_format 5 = .ok (.iload_n 1, 1) := by decide +kernel
theorem dX13_format_6 : decode cX13_format 6 = .ok (.iconst 0, 1) := by decide +kernel
theorem dX13_format_7 : decode cX13_format 7 = .ok (.aload_n 0, 1) := by decide +kernel
theorem dX13_format_8 : decode cX13_format 8 = .ok (.getfield 9, 3) := by decide +kernel
theorem dX13_format_11 : decode cX13_format 11 = .ok (.iconst 0, 1) := by decide +kernel
theorem dX13_format_12 : decode cX13_format 12 = .ok (.iaload, 1) := by decide +kernel
theorem dX13_format_13 : decode cX13_format 13 = .ok (.iconst 1, 1) := by decide +kernel
theorem dX13_format_14 : decode cX13_format 14 = .ok (.isub, 1) := by decide +kernel
theorem dX13_format_15 : decode cX13_format 15 = .ok (.invokestatic 245, 3) := by decide +kernel
theorem dX13_format_18 : decode cX13_format 18 = .ok (.ifCond .ne 9, 3) := by decide +kernel
theorem dX13_format_21 : decode cX13_format 21 = .ok (.aload_n 0, 1) := by decide +kernel
theorem dX13_format_22 : decode cX13_format 22 = .ok (.iconst 1, 1) := by decide +kernel
theorem dX13_format_23 : decode cX13_format 23 = .ok (.invokevirtual 259, 3) := by decide +kernel
theorem dX13_format_26 : decode cX13_format 26 = .ok (.ireturn, 1) := by decide +kernel
theorem dX13_format_27 : decode cX13_format 27 = .ok (.aload_n 0, 1) := by decide +kernel
theorem dX13_format_28 : decode cX13_format 28 = .ok (.iconst 0, 1) := by decide +kernel
theorem dX13_format_29 : decode cX13_format 29 = .ok (.putfield 630, 3) := by decide +kernel
theorem dX13_format_32 : decode cX13_format 32 = .ok (.aload_n 0, 1) := by decide +kernel
theorem dX13_format_33 : decode cX13_format 33 = .ok (.iload_n 1, 1) := by decide +kernel
theorem dX13_format_34 : decode cX13_format 34 = .ok (.iconst 0, 1) := by decide +kernel
theorem dX13_format_35 : decode cX13_format 35 = .ok (.invokevirtual 242, 3) := by decide +kernel
theorem dX13_format_38 : decode cX13_format 38 = .ok (.istore_n 2, 1) := by decide +kernel
theorem dX13_format_39 : decode cX13_format 39 = .ok (.aload_n 0, 1) := by decide +kernel
theorem dX13_format_40 : decode cX13_format 40 = .ok (.aload_n 0, 1) := by decide +kernel
theorem dX13_format_41 : decode cX13_format 41 = .ok (.getfield 85, 3) := by decide +kernel
theorem dX13_format_44 : decode cX13_format 44 = .ok (.iload_n 2, 1) := by decide +kernel
theorem dX13_format_45 : decode cX13_format 45 = .ok (.aaload, 1) := by decide +kernel
theorem dX13_format_46 : decode cX13_format 46 = .ok (.invokevirtual 636, 3) := by decide +kernel
theorem dX13_format_49 : decode cX13_format 49 = .ok (.aload_n 0, 1) := by decide +kernel
theorem dX13_format_50 : decode cX13_format 50 = .ok (.iload_n 1, 1) := by decide +kernel
theorem dX13_format_51 : decode cX13_format 51 = .ok (.iload_n 2, 1) := by decide +kernel
theorem dX13_format_52 : decode cX13_format 52 = .ok (.invokevirtual 648, 3) := by decide +kernel
theorem dX13_format_55 : decode cX13_format 55 = .ok (.aload_n 0, 1) := by decide +kernel
theorem dX13_format_56 : decode cX13_format 56 = .ok (.iload_n 1, 1) := by decide +kernel
theorem dX13_format_57 : decode cX13_format 57 = .ok (.iconst 4, 1) := by decide +kernel
theorem dX13_format_58 : decode cX13_format 58 = .ok (.invokevirtual 242, 3) := by decide +kernel
theorem dX13_format_61 : decode cX13_format 61 = .ok (.iconst (-1), 1) := by decide +kernel
theorem dX13_format_62 : decode cX13_format 62 = .ok (.if_icmp .eq 19, 3) := by decide +kernel
theorem dX13_format_65 : decode cX13_format 65 = .ok (.aload_n 0, 1) := by decide +kernel
theorem dX13_format_66 : decode cX13_format 66 = .ok (.ldc 135, 2) := by decide +kernel
theorem dX13_format_68 : decode cX13_format 68 = .ok (.invokevirtual 636, 3) := by decide +kernel
theorem dX13_format_71 : decode cX13_format 71 = .ok (.aload_n 0, 1) := by decide +kernel
theorem dX13_format_72 : decode cX13_format 72 = .ok (.aload_n 0, 1) := by decide +kernel
theorem dX13_format_73 : decode cX13_format 73 = .ok (.iload_n 1, 1) := by decide +kernel
theorem dX13_format_74 : decode cX13_format 74 = .ok (.iconst 4, 1) := by decide +kernel
theorem dX13_format_75 : decode cX13_format 75 = .ok (.invokevirtual 242, 3) := by decide +kernel
theorem dX13_format_78 : decode cX13_format 78 = .ok (.invokevirtual 638, 3) := by decide +kernel
theorem dX13_format_81 : decode cX13_format 81 = .ok (.aload_n 0, 1) := by decide +kernel
theorem dX13_format_82 : decode cX13_format 82 = .ok (.iload_n 1, 1) := by decide +kernel
theorem dX13_format_83 : decode cX13_format 83 = .ok (.iconst 5, 1) := by decide +kernel
theorem dX13_format_84 : decode cX13_format 84 = .ok (.invokevirtual 242, 3) := by decide +kernel
theorem dX13_format_87 : decode cX13_format 87 = .ok (.ifCond .le 19, 3) := by decide +kernel
theorem dX13_format_90 : decode cX13_format 90 = .ok (.aload_n 0, 1) := by decide +kernel
theorem dX13_format_91 : decode cX13_format 91 = .ok (.ldc 137, 2) := by decide +kernel
theorem dX13_format_93 : decode cX13_format 93 = .ok (.invokevirtual 636, 3) := by decide +kernel
theorem dX13_format_96 : decode cX13_format 96 = .ok (.aload_n 0, 1) := by decide +kernel
theorem dX13_format_97 : decode cX13_format 97 = .ok (.aload_n 0, 1) := by decide +kernel
theorem dX13_format_98 : decode cX13_format 98 = .ok (.iload_n 1, 1) := by decide +kernel
theorem dX13_format_99 : decode cX13_format 99 = .ok (.iconst 5, 1) := by decide +kernel
theorem dX13_format_100 : decode cX13_format 100 = .ok (.invokevirtual 242, 3) := by decide +kernel
theorem dX13_format_103 : decode cX13_format 103 = .ok (.invokevirtual 638, 3) := by decide +kernel
theorem dX13_format_106 : decode cX13_format 106 = .ok (.aload_n 0, 1) := by decide +kernel
theorem dX13_format_107 : decode cX13_format 107 = .ok (.getfield 630, 3) := by decide +kernel
theorem dX13_format_110 : decode cX13_format 110 = .ok (.ireturn, 1) := by decide +kernel
set_option maxRecDepth 20000 in
theorem ggX13_formattedByte_X13_inRange : GoodIn wsX13_formattedByte wsX13_inRange := goodIn_r _ [7] (by decide +kernel) (by decide +kernel)
set_option maxRecDepth 20000 in
theorem gX13_formattedByte_X13_inRange : GoodIn wsX13_formattedByte (va_wsS RX13 245 yX13_inRange wsX13_inRange) := goodIn_app (goodIn_of _ (by decide +kernel)) ggX13_formattedByte_X13_inRange
theorem dX13_formattedByte_0 : decode cX13_formattedByte 0 = .ok (.aload_n 0, 1) := by decide +kernel
theorem dX13_formattedByte_1 : decode cX13_formattedByte 1 = .ok (.iconst 0, 1) := by decide +kernel
theorem dX13_formattedByte_2 : decode cX13_formattedByte 2 = .ok (.putfield 231, 3) := by decide +kernel
theorem dX13_formattedByte_5 : decode cX13_formattedByte 5 = .ok (.iload_n 1, 1) := by decide +kernel
theorem dX13_formattedByte_6 : decode cX13_formattedByte 6 = .ok (.iconst 0, 1) := by decide +kernel
theorem dX13_formattedByte_7 : decode cX13_formattedByte 7 = .ok (.aload_n 0, 1) := by decide +kernel
theorem dX13_formattedByte_8 : decode cX13_formattedByte 8 = .ok (.getfield 630, 3) := by decide +kernel
theorem dX13_formattedByte_11 : decode cX13_formattedByte 11 = .ok (.iconst 1, 1) := by decide +kernel
theorem dX13_formattedByte_12 : decode cX13_formattedByte 12 = .ok (.isub, 1) := by decide +kernel
theorem dX13_formattedByte_13 : decode cX13_formattedByte 13 = .ok (.invokestatic 245, 3) := by decide +kernel
theorem dX13_formattedByte_16 : decode cX13_formattedByte 16 = .ok (.ifCond .eq 12, 3) := by decide +kernel
theorem dX13_formattedByte_19 : decode cX13_formattedByte 19 = .ok (.aload_n 0, 1) := by decide +kernel
theorem dX13_formattedByte_20 : decode cX13_formattedByte 20 = .ok (.getfield 213, 3) := by decide +kernel
theorem dX13_formattedByte_23 : decode cX13_formattedByte 23 = .ok (.iload_n 1, 1) := by decide +kernel
theorem dX13_formattedByte_24 : decode cX13_formattedByte 24 = .ok (.iaload, 1) := by decide +kernel
theorem dX13_formattedByte_25 : decode cX13_formattedByte 25 = .ok (.goto 4, 3) := by decide +kernel
theorem dX13_formattedByte_28 : decode cX13_formattedByte 28 = .ok (.iconst (-1), 1) := by decide +kernel
theorem dX13_formattedByte_29 : decode cX13_formattedByte 29 = .ok (.ireturn, 1) := by decide +kernel
theorem dX13_emit_0 : decode cX13_emit 0 = .ok (.aload_n 0, 1) := by decide +kernel
theorem dX13_emit_1 : decode cX13_emit 1 = .ok (.getfield 490, 3) := by decide +kernel
theorem dX13_emit_4 : decode cX13_emit 4 = .ok (.ifCond .ne 23, 3) := by decide +kernel
theorem dX13_emit_7 : decode cX13_emit 7 = .ok (.aload_n 0, 1) := by decide +kernel
theorem dX13_emit_8 : decode cX13_emit 8 = .ok (.getfield 222, 3) := by decide +kernel
theorem dX13_emit_11 : decode cX13_emit 11 = .ok (.aload_n 0, 1) := by decide +kernel
theorem dX13_emit_12 : decode cX13_emit 12 = .ok (.getfield 651, 3) := by decide +kernel
theorem dX13_emit_15 : decode cX13_emit 15 = .ok (.iload_n 1, 1) := by decide +kernel
theorem dX13_emit_16 : decode cX13_emit 16 = .ok (.iastore, 1) := by decide +kernel
theorem dX13_emit_17 : decode cX13_emit 17 = .ok (.aload_n 0, 1) := by decide +kernel
theorem dX13_emit_18 : decode cX13_emit 18 = .ok (.dup, 1) := by decide +kernel
theorem dX13_emit_19 : decode cX13_emit 19 = .ok (.getfield 651, 3) := by decide +kernel
theorem dX13_emit_22 : decode cX13_emit 22 = .ok (.iconst 1, 1) := by decide +kernel
theorem dX13_emit_23 : decode cX13_emit 23 = .ok (.iadd, 1) := by decide +kernel
theorem dX13_emit_24 : decode cX13_emit 24 = .ok (.putfield 651, 3) := by decide +kernel
theorem dX13_emit_27 : decode cX13_emit 27 = .ok (.return_, 1) := by decide +kernel
set_option maxRecDepth 20000 in
theorem ggX13_enter_X13_check : GoodIn wsX13_enter wsX13_check := goodIn_r _ [6, 7, 8, 9, 5, 10, 11, 12, 13, 38, 39, 40, 41, 42, 43, 44, 45, 46, 47, 48, 49, 50, 51, 52, 53, 54, 55, 56, 57, 58, 59, 60, 61, 62, 63, 64, 65, 66, 67, 68, 69, 70, 71, 72, 73, 74, 75, 76, 77, 78, 79, 80, 81, 82, 83, 84] (by decide +kernel) (by decide +kernel)
set_option maxRecDepth 20000 in
theorem gX13_enter_X13_check : GoodIn wsX13_enter (wsV RX13 516 RX13 yX13_check wsX13_check) := goodIn_app (goodIn_of _ (by decide +kernel)) ggX13_enter_X13_check
set_option maxRecDepth 20000 in
theorem ggX13_enter_X13_advance : GoodIn wsX13_enter wsX13_advance := goodIn_r _ [17, 11, 18, 19, 20, 5, 21, 22, 12, 23, 24, 25, 26, 27, 28, 29, 30, 31, 32, 33, 34, 35, 36, 37, 38, 39, 40, 41, 42, 43, 44, 45, 46, 47, 48, 49, 50, 51, 52, 53, 54, 55, 56, 57, 58, 59, 60, 61, 62, 63, 64, 65, 66, 67, 68, 69, 70, 71, 72, 73, 74, 75, 76, 77, 78, 79, 80, 81, 82, 83, 84] (by decide +kernel) (by decide +kernel)
set_option maxRecDepth 20000 in
theorem gX13_enter_X13_advance : GoodIn wsX13_enter (wsV RX13 520 RX13 yX13_advance wsX13_advance) := goodIn_app (goodIn_of _ (by decide +kernel)) ggX13_enter_X13_advance
theorem dX13_enter_0 : decode cX13_enter 0 = .ok (.aload_n 0, 1) := by decide +kernel
theorem dX13_enter_1 : decode cX13_enter 1 = .ok (.aload_n 0, 1) := by decide +kernel
theorem dX13_enter_2 : decode cX13_enter 2 = .ok (.getfield 493, 3) := by decide +kernel
theorem dX13_enter_5 : decode cX13_enter 5 = .ok (.bipush 6, 2) := by decide +kernel
theorem dX13_enter_7 : decode cX13_enter 7 = .ok (.if_icmp .ge 7, 3) := by decide +kernel
theorem dX13_enter_10 : decode cX13_enter 10 = .ok (.iconst 1, 1) := by decide +kernel
theorem dX13_enter_11 : decode cX13_enter 11 = .ok (.goto 4, 3) := by decide +kernel
theorem dX13_enter_14 : decode cX13_enter 14 = .ok (.iconst 0, 1) := by decide +kernel
theorem dX13_enter_15 : decode cX13_enter 15 = .ok (.iconst 3, 1) := by decide +kernel
theorem dX13_enter_16 : decode cX13_enter 16 = .ok (.invokevirtual 516, 3) := by decide +kernel
theorem dX13_enter_19 : decode cX13_enter 19 = .ok (.aload_n 0, 1) := by decide +kernel
theorem dX13_enter_20 : decode cX13_enter 20 = .ok (.dup, 1) := by decide +kernel
theorem dX13_enter_21 : decode cX13_enter 21 = .ok (.getfield 493, 3) := by decide +kernel
theorem dX13_enter_24 : decode cX13_enter 24 = .ok (.iconst 1, 1) := by decide +kernel
theorem dX13_enter_25 : decode cX13_enter 25 = .ok (.iadd, 1) := by decide +kernel
theorem dX13_enter_26 : decode cX13_enter 26 = .ok (.putfield 493, 3) := by decide +kernel
theorem dX13_enter_29 : decode cX13_enter 29 = .ok (.aload_n 0, 1) := by decide +kernel
theorem dX13_enter_30 : decode cX13_enter 30 = .ok (.invokevirtual 520, 3) := by decide +kernel
theorem dX13_enter_33 : decode cX13_enter 33 = .ok (.return_, 1) := by decide +kernel
set_option maxRecDepth 20000 in
theorem ggX13_compileValue_X13_number : GoodIn wsX13_compileValue wsX13_number := goodIn_r _ [9, 1, 2, 10, 11, 12, 8, 13, 14, 15, 16, 17, 18, 19, 20, 21, 22, 23, 24, 25, 26, 27, 28, 29, 30, 31, 32, 33, 34, 35, 36, 37, 38, 39, 40, 41, 42, 43, 44, 45, 46, 47, 48, 49, 50, 51, 52, 53, 54, 118, 119, 120, 121, 122, 123, 124, 125, 126, 127, 128, 129, 130, 131, 132, 133, 134, 135, 136, 137, 138, 139, 140, 141, 142, 143, 144, 145, 146, 147, 148, 149, 150, 151, 152, 153, 154, 155, 156, 157, 158, 159, 160, 161, 162, 163, 164] (by decide +kernel) (by decide +kernel)
set_option maxRecDepth 20000 in
theorem gX13_compileValue_X13_number : GoodIn wsX13_compileValue (wsV RX13 546 RX13 yX13_number wsX13_number) := goodIn_app (goodIn_of _ (by decide +kernel)) ggX13_compileValue_X13_number
set_option maxRecDepth 20000 in
theorem ggX13_compileValue_X13_emit : GoodIn wsX13_compileValue wsX13_emit := goodIn_r _ [58, 1, 59, 60, 118, 119, 120, 121, 122, 123, 124, 125, 126, 127, 128, 129, 130, 131, 132, 133, 134, 135, 136, 137, 138, 139, 140, 141, 142, 143, 144, 145, 146, 147, 148, 149, 150, 151, 152, 153, 154, 155, 156, 157, 158, 159, 160, 161, 162, 163, 164] (by decide +kernel) (by decide +kernel)
set_option maxRecDepth 20000 in
theorem gX13_compileValue_X13_emit : GoodIn wsX13_compileValue (wsV RX13 655 RX13 yX13_emit wsX13_emit) := goodIn_app (goodIn_of _ (by decide +kernel)) ggX13_compileValue_X13_emit
set_option maxRecDepth 20000 in
theorem ggX13_compileValue_X13_indexIn : GoodIn wsX13_compileValue wsX13_indexIn := goodIn_r _ [64, 65, 66, 67, 8, 68, 1, 2, 24, 18, 26, 69, 70, 71, 72, 73, 74, 75, 76, 77, 78, 79, 80, 81, 82, 83, 84, 85, 86, 87, 88, 89, 90, 91, 92, 93, 94, 95, 96, 97, 98, 99, 100, 101, 102, 103, 104, 105, 106, 107, 108, 109, 110, 111, 112, 113, 114, 115, 116, 117, 118, 119, 120, 121, 122, 123, 124, 125, 126, 127, 128, 129, 130, 131, 132, 133, 134, 135, 136, 137, 138, 139, 140, 141, 142, 143, 144, 145, 146, 147, 148, 149, 150, 151, 152, 153, 154, 155, 156, 157, 158, 159, 160, 161, 162, 163, 164, 165, 166, 167, 168] (by decide +kernel) (by decide +kernel)
set_option maxRecDepth 20000 in
theorem gX13_compileValue_X13_indexIn : GoodIn wsX13_compileValue (wsV RX13 529 RX13 yX13_indexIn wsX13_indexIn) := goodIn_app (goodIn_of _ (by decide +kernel)) ggX13_compileValue_X13_indexIn
set_option maxRecDepth 20000 in
theorem ggX13_compileValue_X13_check : GoodIn wsX13_compileValue wsX13_check := goodIn_r _ [13, 14, 15, 16, 8, 17, 1, 18, 19, 118, 119, 120, 121, 122, 123, 124, 125, 126, 127, 128, 129, 130, 131, 132, 133, 134, 135, 136, 137, 138, 139, 140, 141, 142, 143, 144, 145, 146, 147, 148, 149, 150, 151, 152, 153, 154, 155, 156, 157, 158, 159, 160, 161, 162, 163, 164] (by decide +kernel) (by decide +kernel)
set_option maxRecDepth 20000 in
theorem gX13_compileValue_X13_check : GoodIn wsX13_compileValue (wsV RX13 516 RX13 yX13_check wsX13_check) := goodIn_app (goodIn_of _ (by decide +kernel)) ggX13_compileValue_X13_check
set_option maxRecDepth 20000 in
theorem ggX13_compileValue_X13_advance : GoodIn wsX13_compileValue wsX13_advance := goodIn_r _ [37, 1, 38, 39, 40, 8, 41, 24, 18, 42, 2, 43, 44, 45, 46, 26, 47, 48, 49, 50, 51, 52, 53, 54, 118, 119, 120, 121, 122, 123, 124, 125, 126, 127, 128, 129, 130, 131, 132, 133, 134, 135, 136, 137, 138, 139, 140, 141, 142, 143, 144, 145, 146, 147, 148, 149, 150, 151, 152, 153, 154, 155, 156, 157, 158, 159, 160, 161, 162, 163, 164] (by decide +kernel) (by decide +kernel)
set_option maxRecDepth 20000 in
theorem gX13_compileValue_X13_advance : GoodIn wsX13_compileValue (wsV RX13 520 RX13 yX13_advance wsX13_advance) := goodIn_app (goodIn_of _ (by decide +kernel)) ggX13_compileValue_X13_advance
theorem dX13_compileValue_0 : decode cX13_compileValue 0 = .ok (.aload_n 0, 1) := by decide +kernel
theorem dX13_compileValue_1 : decode cX13_compileValue 1 = .ok (.getfield 490, 3) := by decide +kernel
theorem dX13_compileValue_4 : decode cX13_compileValue 4 = .ok (.ifCond .ne 11, 3) := by decide +kernel
theorem dX13_compileValue_7 : decode cX13_compileValue 7 = .ok (.aload_n 0, 1) := by decide +kernel
theorem dX13_compileValue_8 : decode cX13_compileValue 8 = .ok (.getfield 481, 3) := by decide +kernel
theorem dX13_compileValue_11 : decode cX13_compileValue 11 = .ok (.iconst 2, 1) := by decide +kernel
theorem dX13_compileValue_12 : decode cX13_compileValue 12 = .ok (.if_icmp .ne 16, 3) := by decide +kernel
theorem dX13_compileValue_15 : decode cX13_compileValue 15 = .ok (.aload_n 0, 1) := by decide +kernel
theorem dX13_compileValue_16 : decode cX13_compileValue 16 = .ok (.aload_n 0, 1) := by decide +kernel
theorem dX13_compileValue_17 : decode cX13_compileValue 17 = .ok (.iconst 0, 1) := by decide +kernel
theorem dX13_compileValue_18 : decode cX13_compileValue 18 = .ok (.ldc_w 654, 3) := by decide +kernel
theorem dX13_compileValue_21 : decode cX13_compileValue 21 = .ok (.invokevirtual 546, 3) := by decide +kernel
theorem dX13_compileValue_24 : decode cX13_compileValue 24 = .ok (.invokevirtual 655, 3) := by decide +kernel
theorem dX13_compileValue_27 : decode cX13_compileValue 27 = .ok (.return_, 1) := by decide +kernel
theorem dX13_compileValue_28 : decode cX13_compileValue 28 = .ok (.aload_n 0, 1) := by decide +kernel
theorem dX13_compileValue_29 : decode cX13_compileValue 29 = .ok (.aload_n 0, 1) := by decide +kernel
theorem dX13_compileValue_30 : decode cX13_compileValue 30 = .ok (.getfield 216, 3) := by decide +kernel
theorem dX13_compileValue_33 : decode cX13_compileValue 33 = .ok (.invokevirtual 529, 3) := by decide +kernel
theorem dX13_compileValue_36 : decode cX13_compileValue 36 = .ok (.istore_n 1, 1) := by decide +kernel
theorem dX13_compileValue_37 : decode cX13_compileValue 37 = .ok (.aload_n 0, 1) := by decide +kernel
theorem dX13_compileValue_38 : decode cX13_compileValue 38 = .ok (.iload_n 1, 1) := by decide +kernel
theorem dX13_compileValue_39 : decode cX13_compileValue 39 = .ok (.iconst (-1), 1) := by decide +kernel
theorem dX13_compileValue_40 : decode cX13_compileValue 40 = .ok (.if_icmp .eq 7, 3) := by decide +kernel
theorem dX13_compileValue_43 : decode cX13_compileValue 43 = .ok (.iconst 1, 1) := by decide +kernel
theorem dX13_compileValue_44 : decode cX13_compileValue 44 = .ok (.goto 4, 3) := by decide +kernel
theorem dX13_compileValue_47 : decode cX13_compileValue 47 = .ok (.iconst 0, 1) := by decide +kernel
theorem dX13_compileValue_48 : decode cX13_compileValue 48 = .ok (.iconst 1, 1) := by decide +kernel
theorem dX13_compileValue_49 : decode cX13_compileValue 49 = .ok (.invokevirtual 516, 3) := by decide +kernel
theorem dX13_compileValue_52 : decode cX13_compileValue 52 = .ok (.aload_n 0, 1) := by decide +kernel
theorem dX13_compileValue_53 : decode cX13_compileValue 53 = .ok (.iconst (-1), 1) := by decide +kernel
theorem dX13_compileValue_54 : decode cX13_compileValue 54 = .ok (.iload_n 1, 1) := by decide +kernel
theorem dX13_compileValue_55 : decode cX13_compileValue 55 = .ok (.isub, 1) := by decide +kernel
theorem dX13_compileValue_56 : decode cX13_compileValue 56 = .ok (.invokevirtual 655, 3) := by decide +kernel
theorem dX13_compileValue_59 : decode cX13_compileValue 59 = .ok (.aload_n 0, 1) := by decide +kernel
theorem dX13_compileValue_60 : decode cX13_compileValue 60 = .ok (.invokevirtual 520, 3) := by decide +kernel
theorem dX13_compileValue_63 : decode cX13_compileValue 63 = .ok (.return_, 1) := by decide +kernel
set_option maxRecDepth 20000 in
theorem ggX13_compileFactor_X13_isWord : GoodIn wsX13_compileFactor wsX13_isWord := goodIn_r _ [7, 1, 8, 9, 10, 11, 12, 13, 14, 15, 16, 17, 18, 19, 20, 21, 22, 23, 24, 25, 26, 27, 28, 29, 30, 31, 32, 33, 34, 35, 36, 37, 38, 39, 40, 41, 42, 43, 44, 45, 46, 47, 48, 49, 50, 51, 52, 53, 54, 55, 56, 57, 58, 59, 60, 150, 151, 152, 153, 154, 155, 156, 157, 158, 159, 160, 161, 162, 163, 164, 165, 166, 167, 168, 169, 170, 171, 172, 173, 174, 175, 176, 177, 178, 179, 180, 181, 182, 183, 184, 185, 186, 187, 188, 189, 190, 191, 192, 193, 194, 195, 196, 197, 198, 199, 200] (by decide +kernel) (by decide +kernel)
set_option maxRecDepth 20000 in
theorem gX13_compileFactor_X13_isWord : GoodIn wsX13_compileFactor (wsV RX13 512 RX13 yX13_isWord wsX13_isWord) := goodIn_app (goodIn_of _ (by decide +kernel)) ggX13_compileFactor_X13_isWord
set_option maxRecDepth 20000 in
theorem ggX13_compileFactor_X13_enter : GoodIn wsX13_compileFactor wsX13_enter := goodIn_r _ [64, 2, 65, 66, 67, 6, 68, 69, 70, 71, 72, 1, 10, 73, 74, 75, 76, 77, 78, 79, 80, 81, 9, 82, 8, 83, 84, 85, 86, 11, 87, 88, 89, 90, 91, 92, 93, 94, 150, 151, 152, 153, 154, 155, 156, 157, 158, 159, 160, 161, 162, 163, 164, 165, 166, 167, 168, 169, 170, 171, 172, 173, 174, 175, 176, 177, 178, 179, 180, 181, 182, 183, 184, 185, 186, 187, 188, 189, 190, 191, 192, 193, 194, 195, 196] (by decide +kernel) (by decide +kernel)
set_option maxRecDepth 20000 in
theorem gX13_compileFactor_X13_enter : GoodIn wsX13_compileFactor (wsV RX13 658 RX13 yX13_enter wsX13_enter) := goodIn_app (goodIn_of _ (by decide +kernel)) ggX13_compileFactor_X13_enter
set_option maxRecDepth 20000 in
theorem ggX13_compileFactor_X13_compileFactor : GoodIn wsX13_compileFactor wsX13_compileFactor := goodIn_r _ [0, 1, 2, 3, 4, 5, 6, 7, 8, 9, 10, 11, 12, 13, 14, 15, 16, 17, 18, 19, 20, 21, 22, 23, 24, 25, 26, 27, 28, 29, 30, 31, 32, 33, 34, 35, 36, 37, 38, 39, 40, 41, 42, 43, 44, 45, 46, 47, 48, 49, 50, 51, 52, 53, 54, 55, 56, 57, 58, 59, 60, 61, 62, 63, 64, 65, 66, 67, 68, 69, 70, 71, 72, 73, 74, 75, 76, 77, 78, 79, 80, 81, 82, 83, 84, 85, 86, 87, 88, 89, 90, 91, 92, 93, 94, 95, 96, 97, 98, 99, 100, 101, 102, 103, 104, 105, 106, 107, 108, 109, 110, 111, 112, 113, 114, 115, 116, 117, 118, 119, 120, 121, 122, 123, 124, 125, 126, 127, 128, 129, 130, 131, 132, 133, 134, 135, 136, 137, 138, 139, 140, 141, 142, 143, 144, 145, 146, 147, 148, 149, 150, 151, 152, 153, 154, 155, 156, 157, 158, 159, 160, 161, 162, 163, 164, 165, 166, 167, 168, 169, 170, 171, 172, 173, 174, 175, 176, 177, 178, 179, 180, 181, 182, 183, 184, 185, 186, 187, 188, 189, 190, 191, 192, 193, 194, 195, 196, 197, 198, 199, 200] (by decide +kernel) (by decide +kernel)
set_option maxRecDepth 20000 in
theorem gX13_compileFactor_X13_compileFactor : GoodIn wsX13_compileFactor (wsV RX13 661 RX13 yX13_compileFactor wsX13_compileFactor) := goodIn_app (goodIn_of _ (by decide +kernel)) ggX13_compileFactor_X13_compileFactor
set_option maxRecDepth 20000 in
theorem ggX13_compileFactor_X13_emit : GoodIn wsX13_compileFactor wsX13_emit := goodIn_r _ [101, 1, 102, 103, 150, 151, 152, 153, 154, 155, 156, 157, 158, 159, 160, 161, 162, 163, 164, 165, 166, 167, 168, 169, 170, 171, 172, 173, 174, 175, 176, 177, 178, 179, 180, 181, 182, 183, 184, 185, 186, 187, 188, 189, 190, 191, 192, 193, 194, 195, 196] (by decide +kernel) (by decide +kernel)
set_option maxRecDepth 20000 in
theorem gX13_compileFactor_X13_emit : GoodIn wsX13_compileFactor (wsV RX13 655 RX13 yX13_emit wsX13_emit) := goodIn_app (goodIn_of _ (by decide +kernel)) ggX13_compileFactor_X13_emit
set_option maxRecDepth 20000 in
theorem ggX13_compileFactor_X13_isSymbol : GoodIn wsX13_compileFactor wsX13_isSymbol := goodIn_r _ [107, 1, 8, 11, 10, 150, 151, 152, 153, 154, 155, 156, 157, 158, 159, 160, 161, 162, 163, 164, 165, 166, 167, 168, 169, 170, 171, 172, 173, 174, 175, 176, 177, 178, 179, 180, 181, 182, 183, 184, 185, 186, 187, 188, 189, 190, 191, 192, 193, 194, 195, 196] (by decide +kernel) (by decide +kernel)
set_option maxRecDepth 20000 in
theorem gX13_compileFactor_X13_isSymbol : GoodIn wsX13_compileFactor (wsV RX13 523 RX13 yX13_isSymbol wsX13_isSymbol) := goodIn_app (goodIn_of _ (by decide +kernel)) ggX13_compileFactor_X13_isSymbol
set_option maxRecDepth 20000 in
theorem ggX13_compileFactor_X13_compileTest : GoodIn wsX13_compileFactor wsX13_compileTest := goodIn_r _ [146, 147, 148, 149, 6, 142, 143, 144, 145, 3, 4, 5, 7, 1, 8, 9, 10, 11, 12, 13, 14, 15, 16, 17, 18, 19, 20, 21, 22, 23, 24, 25, 26, 27, 28, 29, 30, 31, 32, 33, 34, 35, 36, 37, 38, 39, 40, 41, 42, 43, 44, 45, 46, 47, 48, 49, 50, 51, 52, 53, 54, 55, 56, 57, 58, 59, 60, 78, 79, 80, 81, 82, 83, 84, 85, 86, 87, 88, 89, 90, 91, 92, 93, 94, 98, 99, 100, 101, 102, 103, 141, 95, 96, 97, 0, 2, 61, 62, 63, 64, 65, 66, 67, 68, 69, 70, 71, 72, 73, 74, 75, 76, 77, 104, 105, 106, 107, 108, 109, 110, 111, 112, 113, 114, 115, 116, 117, 118, 119, 120, 121, 122, 123, 124, 125, 126, 127, 128, 129, 130, 131, 132, 133, 134, 135, 136, 137, 138, 139, 140, 150, 151, 152, 153, 154, 155, 156, 157, 158, 159, 160, 161, 162, 163, 164, 165, 166, 167, 168, 169, 170, 171, 172, 173, 174, 175, 176, 177, 178, 179, 180, 181, 182, 183, 184, 185, 186, 187, 188, 189, 190, 191, 192, 193, 194, 195, 196, 197, 198, 199, 200] (by decide +kernel) (by decide +kernel)
set_option maxRecDepth 20000 in
theorem gX13_compileFactor_X13_compileTest : GoodIn wsX13_compileFactor (wsV RX13 664 RX13 yX13_compileTest wsX13_compileTest) := goodIn_app (goodIn_of _ (by decide +kernel)) ggX13_compileFactor_X13_compileTest
set_option maxRecDepth 20000 in
theorem ggX13_compileFactor_X13_expect : GoodIn wsX13_compileFactor wsX13_expect := goodIn_r _ [114, 104, 105, 106, 6, 107, 1, 8, 11, 10, 65, 66, 67, 68, 69, 70, 71, 72, 73, 74, 75, 76, 77, 78, 79, 80, 81, 9, 82, 83, 84, 85, 86, 87, 88, 89, 90, 91, 92, 93, 94, 150, 151, 152, 153, 154, 155, 156, 157, 158, 159, 160, 161, 162, 163, 164, 165, 166, 167, 168, 169, 170, 171, 172, 173, 174, 175, 176, 177, 178, 179, 180, 181, 182, 183, 184, 185, 186, 187, 188, 189, 190, 191, 192, 193, 194, 195, 196] (by decide +kernel) (by decide +kernel)
set_option maxRecDepth 20000 in
theorem gX13_compileFactor_X13_expect : GoodIn wsX13_compileFactor (wsV RX13 600 RX13 yX13_expect wsX13_expect) := goodIn_app (goodIn_of _ (by decide +kernel)) ggX13_compileFactor_X13_expect
set_option maxRecDepth 20000 in
theorem ggX13_compileFactor_X13_compileValue : GoodIn wsX13_compileFactor wsX13_compileValue := goodIn_r _ [118, 1, 8, 119, 120, 121, 122, 123, 6, 124, 65, 66, 67, 68, 69, 70, 71, 72, 10, 73, 125, 126, 127, 128, 9, 129, 11, 130, 131, 132, 133, 134, 135, 136, 74, 75, 76, 77, 78, 79, 80, 81, 82, 83, 84, 85, 86, 87, 88, 89, 90, 91, 92, 93, 94, 98, 99, 100, 101, 102, 103, 137, 138, 139, 140, 3, 4, 5, 7, 12, 13, 14, 15, 16, 17, 18, 19, 20, 21, 22, 23, 24, 25, 26, 27, 28, 29, 30, 31, 32, 33, 34, 35, 36, 37, 38, 39, 40, 41, 42, 43, 44, 45, 46, 47, 48, 49, 50, 51, 52, 53, 54, 55, 56, 57, 58, 59, 60, 150, 151, 152, 153, 154, 155, 156, 157, 158, 159, 160, 161, 162, 163, 164, 165, 166, 167, 168, 169, 170, 171, 172, 173, 174, 175, 176, 177, 178, 179, 180, 181, 182, 183, 184, 185, 186, 187, 188, 189, 190, 191, 192, 193, 194, 195, 196, 197, 198, 199, 200] (by decide +kernel) (by decide +kernel)
set_option maxRecDepth 20000 in
theorem gX13_compileFactor_X13_compileValue : GoodIn wsX13_compileFactor (wsV RX13 667 RX13 yX13_compileValue wsX13_compileValue) := goodIn_app (goodIn_of _ (by decide +kernel)) ggX13_compileFactor_X13_compileValue
set_option maxRecDepth 20000 in
theorem ggX13_compileFactor_X13_check : GoodIn wsX13_compileFactor wsX13_check := goodIn_r _ [68, 69, 70, 71, 6, 72, 1, 10, 73, 150, 151, 152, 153, 154, 155, 156, 157, 158, 159, 160, 161, 162, 163, 164, 165, 166, 167, 168, 169, 170, 171, 172, 173, 174, 175, 176, 177, 178, 179, 180, 181, 182, 183, 184, 185, 186, 187, 188, 189, 190, 191, 192, 193, 194, 195, 196] (by decide +kernel) (by decide +kernel)
set_option maxRecDepth 20000 in
theorem gX13_compileFactor_X13_check : GoodIn wsX13_compileFactor (wsV RX13 516 RX13 yX13_check wsX13_check) := goodIn_app (goodIn_of _ (by decide +kernel)) ggX13_compileFactor_X13_check
set_option maxRecDepth 20000 in
theorem ggX13_compileFactor_X13_advance : GoodIn wsX13_compileFactor wsX13_advance := goodIn_r _ [77, 1, 78, 79, 80, 6, 81, 9, 10, 82, 8, 83, 84, 85, 86, 11, 87, 88, 89, 90, 91, 92, 93, 94, 150, 151, 152, 153, 154, 155, 156, 157, 158, 159, 160, 161, 162, 163, 164, 165, 166, 167, 168, 169, 170, 171, 172, 173, 174, 175, 176, 177, 178, 179, 180, 181, 182, 183, 184, 185, 186, 187, 188, 189, 190, 191, 192, 193, 194, 195, 196] (by decide +kernel) (by decide +kernel)
set_option maxRecDepth 20000 in
theorem gX13_compileFactor_X13_advance : GoodIn wsX13_compileFactor (wsV RX13 520 RX13 yX13_advance wsX13_advance) := goodIn_app (goodIn_of _ (by decide +kernel)) ggX13_compileFactor_X13_advance
theorem dX13_compileFactor_0 : decode cX13_compileFactor 0 = .ok (.aload_n 0, 1) := by decide +kernel
theorem dX13_compileFactor_1 : decode cX13_compileFactor 1 = .ok (.ldc 173, 2) := by decide +kernel
theorem dX13_compileFactor_3 : decode cX13_compileFactor 3 = .ok (.invokevirtual 512, 3) := by decide +kernel
theorem dX13_compileFactor_6 : decode cX13_compileFactor 6 = .ok (.ifCond .eq 37, 3) := by decide +kernel
theorem dX13_compileFactor_9 : decode cX13_compileFactor 9 = .ok (.aload_n 0, 1) := by decide +kernel
theorem dX13_compileFactor_10 : decode cX13_compileFactor 10 = .ok (.invokevirtual 658, 3) := by decide +kernel
theorem dX13_compileFactor_13 : decode cX13_compileFactor 13 = .ok (.aload_n 0, 1) := by decide +kernel
theorem dX13_compileFactor_14 : decode cX13_compileFactor 14 = .ok (.getfield 490, 3) := by decide +kernel
theorem dX13_compileFactor_17 : decode cX13_compileFactor 17 = .ok (.ifCond .ne 7, 3) := by decide +kernel
theorem dX13_compileFactor_20 : decode cX13_compileFactor 20 = .ok (.aload_n 0, 1) := by decide +kernel
theorem dX13_compileFactor_21 : decode cX13_compileFactor 21 = .ok (.invokevirtual 661, 3) := by decide +kernel
theorem dX13_compileFactor_24 : decode cX13_compileFactor 24 = .ok (.aload_n 0, 1) := by decide +kernel
theorem dX13_compileFactor_25 : decode cX13_compileFactor 25 = .ok (.bipush (-23), 2) := by decide +kernel
theorem dX13_compileFactor_27 : decode cX13_compileFactor 27 = .ok (.invokevirtual 655, 3) := by decide +kernel
theorem dX13_compileFactor_30 : decode cX13_compileFactor 30 = .ok (.aload_n 0, 1) := by decide +kernel
theorem dX13_compileFactor_31 : decode cX13_compileFactor 31 = .ok (.dup, 1) := by decide +kernel
theorem dX13_compileFactor_32 : decode cX13_compileFactor 32 = .ok (.getfield 493, 3) := by decide +kernel
theorem dX13_compileFactor_35 : decode cX13_compileFactor 35 = .ok (.iconst 1, 1) := by decide +kernel
theorem dX13_compileFactor_36 : decode cX13_compileFactor 36 = .ok (.isub, 1) := by decide +kernel
theorem dX13_compileFactor_37 : decode cX13_compileFactor 37 = .ok (.putfield 493, 3) := by decide +kernel
theorem dX13_compileFactor_40 : decode cX13_compileFactor 40 = .ok (.goto 119, 3) := by decide +kernel
theorem dX13_compileFactor_43 : decode cX13_compileFactor 43 = .ok (.aload_n 0, 1) := by decide +kernel
theorem dX13_compileFactor_44 : decode cX13_compileFactor 44 = .ok (.bipush 40, 2) := by decide +kernel
theorem dX13_compileFactor_46 : decode cX13_compileFactor 46 = .ok (.invokevirtual 523, 3) := by decide +kernel
theorem dX13_compileFactor_49 : decode cX13_compileFactor 49 = .ok (.ifCond .eq 37, 3) := by decide +kernel
theorem dX13_compileFactor_52 : decode cX13_compileFactor 52 = .ok (.aload_n 0, 1) := by decide +kernel
theorem dX13_compileFactor_53 : decode cX13_compileFactor 53 = .ok (.invokevirtual 658, 3) := by decide +kernel
theorem dX13_compileFactor_56 : decode cX13_compileFactor 56 = .ok (.aload_n 0, 1) := by decide +kernel
theorem dX13_compileFactor_57 : decode cX13_compileFactor 57 = .ok (.getfield 490, 3) := by decide +kernel
theorem dX13_compileFactor_60 : decode cX13_compileFactor 60 = .ok (.ifCond .ne 7, 3) := by decide +kernel
theorem dX13_compileFactor_63 : decode cX13_compileFactor 63 = .ok (.aload_n 0, 1) := by decide +kernel
theorem dX13_compileFactor_64 : decode cX13_compileFactor 64 = .ok (.invokevirtual 664, 3) := by decide +kernel
theorem dX13_compileFactor_67 : decode cX13_compileFactor 67 = .ok (.aload_n 0, 1) := by decide +kernel
theorem dX13_compileFactor_68 : decode cX13_compileFactor 68 = .ok (.bipush 41, 2) := by decide +kernel
theorem dX13_compileFactor_70 : decode cX13_compileFactor 70 = .ok (.invokevirtual 600, 3) := by decide +kernel
theorem dX13_compileFactor_73 : decode cX13_compileFactor 73 = .ok (.aload_n 0, 1) := by decide +kernel
theorem dX13_compileFactor_74 : decode cX13_compileFactor 74 = .ok (.dup, 1) := by decide +kernel
theorem dX13_compileFactor_75 : decode cX13_compileFactor 75 = .ok (.getfield 493, 3) := by decide +kernel
theorem dX13_compileFactor_78 : decode cX13_compileFactor 78 = .ok (.iconst 1, 1) := by decide +kernel
theorem dX13_compileFactor_79 : decode cX13_compileFactor 79 = .ok (.isub, 1) := by decide +kernel
theorem dX13_compileFactor_80 : decode cX13_compileFactor 80 = .ok (.putfield 493, 3) := by decide +kernel
theorem dX13_compileFactor_83 : decode cX13_compileFactor 83 = .ok (.goto 76, 3) := by decide +kernel
theorem dX13_compileFactor_86 : decode cX13_compileFactor 86 = .ok (.aload_n 0, 1) := by decide +kernel
theorem dX13_compileFactor_87 : decode cX13_compileFactor 87 = .ok (.invokevirtual 667, 3) := by decide +kernel
theorem dX13_compileFactor_90 : decode cX13_compileFactor 90 = .ok (.aload_n 0, 1) := by decide +kernel
theorem dX13_compileFactor_91 : decode cX13_compileFactor 91 = .ok (.bipush 60, 2) := by decide +kernel
theorem dX13_compileFactor_93 : decode cX13_compileFactor 93 = .ok (.invokevirtual 523, 3) := by decide +kernel
theorem dX13_compileFactor_96 : decode cX13_compileFactor 96 = .ok (.ifCond .eq 8, 3) := by decide +kernel
theorem dX13_compileFactor_99 : decode cX13_compileFactor 99 = .ok (.bipush (-20), 2) := by decide +kernel
theorem dX13_compileFactor_101 : decode cX13_compileFactor 101 = .ok (.goto 19, 3) := by decide +kernel
theorem dX13_compileFactor_104 : decode cX13_compileFactor 104 = .ok (.aload_n 0, 1) := by decide +kernel
theorem dX13_compileFactor_105 : decode cX13_compileFactor 105 = .ok (.bipush 61, 2) := by decide +kernel
theorem dX13_compileFactor_107 : decode cX13_compileFactor 107 = .ok (.invokevirtual 523, 3) := by decide +kernel
theorem dX13_compileFactor_110 : decode cX13_compileFactor 110 = .ok (.ifCond .eq 8, 3) := by decide +kernel
theorem dX13_compileFactor_113 : decode cX13_compileFactor 113 = .ok (.bipush (-21), 2) := by decide +kernel
theorem dX13_compileFactor_115 : decode cX13_compileFactor 115 = .ok (.goto 5, 3) := by decide +kernel
theorem dX13_compileFactor_118 : decode cX13_compileFactor 118 = .ok (.bipush (-22), 2) := by decide +kernel
theorem dX13_compileFactor_120 : decode cX13_compileFactor 120 = .ok (.istore_n 1, 1) := by decide +kernel
theorem dX13_compileFactor_121 : decode cX13_compileFactor 121 = .ok (.aload_n 0, 1) := by decide +kernel
theorem dX13_compileFactor_122 : decode cX13_compileFactor 122 = .ok (.iload_n 1, 1) := by decide +kernel
theorem dX13_compileFactor_123 : decode cX13_compileFactor 123 = .ok (.bipush (-22), 2) := by decide +kernel
theorem dX13_compileFactor_125 : decode cX13_compileFactor 125 = .ok (.if_icmp .ne 12, 3) := by decide +kernel
theorem dX13_compileFactor_128 : decode cX13_compileFactor 128 = .ok (.aload_n 0, 1) := by decide +kernel
theorem dX13_compileFactor_129 : decode cX13_compileFactor 129 = .ok (.bipush 62, 2) := by decide +kernel
theorem dX13_compileFactor_131 : decode cX13_compileFactor 131 = .ok (.invokevirtual 523, 3) := by decide +kernel
theorem dX13_compileFactor_134 : decode cX13_compileFactor 134 = .ok (.ifCond .eq 7, 3) := by decide +kernel
theorem dX13_compileFactor_137 : decode cX13_compileFactor 137 = .ok (.iconst 1, 1) := by decide +kernel
theorem dX13_compileFactor_138 : decode cX13_compileFactor 138 = .ok (.goto 4, 3) := by decide +kernel
theorem dX13_compileFactor_141 : decode cX13_compileFactor 141 = .ok (.iconst 0, 1) := by decide +kernel
theorem dX13_compileFactor_142 : decode cX13_compileFactor 142 = .ok (.iconst 1, 1) := by decide +kernel
theorem dX13_compileFactor_143 : decode cX13_compileFactor 143 = .ok (.invokevirtual 516, 3) := by decide +kernel
theorem dX13_compileFactor_146 : decode cX13_compileFactor 146 = .ok (.aload_n 0, 1) := by decide +kernel
theorem dX13_compileFactor_147 : decode cX13_compileFactor 147 = .ok (.invokevirtual 520, 3) := by decide +kernel
theorem dX13_compileFactor_150 : decode cX13_compileFactor 150 = .ok (.aload_n 0, 1) := by decide +kernel
theorem dX13_compileFactor_151 : decode cX13_compileFactor 151 = .ok (.invokevirtual 667, 3) := by decide +kernel
theorem dX13_compileFactor_154 : decode cX13_compileFactor 154 = .ok (.aload_n 0, 1) := by decide +kernel
theorem dX13_compileFactor_155 : decode cX13_compileFactor 155 = .ok (.iload_n 1, 1) := by decide +kernel
theorem dX13_compileFactor_156 : decode cX13_compileFactor 156 = .ok (.invokevirtual 655, 3) := by decide +kernel
theorem dX13_compileFactor_159 : decode cX13_compileFactor 159 = .ok (.return_, 1) := by decide +kernel
set_option maxRecDepth 20000 in
theorem ggX13_compileConjunction_X13_compileFactor : GoodIn wsX13_compileConjunction wsX13_compileFactor := goodIn_r _ [90, 13, 91, 9, 10, 11, 4, 12, 14, 15, 16, 17, 18, 19, 20, 21, 22, 23, 24, 25, 26, 27, 28, 29, 30, 31, 32, 33, 34, 35, 36, 37, 38, 39, 40, 41, 42, 43, 44, 45, 46, 47, 48, 49, 50, 51, 52, 53, 54, 55, 56, 57, 58, 59, 60, 61, 62, 63, 64, 65, 66, 92, 93, 94, 95, 96, 97, 98, 99, 100, 101, 102, 103, 104, 105, 106, 107, 108, 67, 68, 69, 70, 71, 72, 73, 74, 75, 76, 77, 78, 79, 80, 81, 82, 83, 1, 2, 3, 84, 85, 86, 87, 88, 89, 109, 110, 111, 112, 113, 114, 115, 116, 117, 118, 119, 120, 121, 122, 123, 124, 125, 126, 127, 128, 129, 130, 131, 132, 133, 134, 135, 136, 137, 138, 139, 140, 141, 142, 143, 144, 145, 0, 5, 6, 7, 8, 146, 147, 148, 149, 150, 151, 152, 153, 154, 155, 156, 157, 158, 159, 160, 161, 162, 163, 164, 165, 166, 167, 168, 169, 170, 171, 172, 173, 174, 175, 176, 177, 178, 179, 180, 181, 182, 183, 184, 185, 186, 187, 188, 189, 190, 191, 192, 193, 194, 195, 196, 197, 198, 199, 200] (by decide +kernel) (by decide +kernel)
set_option maxRecDepth 20000 in
theorem gX13_compileConjunction_X13_compileFactor : GoodIn wsX13_compileConjunction (wsV RX13 661 RX13 yX13_compileFactor wsX13_compileFactor) := goodIn_app (goodIn_of _ (by decide +kernel)) ggX13_compileConjunction_X13_compileFactor
set_option maxRecDepth 20000 in
theorem ggX13_compileConjunction_X13_accept : GoodIn wsX13_compileConjunction wsX13_accept := goodIn_r _ [8, 9, 10, 11, 4, 12, 13, 14, 15, 16, 17, 18, 19, 20, 21, 22, 23, 24, 25, 26, 27, 28, 29, 30, 31, 32, 33, 34, 35, 36, 37, 38, 39, 40, 41, 42, 43, 44, 45, 46, 47, 48, 49, 50, 51, 52, 53, 54, 55, 56, 57, 58, 59, 60, 61, 62, 63, 64, 65, 66, 67, 68, 69, 70, 71, 72, 73, 74, 75, 76, 77, 78, 79, 80, 81, 82, 83, 150, 151, 152, 153, 154, 155, 156, 157, 158, 159, 160, 161, 162, 163, 164, 165, 166, 167, 168, 169, 170, 171, 172, 173, 174, 175, 176, 177, 178, 179, 180, 181, 182, 183, 184, 185, 186, 187, 188, 189, 190, 191, 192, 193, 194, 195, 196, 197, 198, 199, 200] (by decide +kernel) (by decide +kernel)
set_option maxRecDepth 20000 in
theorem gX13_compileConjunction_X13_accept : GoodIn wsX13_compileConjunction (wsV RX13 552 RX13 yX13_accept wsX13_accept) := goodIn_app (goodIn_of _ (by decide +kernel)) ggX13_compileConjunction_X13_accept
set_option maxRecDepth 20000 in
theorem ggX13_compileConjunction_X13_emit : GoodIn wsX13_compileConjunction wsX13_emit := goodIn_r _ [87, 13, 88, 89, 150, 151, 152, 153, 154, 155, 156, 157, 158, 159, 160, 161, 162, 163, 164, 165, 166, 167, 168, 169, 170, 171, 172, 173, 174, 175, 176, 177, 178, 179, 180, 181, 182, 183, 184, 185, 186, 187, 188, 189, 190, 191, 192, 193, 194, 195, 196] (by decide +kernel) (by decide +kernel)
set_option maxRecDepth 20000 in
theorem gX13_compileConjunction_X13_emit : GoodIn wsX13_compileConjunction (wsV RX13 655 RX13 yX13_emit wsX13_emit) := goodIn_app (goodIn_of _ (by decide +kernel)) ggX13_compileConjunction_X13_emit
theorem dX13_compileConjunction_0 : decode cX13_compileConjunction 0 = .ok (.aload_n 0, 1) := by decide +kernel
theorem dX13_compileConjunction_1 : decode cX13_compileConjunction 1 = .ok (.invokevirtual 661, 3) := by decide +kernel
theorem dX13_compileConjunction_4 : decode cX13_compileConjunction 4 = .ok (.aload_n 0, 1) := by decide +kernel
theorem dX13_compileConjunction_5 : decode cX13_compileConjunction 5 = .ok (.ldc 183, 2) := by decide +kernel
theorem dX13_compileConjunction_7 : decode cX13_compileConjunction 7 = .ok (.invokevirtual 552, 3) := by decide +kernel
theorem dX13_compileConjunction_10 : decode cX13_compileConjunction 10 = .ok (.ifCond .eq 16, 3) := by decide +kernel
theorem dX13_compileConjunction_13 : decode cX13_compileConjunction 13 = .ok (.aload_n 0, 1) := by decide +kernel
theorem dX13_compileConjunction_14 : decode cX13_compileConjunction 14 = .ok (.invokevirtual 661, 3) := by decide +kernel
theorem dX13_compileConjunction_17 : decode cX13_compileConjunction 17 = .ok (.aload_n 0, 1) := by decide +kernel
theorem dX13_compileConjunction_18 : decode cX13_compileConjunction 18 = .ok (.bipush (-24), 2) := by decide +kernel
theorem dX13_compileConjunction_20 : decode cX13_compileConjunction 20 = .ok (.invokevirtual 655, 3) := by decide +kernel
theorem dX13_compileConjunction_23 : decode cX13_compileConjunction 23 = .ok (.goto (-19), 3) := by decide +kernel
theorem dX13_compileConjunction_26 : decode cX13_compileConjunction 26 = .ok (.return_, 1) := by decide +kernel
set_option maxRecDepth 20000 in
theorem ggX13_compileTest_X13_compileConjunction : GoodIn wsX13_compileTest wsX13_compileConjunction := goodIn_r _ [90, 91, 92, 93, 4, 5, 6, 7, 8, 9, 10, 11, 12, 13, 14, 15, 16, 17, 18, 19, 20, 21, 22, 23, 24, 25, 26, 27, 28, 29, 30, 31, 32, 33, 34, 35, 36, 37, 38, 39, 40, 41, 42, 43, 44, 45, 46, 47, 48, 49, 50, 51, 52, 53, 54, 55, 56, 57, 58, 59, 60, 61, 62, 63, 64, 65, 66, 67, 68, 69, 70, 71, 72, 73, 74, 75, 76, 77, 78, 79, 80, 81, 82, 83, 84, 85, 86, 87, 88, 89, 94, 95, 96, 97, 98, 99, 100, 101, 102, 103, 104, 105, 106, 107, 108, 109, 110, 111, 112, 113, 114, 115, 116, 117, 118, 119, 120, 121, 122, 123, 124, 125, 126, 127, 128, 129, 130, 131, 132, 133, 134, 135, 136, 137, 138, 139, 140, 141, 142, 143, 144, 145, 146, 147, 148, 149, 0, 1, 2, 3, 150, 151, 152, 153, 154, 155, 156, 157, 158, 159, 160, 161, 162, 163, 164, 165, 166, 167, 168, 169, 170, 171, 172, 173, 174, 175, 176, 177, 178, 179, 180, 181, 182, 183, 184, 185, 186, 187, 188, 189, 190, 191, 192, 193, 194, 195, 196, 197, 198, 199, 200] (by decide +kernel) (by decide +kernel)
set_option maxRecDepth 20000 in
theorem gX13_compileTest_X13_compileConjunction : GoodIn wsX13_compileTest (wsV RX13 670 RX13 yX13_compileConjunction wsX13_compileConjunction) := goodIn_app (goodIn_of _ (by decide +kernel)) ggX13_compileTest_X13_compileConjunction
set_option maxRecDepth 20000 in
theorem ggX13_compileTest_X13_accept : GoodIn wsX13_compileTest wsX13_accept := goodIn_r _ [8, 9, 10, 11, 4, 12, 13, 14, 15, 16, 17, 18, 19, 20, 21, 22, 23, 24, 25, 26, 27, 28, 29, 30, 31, 32, 33, 34, 35, 36, 37, 38, 39, 40, 41, 42, 43, 44, 45, 46, 47, 48, 49, 50, 51, 52, 53, 54, 55, 56, 57, 58, 59, 60, 61, 62, 63, 64, 65, 66, 67, 68, 69, 70, 71, 72, 73, 74, 75, 76, 77, 78, 79, 80, 81, 82, 83, 150, 151, 152, 153, 154, 155, 156, 157, 158, 159, 160, 161, 162, 163, 164, 165, 166, 167, 168, 169, 170, 171, 172, 173, 174, 175, 176, 177, 178, 179, 180, 181, 182, 183, 184, 185, 186, 187, 188, 189, 190, 191, 192, 193, 194, 195, 196, 197, 198, 199, 200] (by decide +kernel) (by decide +kernel)
set_option maxRecDepth 20000 in
theorem gX13_compileTest_X13_accept : GoodIn wsX13_compileTest (wsV RX13 552 RX13 yX13_accept wsX13_accept) := goodIn_app (goodIn_of _ (by decide +kernel)) ggX13_compileTest_X13_accept
set_option maxRecDepth 20000 in
theorem ggX13_compileTest_X13_emit : GoodIn wsX13_compileTest wsX13_emit := goodIn_r _ [87, 13, 88, 89, 150, 151, 152, 153, 154, 155, 156, 157, 158, 159, 160, 161, 162, 163, 164, 165, 166, 167, 168, 169, 170, 171, 172, 173, 174, 175, 176, 177, 178, 179, 180, 181, 182, 183, 184, 185, 186, 187, 188, 189, 190, 191, 192, 193, 194, 195, 196] (by decide +kernel) (by decide +kernel)
set_option maxRecDepth 20000 in
theorem gX13_compileTest_X13_emit : GoodIn wsX13_compileTest (wsV RX13 655 RX13 yX13_emit wsX13_emit) := goodIn_app (goodIn_of _ (by decide +kernel)) ggX13_compileTest_X13_emit
theorem dX13_compileTest_0 : decode cX13_compileTest 0 = .ok (.aload_n 0, 1) := by decide +kernel
theorem dX13_compileTest_1 : decode cX13_compileTest 1 = .ok (.invokevirtual 670, 3) := by decide +kernel
theorem dX13_compileTest_4 : decode cX13_compileTest 4 = .ok (.aload_n 0, 1) := by decide +kernel
theorem dX13_compileTest_5 : decode cX13_compileTest 5 = .ok (.ldc 181, 2) := by decide +kernel
theorem dX13_compileTest_7 : decode cX13_compileTest 7 = .ok (.invokevirtual 552, 3) := by decide +kernel
theorem dX13_compileTest_10 : decode cX13_compileTest 10 = .ok (.ifCond .eq 16, 3) := by decide +kernel
theorem dX13_compileTest_13 : decode cX13_compileTest 13 = .ok (.aload_n 0, 1) := by decide +kernel
theorem dX13_compileTest_14 : decode cX13_compileTest 14 = .ok (.invokevirtual 670, 3) := by decide +kernel
theorem dX13_compileTest_17 : decode cX13_compileTest 17 = .ok (.aload_n 0, 1) := by decide +kernel
theorem dX13_compileTest_18 : decode cX13_compileTest 18 = .ok (.bipush (-25), 2) := by decide +kernel
theorem dX13_compileTest_20 : decode cX13_compileTest 20 = .ok (.invokevirtual 655, 3) := by decide +kernel
theorem dX13_compileTest_23 : decode cX13_compileTest 23 = .ok (.goto (-19), 3) := by decide +kernel
theorem dX13_compileTest_26 : decode cX13_compileTest 26 = .ok (.return_, 1) := by decide +kernel
theorem dX13_operate_0 : decode cX13_operate 0 = .ok (.iload_n 0, 1) := by decide +kernel
theorem dX13_operate_1 : decode cX13_operate 1 = .ok (.tableswitch 72 (-24) (-20) #[68, 72, 57, 46, 35], 35) := by decide +kernel
theorem dX13_operate_36 : decode cX13_operate 36 = .ok (.iload_n 1, 1) := by decide +kernel
theorem dX13_operate_37 : decode cX13_operate 37 = .ok (.iload_n 2, 1) := by decide +kernel
theorem dX13_operate_38 : decode cX13_operate 38 = .ok (.if_icmp .ge 7, 3) := by decide +kernel
theorem dX13_operate_41 : decode cX13_operate 41 = .ok (.iconst 1, 1) := by decide +kernel
theorem dX13_operate_42 : decode cX13_operate 42 = .ok (.goto 4, 3) := by decide +kernel
theorem dX13_operate_45 : decode cX13_operate 45 = .ok (.iconst 0, 1) := by decide +kernel
theorem dX13_operate_46 : decode cX13_operate 46 = .ok (.ireturn, 1) := by decide +kernel
theorem dX13_operate_47 : decode cX13_operate 47 = .ok (.iload_n 1, 1) := by decide +kernel
theorem dX13_operate_48 : decode cX13_operate 48 = .ok (.iload_n 2, 1) := by decide +kernel
theorem dX13_operate_49 : decode cX13_operate 49 = .ok (.if_icmp .ne 7, 3) := by decide +kernel
theorem dX13_operate_52 : decode cX13_operate 52 = .ok (.iconst 1, 1) := by decide +kernel
theorem dX13_operate_53 : decode cX13_operate 53 = .ok (.goto 4, 3) := by decide +kernel
theorem dX13_operate_56 : decode cX13_operate 56 = .ok (.iconst 0, 1) := by decide +kernel
theorem dX13_operate_57 : decode cX13_operate 57 = .ok (.ireturn, 1) := by decide +kernel
theorem dX13_operate_58 : decode cX13_operate 58 = .ok (.iload_n 1, 1) := by decide +kernel
theorem dX13_operate_59 : decode cX13_operate 59 = .ok (.iload_n 2, 1) := by decide +kernel
theorem dX13_operate_60 : decode cX13_operate 60 = .ok (.if_icmp .le 7, 3) := by decide +kernel
theorem dX13_operate_63 : decode cX13_operate 63 = .ok (.iconst 1, 1) := by decide +kernel
theorem dX13_operate_64 : decode cX13_operate 64 = .ok (.goto 4, 3) := by decide +kernel
theorem dX13_operate_67 : decode cX13_operate 67 = .ok (.iconst 0, 1) := by decide +kernel
theorem dX13_operate_68 : decode cX13_operate 68 = .ok (.ireturn, 1) := by decide +kernel
theorem dX13_operate_69 : decode cX13_operate 69 = .ok (.iload_n 1, 1) := by decide +kernel
theorem dX13_operate_70 : decode cX13_operate 70 = .ok (.iload_n 2, 1) := by decide +kernel
theorem dX13_operate_71 : decode cX13_operate 71 = .ok (.iand, 1) := by decide +kernel
theorem dX13_operate_72 : decode cX13_operate 72 = .ok (.ireturn, 1) := by decide +kernel
theorem dX13_operate_73 : decode cX13_operate 73 = .ok (.iload_n 1, 1) := by decide +kernel
theorem dX13_operate_74 : decode cX13_operate 74 = .ok (.iload_n 2, 1) := by decide +kernel
theorem dX13_operate_75 : decode cX13_operate 75 = .ok (.ior, 1) := by decide +kernel
theorem dX13_operate_76 : decode cX13_operate 76 = .ok (.ireturn, 1) := by decide +kernel
set_option maxRecDepth 20000 in
theorem ggX13_property_X13_of : GoodIn wsX13_property wsX13_of := goodIn_r _ [6, 7, 8, 9, 10, 11, 12, 13, 14, 15, 16, 17, 18, 19, 20, 21, 22, 23, 24, 25, 26, 27, 28, 29, 30, 31, 32, 33, 34, 35, 36, 37, 38, 39, 40, 41, 42, 43, 44, 45, 46, 47, 48, 49, 50, 51, 52, 53, 54] (by decide +kernel) (by decide +kernel)
set_option maxRecDepth 20000 in
theorem gX13_property_X13_of : GoodIn wsX13_property (wsV RX13 238 RX13 yX13_of wsX13_of) := goodIn_app (goodIn_of _ (by decide +kernel)) ggX13_property_X13_of
theorem dX13_property_0 : decode cX13_property 0 = .ok (.iload_n 2, 1) := by decide +kernel
theorem dX13_property_1 : decode cX13_property 1 = .ok (.ifCond .ne 7, 3) := by decide +kernel
theorem dX13_property_4 : decode cX13_property 4 = .ok (.iload_n 1, 1) := by decide +kernel
theorem dX13_property_5 : decode cX13_property 5 = .ok (.goto 14, 3) := by decide +kernel
theorem dX13_property_8 : decode cX13_property 8 = .ok (.aload_n 0, 1) := by decide +kernel
theorem dX13_property_9 : decode cX13_property 9 = .ok (.iload_n 1, 1) := by decide +kernel
theorem dX13_property_10 : decode cX13_property 10 = .ok (.aload_n 0, 1) := by decide +kernel
theorem dX13_property_11 : decode cX13_property 11 = .ok (.getfield 219, 3) := by decide +kernel
theorem dX13_property_14 : decode cX13_property 14 = .ok (.iload_n 2, 1) := by decide +kernel
theorem dX13_property_15 : decode cX13_property 15 = .ok (.iaload, 1) := by decide +kernel
theorem dX13_property_16 : decode cX13_property 16 = .ok (.invokevirtual 238, 3) := by decide +kernel
theorem dX13_property_19 : decode cX13_property 19 = .ok (.ireturn, 1) := by decide +kernel
set_option maxRecDepth 20000 in
theorem ggX13_holdsFor_X13_property : GoodIn wsX13_holdsFor wsX13_property := goodIn_r _ [8, 9, 10, 11, 12, 7, 13, 14, 18, 19, 20, 21, 22, 23, 24, 25, 26, 27, 28, 29, 30, 31, 32, 33, 34, 35, 36, 37, 38, 39, 40, 41, 42, 43, 44, 45, 46, 47, 48, 49, 50, 51, 52, 53, 54, 55, 56, 57, 58, 59, 60, 61, 62, 63, 64] (by decide +kernel) (by decide +kernel)
set_option maxRecDepth 20000 in
theorem gX13_holdsFor_X13_property : GoodIn wsX13_holdsFor (wsV RX13 673 RX13 yX13_property wsX13_property) := goodIn_app (goodIn_of _ (by decide +kernel)) ggX13_holdsFor_X13_property
set_option maxRecDepth 20000 in
theorem ggX13_holdsFor_X13_operate : GoodIn wsX13_holdsFor wsX13_operate := goodIn_r _ [17] (by decide +kernel) (by decide +kernel)
set_option maxRecDepth 20000 in
theorem gX13_holdsFor_X13_operate : GoodIn wsX13_holdsFor (va_wsS RX13 676 yX13_operate wsX13_operate) := goodIn_app (goodIn_of _ (by decide +kernel)) ggX13_holdsFor_X13_operate
theorem dX13_holdsFor_0 : decode cX13_holdsFor 0 = .ok (.iconst 0, 1) := by decide +kernel
theorem dX13_holdsFor_1 : decode cX13_holdsFor 1 = .ok (.istore_n 2, 1) := by decide +kernel
theorem dX13_holdsFor_2 : decode cX13_holdsFor 2 = .ok (.iconst 0, 1) := by decide +kernel
theorem dX13_holdsFor_3 : decode cX13_holdsFor 3 = .ok (.istore_n 3, 1) := by decide +kernel
theorem dX13_holdsFor_4 : decode cX13_holdsFor 4 = .ok (.iload_n 3, 1) := by decide +kernel
theorem dX13_holdsFor_5 : decode cX13_holdsFor 5 = .ok (.aload_n 0, 1) := by decide +kernel
theorem dX13_holdsFor_6 : decode cX13_holdsFor 6 = .ok (.getfield 651, 3) := by decide +kernel
theorem dX13_holdsFor_9 : decode cX13_holdsFor 9 = .ok (.if_icmp .ge 113, 3) := by decide +kernel
theorem dX13_holdsFor_12 : decode cX13_holdsFor 12 = .ok (.aload_n 0, 1) := by decide +kernel
theorem dX13_holdsFor_13 : decode cX13_holdsFor 13 = .ok (.getfield 222, 3) := by decide +kernel
theorem dX13_holdsFor_16 : decode cX13_holdsFor 16 = .ok (.iload_n 3, 1) := by decide +kernel
theorem dX13_holdsFor_17 : decode cX13_holdsFor 17 = .ok (.iaload, 1) := by decide +kernel
theorem dX13_holdsFor_18 : decode cX13_holdsFor 18 = .ok (.istore 4, 2) := by decide +kernel
theorem dX13_holdsFor_20 : decode cX13_holdsFor 20 = .ok (.iload 4, 2) := by decide +kernel
theorem dX13_holdsFor_22 : decode cX13_holdsFor 22 = .ok (.bipush (-23), 2) := by decide +kernel
theorem dX13_holdsFor_24 : decode cX13_holdsFor 24 = .ok (.if_icmp .ne 24, 3) := by decide +kernel
theorem dX13_holdsFor_27 : decode cX13_holdsFor 27 = .ok (.aload_n 0, 1) := by decide +kernel
theorem dX13_holdsFor_28 : decode cX13_holdsFor 28 = .ok (.getfield 225, 3) := by decide +kernel
theorem dX13_holdsFor_31 : decode cX13_holdsFor 31 = .ok (.iload_n 2, 1) := by decide +kernel
theorem dX13_holdsFor_32 : decode cX13_holdsFor 32 = .ok (.iconst 1, 1) := by decide +kernel
theorem dX13_holdsFor_33 : decode cX13_holdsFor 33 = .ok (.isub, 1) := by decide +kernel
theorem dX13_holdsFor_34 : decode cX13_holdsFor 34 = .ok (.iconst 1, 1) := by decide +kernel
theorem dX13_holdsFor_35 : decode cX13_holdsFor 35 = .ok (.aload_n 0, 1) := by decide +kernel
theorem dX13_holdsFor_36 : decode cX13_holdsFor 36 = .ok (.getfield 225, 3) := by decide +kernel
theorem dX13_holdsFor_39 : decode cX13_holdsFor 39 = .ok (.iload_n 2, 1) := by decide +kernel
theorem dX13_holdsFor_40 : decode cX13_holdsFor 40 = .ok (.iconst 1, 1) := by decide +kernel
theorem dX13_holdsFor_41 : decode cX13_holdsFor 41 = .ok (.isub, 1) := by decide +kernel
theorem dX13_holdsFor_42 : decode cX13_holdsFor 42 = .ok (.iaload, 1) := by decide +kernel
theorem dX13_holdsFor_43 : decode cX13_holdsFor 43 = .ok (.isub, 1) := by decide +kernel
theorem dX13_holdsFor_44 : decode cX13_holdsFor 44 = .ok (.iastore, 1) := by decide +kernel
theorem dX13_holdsFor_45 : decode cX13_holdsFor 45 = .ok (.goto 71, 3) := by decide +kernel
theorem dX13_holdsFor_48 : decode cX13_holdsFor 48 = .ok (.iload 4, 2) := by decide +kernel
theorem dX13_holdsFor_50 : decode cX13_holdsFor 50 = .ok (.bipush (-20), 2) := by decide +kernel
theorem dX13_holdsFor_52 : decode cX13_holdsFor 52 = .ok (.if_icmp .le 34, 3) := by decide +kernel
theorem dX13_holdsFor_55 : decode cX13_holdsFor 55 = .ok (.aload_n 0, 1) := by decide +kernel
theorem dX13_holdsFor_56 : decode cX13_holdsFor 56 = .ok (.getfield 225, 3) := by decide +kernel
theorem dX13_holdsFor_59 : decode cX13_holdsFor 59 = .ok (.iload_n 2, 1) := by decide +kernel
theorem dX13_holdsFor_60 : decode cX13_holdsFor 60 = .ok (.iload 4, 2) := by decide +kernel
theorem dX13_holdsFor_62 : decode cX13_holdsFor 62 = .ok (.ifCond .lt 8, 3) := by decide +kernel
theorem dX13_holdsFor_65 : decode cX13_holdsFor 65 = .ok (.iload 4, 2) := by decide +kernel
theorem dX13_holdsFor_67 : decode cX13_holdsFor 67 = .ok (.goto 12, 3) := by decide +kernel
theorem dX13_holdsFor_70 : decode cX13_holdsFor 70 = .ok (.aload_n 0, 1) := by decide +kernel
theorem dX13_holdsFor_71 : decode cX13_holdsFor 71 = .ok (.iload_n 1, 1) := by decide +kernel
theorem dX13_holdsFor_72 : decode cX13_holdsFor 72 = .ok (.iconst (-1), 1) := by decide +kernel
theorem dX13_holdsFor_73 : decode cX13_holdsFor 73 = .ok (.iload 4, 2) := by decide +kernel
theorem dX13_holdsFor_75 : decode cX13_holdsFor 75 = .ok (.isub, 1) := by decide +kernel
theorem dX13_holdsFor_76 : decode cX13_holdsFor 76 = .ok (.invokevirtual 673, 3) := by decide +kernel
theorem dX13_holdsFor_79 : decode cX13_holdsFor 79 = .ok (.iastore, 1) := by decide +kernel
theorem dX13_holdsFor_80 : decode cX13_holdsFor 80 = .ok (.iinc 2 1, 3) := by decide +kernel
theorem dX13_holdsFor_83 : decode cX13_holdsFor 83 = .ok (.goto 33, 3) := by decide +kernel
theorem dX13_holdsFor_86 : decode cX13_holdsFor 86 = .ok (.iinc 2 (-1), 3) := by decide +kernel
theorem dX13_holdsFor_89 : decode cX13_holdsFor 89 = .ok (.aload_n 0, 1) := by decide +kernel
theorem dX13_holdsFor_90 : decode cX13_holdsFor 90 = .ok (.getfield 225, 3) := by decide +kernel
theorem dX13_holdsFor_93 : decode cX13_holdsFor 93 = .ok (.iload_n 2, 1) := by decide +kernel
theorem dX13_holdsFor_94 : decode cX13_holdsFor 94 = .ok (.iconst 1, 1) := by decide +kernel
theorem dX13_holdsFor_95 : decode cX13_holdsFor 95 = .ok (.isub, 1) := by decide +kernel
theorem dX13_holdsFor_96 : decode cX13_holdsFor 96 = .ok (.iload 4, 2) := by decide +kernel
theorem dX13_holdsFor_98 : decode cX13_holdsFor 98 = .ok (.aload_n 0, 1) := by decide +kernel
theorem dX13_holdsFor_99 : decode cX13_holdsFor 99 = .ok (.getfield 225, 3) := by decide +kernel
theorem dX13_holdsFor_102 : decode cX13_holdsFor 102 = .ok (.iload_n 2, 1) := by decide +kernel
theorem dX13_holdsFor_103 : decode cX13_holdsFor 103 = .ok (.iconst 1, 1) := by decide +kernel
theorem dX13_holdsFor_104 : decode cX13_holdsFor 104 = .ok (.isub, 1) := by decide +kernel
theorem dX13_holdsFor_105 : decode cX13_holdsFor 105 = .ok (.iaload, 1) := by decide +kernel
theorem dX13_holdsFor_106 : decode cX13_holdsFor 106 = .ok (.aload_n 0, 1) := by decide +kernel
theorem dX13_holdsFor_107 : decode cX13_holdsFor 107 = .ok (.getfield 225, 3) := by decide +kernel
theorem dX13_holdsFor_110 : decode cX13_holdsFor 110 = .ok (.iload_n 2, 1) := by decide +kernel
theorem dX13_holdsFor_111 : decode cX13_holdsFor 111 = .ok (.iaload, 1) := by decide +kernel
theorem dX13_holdsFor_112 : decode cX13_holdsFor 112 = .ok (.invokestatic 676, 3) := by decide +kernel
theorem dX13_holdsFor_115 : decode cX13_holdsFor 115 = .ok (.iastore, 1) := by decide +kernel
theorem dX13_holdsFor_116 : decode cX13_holdsFor 116 = .ok (.iinc 3 1, 3) := by decide +kernel
theorem dX13_holdsFor_119 : decode cX13_holdsFor 119 = .ok (.goto (-115), 3) := by decide +kernel
theorem dX13_holdsFor_122 : decode cX13_holdsFor 122 = .ok (.aload_n 0, 1) := by decide +kernel
theorem dX13_holdsFor_123 : decode cX13_holdsFor 123 = .ok (.getfield 225, 3) := by decide +kernel
theorem dX13_holdsFor_126 : decode cX13_holdsFor 126 = .ok (.iconst 0, 1) := by decide +kernel
theorem dX13_holdsFor_127 : decode cX13_holdsFor 127 = .ok (.iaload, 1) := by decide +kernel
theorem dX13_holdsFor_128 : decode cX13_holdsFor 128 = .ok (.iconst 1, 1) := by decide +kernel
theorem dX13_holdsFor_129 : decode cX13_holdsFor 129 = .ok (.if_icmp .ne 7, 3) := by decide +kernel
theorem dX13_holdsFor_132 : decode cX13_holdsFor 132 = .ok (.iconst 1, 1) := by decide +kernel
theorem dX13_holdsFor_133 : decode cX13_holdsFor 133 = .ok (.goto 4, 3) := by decide +kernel
theorem dX13_holdsFor_136 : decode cX13_holdsFor 136 = .ok (.iconst 0, 1) := by decide +kernel
theorem dX13_holdsFor_137 : decode cX13_holdsFor 137 = .ok (.ireturn, 1) := by decide +kernel
set_option maxRecDepth 20000 in
theorem ggX13_query_X13_inRange : GoodIn wsX13_query wsX13_inRange := goodIn_r _ [14] (by decide +kernel) (by decide +kernel)
set_option maxRecDepth 20000 in
theorem gX13_query_X13_inRange : GoodIn wsX13_query (va_wsS RX13 245 yX13_inRange wsX13_inRange) := goodIn_app (goodIn_of _ (by decide +kernel)) ggX13_query_X13_inRange
set_option maxRecDepth 20000 in
theorem ggX13_query_X13_raise : GoodIn wsX13_query wsX13_raise := goodIn_r _ [18, 1, 189, 190, 191, 192, 193, 194, 195, 196, 197, 198, 199, 200, 201, 202, 203, 204, 205, 206, 207, 208, 209, 210, 211, 212, 213, 214, 215, 216, 217, 218, 219, 220, 221, 222, 223, 224, 225, 226, 227, 228, 229, 230, 231, 232, 233, 234, 235] (by decide +kernel) (by decide +kernel)
set_option maxRecDepth 20000 in
theorem gX13_query_X13_raise : GoodIn wsX13_query (wsV RX13 259 RX13 yX13_raise wsX13_raise) := goodIn_app (goodIn_of _ (by decide +kernel)) ggX13_query_X13_raise
set_option maxRecDepth 20000 in
theorem ggX13_query_X13_startText : GoodIn wsX13_query wsX13_startText := goodIn_r _ [22, 23, 24, 8, 25, 26, 27, 28, 13, 29, 30, 9, 31, 32, 33, 34, 35, 36, 37, 38, 39, 40, 41, 42, 43, 189, 190, 191, 192, 193, 194, 195, 196, 197, 198, 199, 200, 201, 202, 203, 204, 205, 206, 207, 208, 209, 210, 211, 212, 213, 214, 215, 216, 217, 218, 219, 220, 221, 222, 223, 224, 225, 226, 227, 228, 229, 230, 231, 232, 233, 234, 235] (by decide +kernel) (by decide +kernel)
set_option maxRecDepth 20000 in
theorem gX13_query_X13_startText : GoodIn wsX13_query (wsV RX13 618 RX13 yX13_startText wsX13_startText) := goodIn_app (goodIn_of _ (by decide +kernel)) ggX13_query_X13_startText
set_option maxRecDepth 20000 in
theorem ggX13_query_X13_isWord : GoodIn wsX13_query wsX13_isWord := goodIn_r _ [47, 8, 9, 24, 30, 35, 48, 49, 50, 51, 52, 53, 54, 55, 56, 57, 58, 59, 60, 61, 62, 63, 64, 65, 66, 67, 68, 69, 70, 71, 72, 73, 74, 75, 76, 77, 78, 79, 80, 81, 82, 83, 84, 85, 86, 87, 88, 89, 90, 91, 92, 93, 94, 95, 96, 189, 190, 191, 192, 193, 194, 195, 196, 197, 198, 199, 200, 201, 202, 203, 204, 205, 206, 207, 208, 209, 210, 211, 212, 213, 214, 215, 216, 217, 218, 219, 220, 221, 222, 223, 224, 225, 226, 227, 228, 229, 230, 231, 232, 233, 234, 235, 236, 237, 238, 239] (by decide +kernel) (by decide +kernel)
set_option maxRecDepth 20000 in
theorem gX13_query_X13_isWord : GoodIn wsX13_query (wsV RX13 512 RX13 yX13_isWord wsX13_isWord) := goodIn_app (goodIn_of _ (by decide +kernel)) ggX13_query_X13_isWord
set_option maxRecDepth 20000 in
theorem ggX13_query_X13_check : GoodIn wsX13_query wsX13_check := goodIn_r _ [100, 101, 102, 103, 13, 104, 8, 30, 105, 189, 190, 191, 192, 193, 194, 195, 196, 197, 198, 199, 200, 201, 202, 203, 204, 205, 206, 207, 208, 209, 210, 211, 212, 213, 214, 215, 216, 217, 218, 219, 220, 221, 222, 223, 224, 225, 226, 227, 228, 229, 230, 231, 232, 233, 234, 235] (by decide +kernel) (by decide +kernel)
set_option maxRecDepth 20000 in
theorem gX13_query_X13_check : GoodIn wsX13_query (wsV RX13 516 RX13 yX13_check wsX13_check) := goodIn_app (goodIn_of _ (by decide +kernel)) ggX13_query_X13_check
set_option maxRecDepth 20000 in
theorem ggX13_query_X13_advance : GoodIn wsX13_query wsX13_advance := goodIn_r _ [109, 8, 26, 27, 28, 13, 29, 24, 30, 23, 9, 31, 32, 33, 34, 35, 36, 37, 38, 39, 40, 41, 42, 43, 189, 190, 191, 192, 193, 194, 195, 196, 197, 198, 199, 200, 201, 202, 203, 204, 205, 206, 207, 208, 209, 210, 211, 212, 213, 214, 215, 216, 217, 218, 219, 220, 221, 222, 223, 224, 225, 226, 227, 228, 229, 230, 231, 232, 233, 234, 235] (by decide +kernel) (by decide +kernel)
set_option maxRecDepth 20000 in
theorem gX13_query_X13_advance : GoodIn wsX13_query (wsV RX13 520 RX13 yX13_advance wsX13_advance) := goodIn_app (goodIn_of _ (by decide +kernel)) ggX13_query_X13_advance
set_option maxRecDepth 20000 in
theorem ggX13_query_X13_compileTest : GoodIn wsX13_query wsX13_compileTest := goodIn_r _ [113, 114, 115, 116, 13, 117, 118, 119, 120, 44, 45, 46, 47, 8, 9, 24, 30, 35, 48, 49, 50, 51, 52, 53, 54, 55, 56, 57, 58, 59, 60, 61, 62, 63, 64, 65, 66, 67, 68, 69, 70, 71, 72, 73, 74, 75, 76, 77, 78, 79, 80, 81, 82, 83, 84, 85, 86, 87, 88, 89, 90, 91, 92, 93, 94, 95, 96, 26, 27, 28, 29, 23, 31, 32, 33, 34, 36, 37, 38, 39, 40, 41, 42, 43, 121, 122, 123, 124, 125, 7, 126, 127, 128, 129, 130, 25, 131, 132, 133, 134, 97, 98, 99, 100, 101, 102, 103, 104, 105, 106, 107, 108, 109, 135, 136, 137, 138, 110, 111, 112, 139, 140, 141, 142, 143, 144, 145, 146, 147, 148, 149, 150, 151, 152, 153, 154, 155, 156, 157, 3, 4, 5, 6, 11, 12, 14, 158, 159, 160, 161, 189, 190, 191, 192, 193, 194, 195, 196, 197, 198, 199, 200, 201, 202, 203, 204, 205, 206, 207, 208, 209, 210, 211, 212, 213, 214, 215, 216, 217, 218, 219, 220, 221, 222, 223, 224, 225, 226, 227, 228, 229, 230, 231, 232, 233, 234, 235, 236, 237, 238, 239] (by decide +kernel) (by decide +kernel)
set_option maxRecDepth 20000 in
theorem gX13_query_X13_compileTest : GoodIn wsX13_query (wsV RX13 664 RX13 yX13_compileTest wsX13_compileTest) := goodIn_app (goodIn_of _ (by decide +kernel)) ggX13_query_X13_compileTest
set_option maxRecDepth 20000 in
theorem ggX13_query_X13_finish : GoodIn wsX13_query wsX13_finish := goodIn_r _ [165, 2, 8, 105, 166, 189, 190, 191, 192, 193, 194, 195, 196, 197, 198, 199, 200, 201, 202, 203, 204, 205, 206, 207, 208, 209, 210, 211, 212, 213, 214, 215, 216, 217, 218, 219, 220, 221, 222, 223, 224, 225, 226, 227, 228, 229, 230, 231, 232, 233, 234, 235] (by decide +kernel) (by decide +kernel)
set_option maxRecDepth 20000 in
theorem gX13_query_X13_finish : GoodIn wsX13_query (wsV RX13 627 RX13 yX13_finish wsX13_finish) := goodIn_app (goodIn_of _ (by decide +kernel)) ggX13_query_X13_finish
set_option maxRecDepth 20000 in
theorem ggX13_query_X13_setting : GoodIn wsX13_query wsX13_setting := goodIn_r _ [170, 171, 189, 190, 191, 192, 193, 194, 195, 196, 197, 198, 199, 200, 201, 202, 203, 204, 205, 206, 207, 208, 209, 210, 211, 212, 213, 214, 215, 216, 217, 218, 219, 220, 221, 222, 223, 224, 225, 226, 227, 228, 229, 230, 231, 232, 233, 234, 235] (by decide +kernel) (by decide +kernel)
set_option maxRecDepth 20000 in
theorem gX13_query_X13_setting : GoodIn wsX13_query (wsV RX13 249 RX13 yX13_setting wsX13_setting) := goodIn_app (goodIn_of _ (by decide +kernel)) ggX13_query_X13_setting
set_option maxRecDepth 20000 in
theorem ggX13_query_X13_holdsFor : GoodIn wsX13_query wsX13_holdsFor := goodIn_r _ [175, 7, 125, 176, 177, 178, 179, 13, 180, 181, 182, 183, 184, 185, 171, 186, 187, 188, 189, 190, 191, 192, 193, 194, 195, 196, 197, 198, 199, 200, 201, 202, 203, 204, 205, 206, 207, 208, 209, 210, 211, 212, 213, 214, 215, 216, 217, 218, 219, 220, 221, 222, 223, 224, 225, 226, 227, 228, 229, 230, 231, 232, 233, 234, 235] (by decide +kernel) (by decide +kernel)
set_option maxRecDepth 20000 in
theorem gX13_query_X13_holdsFor : GoodIn wsX13_query (wsV RX13 680 RX13 yX13_holdsFor wsX13_holdsFor) := goodIn_app (goodIn_of _ (by decide +kernel)) ggX13_query_X13_holdsFor
theorem dX13_query_0 : decode cX13_query 0 = .ok (.aload_n 0, 1) := by decide +kernel
theorem dX13_query_1 : decode cX13_query 1 = .ok (.iconst 0, 1) := by decide +kernel
theorem dX13_query_2 : decode cX13_query 2 = .ok (.putfield 231, 3) := by decide +kernel
theorem dX13_query_5 : decode cX13_query 5 = .ok (.iload_n 1, 1) := by decide +kernel
theorem dX13_query_6 : decode cX13_query 6 = .ok (.iconst 0, 1) := by decide +kernel
theorem dX13_query_7 : decode cX13_query 7 = .ok (.aload_n 0, 1) := by decide +kernel
theorem dX13_query_8 : decode cX13_query 8 = .ok (.getfield 466, 3) := by decide +kernel
theorem dX13_query_11 : decode cX13_query 11 = .ok (.sipush 200, 3) := by decide +kernel
theorem dX13_query_14 : decode cX13_query 14 = .ok (.invokestatic 387, 3) := by decide +kernel
theorem dX13_query_17 : decode cX13_query 17 = .ok (.invokestatic 245, 3) := by decide +kernel
theorem dX13_query_20 : decode cX13_query 20 = .ok (.ifCond .ne 9, 3) := by decide +kernel
theorem dX13_query_23 : decode cX13_query 23 = .ok (.aload_n 0, 1) := by decide +kernel
theorem dX13_query_24 : decode cX13_query 24 = .ok (.iconst 1, 1) := by decide +kernel
theorem dX13_query_25 : decode cX13_query 25 = .ok (.invokevirtual 259, 3) := by decide +kernel
theorem dX13_query_28 : decode cX13_query 28 = .ok (.ireturn, 1) := by decide +kernel
theorem dX13_query_29 : decode cX13_query 29 = .ok (.aload_n 0, 1) := by decide +kernel
theorem dX13_query_30 : decode cX13_query 30 = .ok (.iconst 0, 1) := by decide +kernel
theorem dX13_query_31 : decode cX13_query 31 = .ok (.putfield 651, 3) := by decide +kernel
theorem dX13_query_34 : decode cX13_query 34 = .ok (.aload_n 0, 1) := by decide +kernel
theorem dX13_query_35 : decode cX13_query 35 = .ok (.iload_n 1, 1) := by decide +kernel
theorem dX13_query_36 : decode cX13_query 36 = .ok (.invokevirtual 618, 3) := by decide +kernel
theorem dX13_query_39 : decode cX13_query 39 = .ok (.aload_n 0, 1) := by decide +kernel
theorem dX13_query_40 : decode cX13_query 40 = .ok (.ldc 179, 2) := by decide +kernel
theorem dX13_query_42 : decode cX13_query 42 = .ok (.invokevirtual 512, 3) := by decide +kernel
theorem dX13_query_45 : decode cX13_query 45 = .ok (.istore_n 2, 1) := by decide +kernel
theorem dX13_query_46 : decode cX13_query 46 = .ok (.aload_n 0, 1) := by decide +kernel
theorem dX13_query_47 : decode cX13_query 47 = .ok (.iload_n 2, 1) := by decide +kernel
theorem dX13_query_48 : decode cX13_query 48 = .ok (.ifCond .ne 12, 3) := by decide +kernel
theorem dX13_query_51 : decode cX13_query 51 = .ok (.aload_n 0, 1) := by decide +kernel
theorem dX13_query_52 : decode cX13_query 52 = .ok (.ldc 177, 2) := by decide +kernel
theorem dX13_query_54 : decode cX13_query 54 = .ok (.invokevirtual 512, 3) := by decide +kernel
theorem dX13_query_57 : decode cX13_query 57 = .ok (.ifCond .eq 7, 3) := by decide +kernel
theorem dX13_query_60 : decode cX13_query 60 = .ok (.iconst 1, 1) := by decide +kernel
theorem dX13_query_61 : decode cX13_query 61 = .ok (.goto 4, 3) := by decide +kernel
theorem dX13_query_64 : decode cX13_query 64 = .ok (.iconst 0, 1) := by decide +kernel
theorem dX13_query_65 : decode cX13_query 65 = .ok (.iconst 1, 1) := by decide +kernel
theorem dX13_query_66 : decode cX13_query 66 = .ok (.invokevirtual 516, 3) := by decide +kernel
theorem dX13_query_69 : decode cX13_query 69 = .ok (.aload_n 0, 1) := by decide +kernel
theorem dX13_query_70 : decode cX13_query 70 = .ok (.invokevirtual 520, 3) := by decide +kernel
theorem dX13_query_73 : decode cX13_query 73 = .ok (.aload_n 0, 1) := by decide +kernel
theorem dX13_query_74 : decode cX13_query 74 = .ok (.invokevirtual 664, 3) := by decide +kernel
theorem dX13_query_77 : decode cX13_query 77 = .ok (.aload_n 0, 1) := by decide +kernel
theorem dX13_query_78 : decode cX13_query 78 = .ok (.aload_n 0, 1) := by decide +kernel
theorem dX13_query_79 : decode cX13_query 79 = .ok (.getfield 490, 3) := by decide +kernel
theorem dX13_query_82 : decode cX13_query 82 = .ok (.ifCond .ne 10, 3) := by decide +kernel
theorem dX13_query_85 : decode cX13_query 85 = .ok (.aload_n 0, 1) := by decide +kernel
theorem dX13_query_86 : decode cX13_query 86 = .ok (.getfield 481, 3) := by decide +kernel
theorem dX13_query_89 : decode cX13_query 89 = .ok (.ifCond .ne 7, 3) := by decide +kernel
theorem dX13_query_92 : decode cX13_query 92 = .ok (.iconst 1, 1) := by decide +kernel
theorem dX13_query_93 : decode cX13_query 93 = .ok (.goto 4, 3) := by decide +kernel
theorem dX13_query_96 : decode cX13_query 96 = .ok (.iconst 0, 1) := by decide +kernel
theorem dX13_query_97 : decode cX13_query 97 = .ok (.iconst 1, 1) := by decide +kernel
theorem dX13_query_98 : decode cX13_query 98 = .ok (.invokevirtual 516, 3) := by decide +kernel
theorem dX13_query_101 : decode cX13_query 101 = .ok (.aload_n 0, 1) := by decide +kernel
theorem dX13_query_102 : decode cX13_query 102 = .ok (.invokevirtual 627, 3) := by decide +kernel
theorem dX13_query_105 : decode cX13_query 105 = .ok (.ifCond .eq 12, 3) := by decide +kernel
theorem dX13_query_108 : decode cX13_query 108 = .ok (.ldc_w 679, 3) := by decide +kernel
theorem dX13_query_111 : decode cX13_query 111 = .ok (.aload_n 0, 1) := by decide +kernel
theorem dX13_query_112 : decode cX13_query 112 = .ok (.getfield 490, 3) := by decide +kernel
theorem dX13_query_115 : decode cX13_query 115 = .ok (.isub, 1) := by decide +kernel
theorem dX13_query_116 : decode cX13_query 116 = .ok (.ireturn, 1) := by decide +kernel
theorem dX13_query_117 : decode cX13_query 117 = .ok (.iconst 0, 1) := by decide +kernel
