theorem dX11_scanToken_54 : decode cX11_scanToken 54 = .ok (.bipush 10, 2) := by decide +kernel
theorem dX11_scanToken_56 : decode cX11_scanToken 56 = .ok (.imul, 1) := by decide +kernel
theorem dX11_scanToken_57 : decode cX11_scanToken 57 = .ok (.aload_n 0, 1) := by decide +kernel
theorem dX11_scanToken_58 : decode cX11_scanToken 58 = .ok (.getfield 40, 3) := by decide +kernel
theorem dX11_scanToken_61 : decode cX11_scanToken 61 = .ok (.iload_n 3, 1) := by decide +kernel
theorem dX11_scanToken_62 : decode cX11_scanToken 62 = .ok (.baload, 1) := by decide +kernel
theorem dX11_scanToken_63 : decode cX11_scanToken 63 = .ok (.iadd, 1) := by decide +kernel
theorem dX11_scanToken_64 : decode cX11_scanToken 64 = .ok (.bipush 48, 2) := by decide +kernel
theorem dX11_scanToken_66 : decode cX11_scanToken 66 = .ok (.isub, 1) := by decide +kernel
theorem dX11_scanToken_67 : decode cX11_scanToken 67 = .ok (.ldc 92, 2) := by decide +kernel
theorem dX11_scanToken_69 : decode cX11_scanToken 69 = .ok (.invokestatic 48, 3) := by decide +kernel
theorem dX11_scanToken_72 : decode cX11_scanToken 72 = .ok (.istore 4, 2) := by decide +kernel
theorem dX11_scanToken_74 : decode cX11_scanToken 74 = .ok (.iinc 3 1, 3) := by decide +kernel
theorem dX11_scanToken_77 : decode cX11_scanToken 77 = .ok (.goto (-42), 3) := by decide +kernel
theorem dX11_scanToken_80 : decode cX11_scanToken 80 = .ok (.aload_n 0, 1) := by decide +kernel
theorem dX11_scanToken_81 : decode cX11_scanToken 81 = .ok (.getfield 40, 3) := by decide +kernel
theorem dX11_scanToken_84 : decode cX11_scanToken 84 = .ok (.iload_n 1, 1) := by decide +kernel
theorem dX11_scanToken_85 : decode cX11_scanToken 85 = .ok (.baload, 1) := by decide +kernel
theorem dX11_scanToken_86 : decode cX11_scanToken 86 = .ok (.invokestatic 93, 3) := by decide +kernel
theorem dX11_scanToken_89 : decode cX11_scanToken 89 = .ok (.ifCond .eq 43, 3) := by decide +kernel
theorem dX11_scanToken_92 : decode cX11_scanToken 92 = .ok (.iload_n 3, 1) := by decide +kernel
theorem dX11_scanToken_93 : decode cX11_scanToken 93 = .ok (.iload_n 2, 1) := by decide +kernel
theorem dX11_scanToken_94 : decode cX11_scanToken 94 = .ok (.if_icmp .ge 21, 3) := by decide +kernel
theorem dX11_scanToken_97 : decode cX11_scanToken 97 = .ok (.aload_n 0, 1) := by decide +kernel
theorem dX11_scanToken_98 : decode cX11_scanToken 98 = .ok (.getfield 40, 3) := by decide +kernel
theorem dX11_scanToken_101 : decode cX11_scanToken 101 = .ok (.iload_n 3, 1) := by decide +kernel
theorem dX11_scanToken_102 : decode cX11_scanToken 102 = .ok (.baload, 1) := by decide +kernel
theorem dX11_scanToken_103 : decode cX11_scanToken 103 = .ok (.invokestatic 93, 3) := by decide +kernel
theorem dX11_scanToken_106 : decode cX11_scanToken 106 = .ok (.ifCond .eq 9, 3) := by decide +kernel
theorem dX11_scanToken_109 : decode cX11_scanToken 109 = .ok (.iinc 3 1, 3) := by decide +kernel
theorem dX11_scanToken_112 : decode cX11_scanToken 112 = .ok (.goto (-20), 3) := by decide +kernel
theorem dX11_scanToken_115 : decode cX11_scanToken 115 = .ok (.aload_n 0, 1) := by decide +kernel
theorem dX11_scanToken_116 : decode cX11_scanToken 116 = .ok (.getfield 40, 3) := by decide +kernel
theorem dX11_scanToken_119 : decode cX11_scanToken 119 = .ok (.iload_n 1, 1) := by decide +kernel
theorem dX11_scanToken_120 : decode cX11_scanToken 120 = .ok (.iload_n 3, 1) := by decide +kernel
theorem dX11_scanToken_121 : decode cX11_scanToken 121 = .ok (.getstatic 96, 3) := by decide +kernel
theorem dX11_scanToken_124 : decode cX11_scanToken 124 = .ok (.invokestatic 99, 3) := by decide +kernel
theorem dX11_scanToken_127 : decode cX11_scanToken 127 = .ok (.astore 5, 2) := by decide +kernel
theorem dX11_scanToken_129 : decode cX11_scanToken 129 = .ok (.goto 17, 3) := by decide +kernel
theorem dX11_scanToken_132 : decode cX11_scanToken 132 = .ok (.aload_n 0, 1) := by decide +kernel
theorem dX11_scanToken_133 : decode cX11_scanToken 133 = .ok (.getfield 40, 3) := by decide +kernel
theorem dX11_scanToken_136 : decode cX11_scanToken 136 = .ok (.iload_n 1, 1) := by decide +kernel
theorem dX11_scanToken_137 : decode cX11_scanToken 137 = .ok (.iload_n 3, 1) := by decide +kernel
theorem dX11_scanToken_138 : decode cX11_scanToken 138 = .ok (.getstatic 103, 3) := by decide +kernel
theorem dX11_scanToken_141 : decode cX11_scanToken 141 = .ok (.invokestatic 99, 3) := by decide +kernel
theorem dX11_scanToken_144 : decode cX11_scanToken 144 = .ok (.astore 5, 2) := by decide +kernel
theorem dX11_scanToken_146 : decode cX11_scanToken 146 = .ok (.aload_n 0, 1) := by decide +kernel
theorem dX11_scanToken_147 : decode cX11_scanToken 147 = .ok (.getfield 11, 3) := by decide +kernel
theorem dX11_scanToken_150 : decode cX11_scanToken 150 = .ok (.aload_n 0, 1) := by decide +kernel
theorem dX11_scanToken_151 : decode cX11_scanToken 151 = .ok (.getfield 27, 3) := by decide +kernel
theorem dX11_scanToken_154 : decode cX11_scanToken 154 = .ok (.aload 5, 2) := by decide +kernel
theorem dX11_scanToken_156 : decode cX11_scanToken 156 = .ok (.aastore, 1) := by decide +kernel
theorem dX11_scanToken_157 : decode cX11_scanToken 157 = .ok (.aload_n 0, 1) := by decide +kernel
theorem dX11_scanToken_158 : decode cX11_scanToken 158 = .ok (.getfield 17, 3) := by decide +kernel
theorem dX11_scanToken_161 : decode cX11_scanToken 161 = .ok (.aload_n 0, 1) := by decide +kernel
theorem dX11_scanToken_162 : decode cX11_scanToken 162 = .ok (.getfield 27, 3) := by decide +kernel
theorem dX11_scanToken_165 : decode cX11_scanToken 165 = .ok (.iload_n 1, 1) := by decide +kernel
theorem dX11_scanToken_166 : decode cX11_scanToken 166 = .ok (.iastore, 1) := by decide +kernel
theorem dX11_scanToken_167 : decode cX11_scanToken 167 = .ok (.aload_n 0, 1) := by decide +kernel
theorem dX11_scanToken_168 : decode cX11_scanToken 168 = .ok (.getfield 21, 3) := by decide +kernel
theorem dX11_scanToken_171 : decode cX11_scanToken 171 = .ok (.aload_n 0, 1) := by decide +kernel
theorem dX11_scanToken_172 : decode cX11_scanToken 172 = .ok (.getfield 27, 3) := by decide +kernel
theorem dX11_scanToken_175 : decode cX11_scanToken 175 = .ok (.iload_n 3, 1) := by decide +kernel
theorem dX11_scanToken_176 : decode cX11_scanToken 176 = .ok (.iastore, 1) := by decide +kernel
theorem dX11_scanToken_177 : decode cX11_scanToken 177 = .ok (.aload_n 0, 1) := by decide +kernel
theorem dX11_scanToken_178 : decode cX11_scanToken 178 = .ok (.getfield 24, 3) := by decide +kernel
theorem dX11_scanToken_181 : decode cX11_scanToken 181 = .ok (.aload_n 0, 1) := by decide +kernel
theorem dX11_scanToken_182 : decode cX11_scanToken 182 = .ok (.getfield 27, 3) := by decide +kernel
theorem dX11_scanToken_185 : decode cX11_scanToken 185 = .ok (.iload 4, 2) := by decide +kernel
theorem dX11_scanToken_187 : decode cX11_scanToken 187 = .ok (.iastore, 1) := by decide +kernel
theorem dX11_scanToken_188 : decode cX11_scanToken 188 = .ok (.aload_n 0, 1) := by decide +kernel
theorem dX11_scanToken_189 : decode cX11_scanToken 189 = .ok (.dup, 1) := by decide +kernel
theorem dX11_scanToken_190 : decode cX11_scanToken 190 = .ok (.getfield 27, 3) := by decide +kernel
theorem dX11_scanToken_193 : decode cX11_scanToken 193 = .ok (.iconst 1, 1) := by decide +kernel
theorem dX11_scanToken_194 : decode cX11_scanToken 194 = .ok (.iadd, 1) := by decide +kernel
theorem dX11_scanToken_195 : decode cX11_scanToken 195 = .ok (.putfield 27, 3) := by decide +kernel
theorem dX11_scanToken_198 : decode cX11_scanToken 198 = .ok (.iload_n 3, 1) := by decide +kernel
theorem dX11_scanToken_199 : decode cX11_scanToken 199 = .ok (.ireturn, 1) := by decide +kernel
theorem dX11_isLetter_0 : decode cX11_isLetter 0 = .ok (.iload_n 0, 1) := by decide +kernel
theorem dX11_isLetter_1 : decode cX11_isLetter 1 = .ok (.bipush 97, 2) := by decide +kernel
theorem dX11_isLetter_3 : decode cX11_isLetter 3 = .ok (.if_icmp .lt 13, 3) := by decide +kernel
theorem dX11_isLetter_6 : decode cX11_isLetter 6 = .ok (.iload_n 0, 1) := by decide +kernel
theorem dX11_isLetter_7 : decode cX11_isLetter 7 = .ok (.bipush 122, 2) := by decide +kernel
theorem dX11_isLetter_9 : decode cX11_isLetter 9 = .ok (.if_icmp .gt 7, 3) := by decide +kernel
theorem dX11_isLetter_12 : decode cX11_isLetter 12 = .ok (.iconst 1, 1) := by decide +kernel
theorem dX11_isLetter_13 : decode cX11_isLetter 13 = .ok (.goto 4, 3) := by decide +kernel
theorem dX11_isLetter_16 : decode cX11_isLetter 16 = .ok (.iconst 0, 1) := by decide +kernel
theorem dX11_isLetter_17 : decode cX11_isLetter 17 = .ok (.ireturn, 1) := by decide +kernel
theorem dX11_isDigit_0 : decode cX11_isDigit 0 = .ok (.iload_n 0, 1) := by decide +kernel
theorem dX11_isDigit_1 : decode cX11_isDigit 1 = .ok (.bipush 48, 2) := by decide +kernel
theorem dX11_isDigit_3 : decode cX11_isDigit 3 = .ok (.if_icmp .lt 13, 3) := by decide +kernel
theorem dX11_isDigit_6 : decode cX11_isDigit 6 = .ok (.iload_n 0, 1) := by decide +kernel
theorem dX11_isDigit_7 : decode cX11_isDigit 7 = .ok (.bipush 57, 2) := by decide +kernel
theorem dX11_isDigit_9 : decode cX11_isDigit 9 = .ok (.if_icmp .gt 7, 3) := by decide +kernel
theorem dX11_isDigit_12 : decode cX11_isDigit 12 = .ok (.iconst 1, 1) := by decide +kernel
theorem dX11_isDigit_13 : decode cX11_isDigit 13 = .ok (.goto 4, 3) := by decide +kernel
theorem dX11_isDigit_16 : decode cX11_isDigit 16 = .ok (.iconst 0, 1) := by decide +kernel
theorem dX11_isDigit_17 : decode cX11_isDigit 17 = .ok (.ireturn, 1) := by decide +kernel
set_option maxRecDepth 20000 in
theorem ggX12_init_X11_init : GoodIn wsX12_init wsX11_init := goodIn_r _ [45, 46, 2, 3, 47, 48, 49, 50, 51, 52, 53, 54, 55, 56, 57, 58, 258, 259, 260, 261, 262, 263, 264, 265, 266] (by decide +kernel) (by decide +kernel)
set_option maxRecDepth 20000 in
theorem gX12_init_X11_init : GoodIn wsX12_init (wsX11_init) := ggX12_init_X11_init
set_option maxRecDepth 20000 in
theorem ggX12_init_X4_init : GoodIn wsX12_init wsX4_init := goodIn_r _ [61, 62, 2, 3, 63, 64, 65, 66, 67, 68, 69, 70, 71, 72, 73, 74, 75, 76, 77, 78, 79, 80, 81, 82, 83, 84, 85, 86, 87, 88, 89, 90, 91, 92, 93, 94, 95, 96, 97, 98, 99, 100, 101, 102, 103, 104, 105, 106, 107, 108, 109, 110, 111, 112, 113, 267, 268, 269, 270, 271, 307, 308, 309, 310, 311, 312, 313, 314, 315, 316, 317, 318, 319, 320, 321, 322, 323, 324, 325, 326, 327, 328, 329, 330, 331, 332, 333, 334] (by decide +kernel) (by decide +kernel)
set_option maxRecDepth 20000 in
theorem gX12_init_X4_init : GoodIn wsX12_init (wsX4_init) := ggX12_init_X4_init
set_option maxRecDepth 20000 in
theorem ggX12_init_X5_init : GoodIn wsX12_init wsX5_init := goodIn_r _ [116, 117, 2, 3, 118, 119, 49, 120, 121, 122, 123, 272, 273, 274, 275, 276, 277] (by decide +kernel) (by decide +kernel)
set_option maxRecDepth 20000 in
theorem gX12_init_X5_init : GoodIn wsX12_init (wsX5_init) := ggX12_init_X5_init
set_option maxRecDepth 20000 in
theorem ggX12_init_X3_init : GoodIn wsX12_init wsX3_init := goodIn_r _ [126, 127, 2, 3, 49, 128, 129, 130, 131, 132, 133, 134, 135, 136, 137, 138, 139, 140, 141, 142, 143, 144, 145, 146, 147, 148, 149, 150, 151, 152, 278, 279, 280, 281, 282, 283, 284, 285, 286, 287, 288, 289, 290, 291, 335, 336, 337, 338, 339, 340, 341, 342, 343, 344, 345, 346, 347, 348, 349, 350, 351, 352] (by decide +kernel) (by decide +kernel)
set_option maxRecDepth 20000 in
theorem gX12_init_X3_init : GoodIn wsX12_init (wsX3_init) := ggX12_init_X3_init
set_option maxRecDepth 20000 in
theorem ggX12_init_X9_init : GoodIn wsX12_init wsX9_init := goodIn_r _ [155, 156, 2, 3, 157, 158, 292, 293, 294, 295, 296, 297, 298] (by decide +kernel) (by decide +kernel)
set_option maxRecDepth 20000 in
theorem gX12_init_X9_init : GoodIn wsX12_init (wsX9_init) := ggX12_init_X9_init
set_option maxRecDepth 20000 in
theorem ggX12_init_X6_init : GoodIn wsX12_init wsX6_init := goodIn_r _ [161, 162, 2, 3, 49, 163, 164, 165, 166, 299, 300, 301, 302] (by decide +kernel) (by decide +kernel)
set_option maxRecDepth 20000 in
theorem gX12_init_X6_init : GoodIn wsX12_init (wsX6_init) := ggX12_init_X6_init
set_option maxRecDepth 20000 in
theorem ggX12_init_J4_init_da8c8 : GoodIn wsX12_init wsJ4_init_da8c8 := goodIn_r _ [169, 170, 171, 172, 173, 174, 2, 3, 175, 4, 176, 177, 178, 179, 180, 181, 182, 183, 184, 185, 303, 304, 305, 306] (by decide +kernel) (by decide +kernel)
set_option maxRecDepth 20000 in
theorem gX12_init_J4_init_da8c8 : GoodIn wsX12_init (wsJ4_init_da8c8) := ggX12_init_J4_init_da8c8
set_option maxRecDepth 20000 in
theorem ggX12_init_X3_begin : GoodIn wsX12_init wsX3_begin := goodIn_r _ [189, 190, 191, 192, 193, 194, 195, 196, 128, 130, 197, 198, 199, 133, 134, 200, 201, 202, 136, 203, 204, 145, 205, 206, 207, 208, 209, 210, 211, 212, 213, 214, 215, 216, 217, 218, 219, 220, 143, 221, 144, 222, 223, 224, 142, 225, 149, 151, 226, 227, 228, 229, 230, 231, 232, 150, 233, 234, 235, 73, 236, 113, 237, 238, 239, 23, 240, 278, 279, 280, 281, 282, 283, 284, 285, 286, 287, 288, 289, 290, 291, 267, 268, 269, 270, 271, 335, 336, 337, 338, 339, 340, 341, 342, 343, 344, 345, 346, 347, 348, 315, 316, 317, 318, 319, 320, 321, 322, 323, 324, 325, 326, 327, 328, 329, 330, 331, 332, 333, 334, 349, 350, 351, 352] (by decide +kernel) (by decide +kernel)
set_option maxRecDepth 20000 in
theorem gX12_init_X3_begin : GoodIn wsX12_init (wsV RX12 100 RX3 yX3_begin wsX3_begin) := goodIn_app (goodIn_of _ (by decide +kernel)) ggX12_init_X3_begin
theorem dX12_init_0 : decode cX12_init 0 = .ok (.aload_n 0, 1) := by decide +kernel
theorem dX12_init_1 : decode cX12_init 1 = .ok (.invokespecial 1, 3) := by decide +kernel
theorem dX12_init_4 : decode cX12_init 4 = .ok (.aload_n 0, 1) := by decide +kernel
theorem dX12_init_5 : decode cX12_init 5 = .ok (.sipush 1000, 3) := by decide +kernel
theorem dX12_init_8 : decode cX12_init 8 = .ok (.newarray .byte, 2) := by decide +kernel
theorem dX12_init_10 : decode cX12_init 10 = .ok (.putfield 9, 3) := by decide +kernel
theorem dX12_init_13 : decode cX12_init 13 = .ok (.aload_n 0, 1) := by decide +kernel
theorem dX12_init_14 : decode cX12_init 14 = .ok (.iconst 0, 1) := by decide +kernel
theorem dX12_init_15 : decode cX12_init 15 = .ok (.putfield 13, 3) := by decide +kernel
theorem dX12_init_18 : decode cX12_init 18 = .ok (.aload_n 0, 1) := by decide +kernel
theorem dX12_init_19 : decode cX12_init 19 = .ok (.iconst (-1), 1) := by decide +kernel
theorem dX12_init_20 : decode cX12_init 20 = .ok (.putfield 17, 3) := by decide +kernel
theorem dX12_init_23 : decode cX12_init 23 = .ok (.aload_n 0, 1) := by decide +kernel
theorem dX12_init_24 : decode cX12_init 24 = .ok (.new 20, 3) := by decide +kernel
theorem dX12_init_27 : decode cX12_init 27 = .ok (.dup, 1) := by decide +kernel
theorem dX12_init_28 : decode cX12_init 28 = .ok (.aload_n 0, 1) := by decide +kernel
theorem dX12_init_29 : decode cX12_init 29 = .ok (.getfield 9, 3) := by decide +kernel
theorem dX12_init_32 : decode cX12_init 32 = .ok (.invokespecial 22, 3) := by decide +kernel
theorem dX12_init_35 : decode cX12_init 35 = .ok (.putfield 25, 3) := by decide +kernel
theorem dX12_init_38 : decode cX12_init 38 = .ok (.aload_n 0, 1) := by decide +kernel
theorem dX12_init_39 : decode cX12_init 39 = .ok (.new 29, 3) := by decide +kernel
theorem dX12_init_42 : decode cX12_init 42 = .ok (.dup, 1) := by decide +kernel
theorem dX12_init_43 : decode cX12_init 43 = .ok (.invokespecial 31, 3) := by decide +kernel
theorem dX12_init_46 : decode cX12_init 46 = .ok (.putfield 32, 3) := by decide +kernel
theorem dX12_init_49 : decode cX12_init 49 = .ok (.aload_n 0, 1) := by decide +kernel
theorem dX12_init_50 : decode cX12_init 50 = .ok (.new 29, 3) := by decide +kernel
theorem dX12_init_53 : decode cX12_init 53 = .ok (.dup, 1) := by decide +kernel
theorem dX12_init_54 : decode cX12_init 54 = .ok (.invokespecial 31, 3) := by decide +kernel
theorem dX12_init_57 : decode cX12_init 57 = .ok (.putfield 36, 3) := by decide +kernel
theorem dX12_init_60 : decode cX12_init 60 = .ok (.aload_n 0, 1) := by decide +kernel
theorem dX12_init_61 : decode cX12_init 61 = .ok (.new 39, 3) := by decide +kernel
theorem dX12_init_64 : decode cX12_init 64 = .ok (.dup, 1) := by decide +kernel
theorem dX12_init_65 : decode cX12_init 65 = .ok (.aload_n 0, 1) := by decide +kernel
theorem dX12_init_66 : decode cX12_init 66 = .ok (.getfield 25, 3) := by decide +kernel
theorem dX12_init_69 : decode cX12_init 69 = .ok (.aload_n 0, 1) := by decide +kernel
theorem dX12_init_70 : decode cX12_init 70 = .ok (.getfield 36, 3) := by decide +kernel
theorem dX12_init_73 : decode cX12_init 73 = .ok (.invokespecial 41, 3) := by decide +kernel
theorem dX12_init_76 : decode cX12_init 76 = .ok (.putfield 44, 3) := by decide +kernel
theorem dX12_init_79 : decode cX12_init 79 = .ok (.aload_n 0, 1) := by decide +kernel
theorem dX12_init_80 : decode cX12_init 80 = .ok (.new 48, 3) := by decide +kernel
theorem dX12_init_83 : decode cX12_init 83 = .ok (.dup, 1) := by decide +kernel
theorem dX12_init_84 : decode cX12_init 84 = .ok (.invokespecial 50, 3) := by decide +kernel
theorem dX12_init_87 : decode cX12_init 87 = .ok (.putfield 51, 3) := by decide +kernel
theorem dX12_init_90 : decode cX12_init 90 = .ok (.aload_n 0, 1) := by decide +kernel
theorem dX12_init_91 : decode cX12_init 91 = .ok (.new 48, 3) := by decide +kernel
theorem dX12_init_94 : decode cX12_init 94 = .ok (.dup, 1) := by decide +kernel
theorem dX12_init_95 : decode cX12_init 95 = .ok (.invokespecial 50, 3) := by decide +kernel
theorem dX12_init_98 : decode cX12_init 98 = .ok (.putfield 55, 3) := by decide +kernel
theorem dX12_init_101 : decode cX12_init 101 = .ok (.aload_n 0, 1) := by decide +kernel
theorem dX12_init_102 : decode cX12_init 102 = .ok (.new 58, 3) := by decide +kernel
theorem dX12_init_105 : decode cX12_init 105 = .ok (.dup, 1) := by decide +kernel
theorem dX12_init_106 : decode cX12_init 106 = .ok (.aload_n 0, 1) := by decide +kernel
theorem dX12_init_107 : decode cX12_init 107 = .ok (.getfield 32, 3) := by decide +kernel
theorem dX12_init_110 : decode cX12_init 110 = .ok (.aload_n 0, 1) := by decide +kernel
theorem dX12_init_111 : decode cX12_init 111 = .ok (.getfield 51, 3) := by decide +kernel
theorem dX12_init_114 : decode cX12_init 114 = .ok (.invokespecial 60, 3) := by decide +kernel
theorem dX12_init_117 : decode cX12_init 117 = .ok (.putfield 63, 3) := by decide +kernel
theorem dX12_init_120 : decode cX12_init 120 = .ok (.aload_n 0, 1) := by decide +kernel
theorem dX12_init_121 : decode cX12_init 121 = .ok (.new 67, 3) := by decide +kernel
theorem dX12_init_124 : decode cX12_init 124 = .ok (.dup, 1) := by decide +kernel
theorem dX12_init_125 : decode cX12_init 125 = .ok (.aload_n 0, 1) := by decide +kernel
theorem dX12_init_126 : decode cX12_init 126 = .ok (.getfield 25, 3) := by decide +kernel
theorem dX12_init_129 : decode cX12_init 129 = .ok (.aload_n 0, 1) := by decide +kernel
theorem dX12_init_130 : decode cX12_init 130 = .ok (.getfield 51, 3) := by decide +kernel
theorem dX12_init_133 : decode cX12_init 133 = .ok (.invokespecial 69, 3) := by decide +kernel
theorem dX12_init_136 : decode cX12_init 136 = .ok (.putfield 72, 3) := by decide +kernel
theorem dX12_init_139 : decode cX12_init 139 = .ok (.aload_n 0, 1) := by decide +kernel
theorem dX12_init_140 : decode cX12_init 140 = .ok (.new 48, 3) := by decide +kernel
theorem dX12_init_143 : decode cX12_init 143 = .ok (.dup, 1) := by decide +kernel
theorem dX12_init_144 : decode cX12_init 144 = .ok (.invokespecial 50, 3) := by decide +kernel
theorem dX12_init_147 : decode cX12_init 147 = .ok (.putfield 76, 3) := by decide +kernel
theorem dX12_init_150 : decode cX12_init 150 = .ok (.aload_n 0, 1) := by decide +kernel
theorem dX12_init_151 : decode cX12_init 151 = .ok (.iconst 0, 1) := by decide +kernel
theorem dX12_init_152 : decode cX12_init 152 = .ok (.putfield 79, 3) := by decide +kernel
theorem dX12_init_155 : decode cX12_init 155 = .ok (.aload_n 0, 1) := by decide +kernel
theorem dX12_init_156 : decode cX12_init 156 = .ok (.bipush 10, 2) := by decide +kernel
theorem dX12_init_158 : decode cX12_init 158 = .ok (.anewarray 48, 3) := by decide +kernel
theorem dX12_init_161 : decode cX12_init 161 = .ok (.putfield 83, 3) := by decide +kernel
theorem dX12_init_164 : decode cX12_init 164 = .ok (.aload_n 0, 1) := by decide +kernel
theorem dX12_init_165 : decode cX12_init 165 = .ok (.iconst 0, 1) := by decide +kernel
theorem dX12_init_166 : decode cX12_init 166 = .ok (.putfield 87, 3) := by decide +kernel
theorem dX12_init_169 : decode cX12_init 169 = .ok (.aload_n 0, 1) := by decide +kernel
theorem dX12_init_170 : decode cX12_init 170 = .ok (.iconst 0, 1) := by decide +kernel
theorem dX12_init_171 : decode cX12_init 171 = .ok (.putfield 90, 3) := by decide +kernel
theorem dX12_init_174 : decode cX12_init 174 = .ok (.aload_n 0, 1) := by decide +kernel
theorem dX12_init_175 : decode cX12_init 175 = .ok (.new 93, 3) := by decide +kernel
theorem dX12_init_178 : decode cX12_init 178 = .ok (.dup, 1) := by decide +kernel
theorem dX12_init_179 : decode cX12_init 179 = .ok (.invokespecial 95, 3) := by decide +kernel
theorem dX12_init_182 : decode cX12_init 182 = .ok (.putfield 96, 3) := by decide +kernel
theorem dX12_init_185 : decode cX12_init 185 = .ok (.iconst 0, 1) := by decide +kernel
theorem dX12_init_186 : decode cX12_init 186 = .ok (.istore_n 1, 1) := by decide +kernel
theorem dX12_init_187 : decode cX12_init 187 = .ok (.iload_n 1, 1) := by decide +kernel
theorem dX12_init_188 : decode cX12_init 188 = .ok (.bipush 10, 2) := by decide +kernel
theorem dX12_init_190 : decode cX12_init 190 = .ok (.if_icmp .ge 22, 3) := by decide +kernel
theorem dX12_init_193 : decode cX12_init 193 = .ok (.aload_n 0, 1) := by decide +kernel
theorem dX12_init_194 : decode cX12_init 194 = .ok (.getfield 83, 3) := by decide +kernel
theorem dX12_init_197 : decode cX12_init 197 = .ok (.iload_n 1, 1) := by decide +kernel
theorem dX12_init_198 : decode cX12_init 198 = .ok (.new 48, 3) := by decide +kernel
theorem dX12_init_201 : decode cX12_init 201 = .ok (.dup, 1) := by decide +kernel
theorem dX12_init_202 : decode cX12_init 202 = .ok (.invokespecial 50, 3) := by decide +kernel
theorem dX12_init_205 : decode cX12_init 205 = .ok (.aastore, 1) := by decide +kernel
theorem dX12_init_206 : decode cX12_init 206 = .ok (.iinc 1 1, 3) := by decide +kernel
theorem dX12_init_209 : decode cX12_init 209 = .ok (.goto (-22), 3) := by decide +kernel
theorem dX12_init_212 : decode cX12_init 212 = .ok (.aload_n 0, 1) := by decide +kernel
theorem dX12_init_213 : decode cX12_init 213 = .ok (.getfield 51, 3) := by decide +kernel
theorem dX12_init_216 : decode cX12_init 216 = .ok (.aload_n 0, 1) := by decide +kernel
theorem dX12_init_217 : decode cX12_init 217 = .ok (.getfield 32, 3) := by decide +kernel
theorem dX12_init_220 : decode cX12_init 220 = .ok (.invokevirtual 100, 3) := by decide +kernel
theorem dX12_init_223 : decode cX12_init 223 = .ok (.return_, 1) := by decide +kernel
set_option maxRecDepth 20000 in
theorem ggX12_feed_X12_appendBytes : GoodIn wsX12_feed wsX12_appendBytes := goodIn_r _ [6, 1, 7, 8, 9, 10, 11, 12, 13, 14, 15, 16, 17, 18, 19, 20, 21, 22, 23, 24] (by decide +kernel) (by decide +kernel)
set_option maxRecDepth 20000 in
theorem gX12_feed_X12_appendBytes : GoodIn wsX12_feed (wsV RX12 104 RX12 yX12_appendBytes wsX12_appendBytes) := goodIn_app (goodIn_of _ (by decide +kernel)) ggX12_feed_X12_appendBytes
theorem dX12_feed_0 : decode cX12_feed 0 = .ok (.aload_n 0, 1) := by decide +kernel
theorem dX12_feed_1 : decode cX12_feed 1 = .ok (.getfield 13, 3) := by decide +kernel
theorem dX12_feed_4 : decode cX12_feed 4 = .ok (.bipush 20, 2) := by decide +kernel
theorem dX12_feed_6 : decode cX12_feed 6 = .ok (.iadd, 1) := by decide +kernel
theorem dX12_feed_7 : decode cX12_feed 7 = .ok (.sipush 1000, 3) := by decide +kernel
theorem dX12_feed_10 : decode cX12_feed 10 = .ok (.if_icmp .le 5, 3) := by decide +kernel
theorem dX12_feed_13 : decode cX12_feed 13 = .ok (.iconst (-1), 1) := by decide +kernel
theorem dX12_feed_14 : decode cX12_feed 14 = .ok (.ireturn, 1) := by decide +kernel
theorem dX12_feed_15 : decode cX12_feed 15 = .ok (.aload_n 0, 1) := by decide +kernel
theorem dX12_feed_16 : decode cX12_feed 16 = .ok (.iload_n 1, 1) := by decide +kernel
theorem dX12_feed_17 : decode cX12_feed 17 = .ok (.invokevirtual 104, 3) := by decide +kernel
theorem dX12_feed_20 : decode cX12_feed 20 = .ok (.aload_n 0, 1) := by decide +kernel
theorem dX12_feed_21 : decode cX12_feed 21 = .ok (.iload_n 2, 1) := by decide +kernel
theorem dX12_feed_22 : decode cX12_feed 22 = .ok (.invokevirtual 104, 3) := by decide +kernel
theorem dX12_feed_25 : decode cX12_feed 25 = .ok (.aload_n 0, 1) := by decide +kernel
theorem dX12_feed_26 : decode cX12_feed 26 = .ok (.iload_n 3, 1) := by decide +kernel
theorem dX12_feed_27 : decode cX12_feed 27 = .ok (.invokevirtual 104, 3) := by decide +kernel
theorem dX12_feed_30 : decode cX12_feed 30 = .ok (.aload_n 0, 1) := by decide +kernel
theorem dX12_feed_31 : decode cX12_feed 31 = .ok (.iload 4, 2) := by decide +kernel
theorem dX12_feed_33 : decode cX12_feed 33 = .ok (.invokevirtual 104, 3) := by decide +kernel
theorem dX12_feed_36 : decode cX12_feed 36 = .ok (.aload_n 0, 1) := by decide +kernel
theorem dX12_feed_37 : decode cX12_feed 37 = .ok (.iload 5, 2) := by decide +kernel
theorem dX12_feed_39 : decode cX12_feed 39 = .ok (.invokevirtual 104, 3) := by decide +kernel
theorem dX12_feed_42 : decode cX12_feed 42 = .ok (.aload_n 0, 1) := by decide +kernel
theorem dX12_feed_43 : decode cX12_feed 43 = .ok (.getfield 13, 3) := by decide +kernel
theorem dX12_feed_46 : decode cX12_feed 46 = .ok (.ireturn, 1) := by decide +kernel
set_option maxRecDepth 20000 in
theorem ggX12_load_X11_scan : GoodIn wsX12_load wsX11_scan := goodIn_r _ [21, 22, 23, 24, 25, 26, 27, 28, 29, 30, 31, 32, 33, 34, 35, 36, 20, 37, 38, 39, 40, 41, 42, 43, 44, 45, 46, 47, 48, 49, 50, 51, 52, 53, 54, 55, 56, 57, 58, 59, 60, 61, 62, 63, 64, 65, 66, 67, 68, 69, 70, 71, 72, 73, 74, 75, 76, 77, 78, 79, 80, 81, 82, 83, 84, 85, 86, 87, 88, 89, 90, 91, 92, 93, 94, 95, 96, 97, 98, 99, 100, 101, 102, 103, 104, 105, 106, 107, 108, 109, 110, 111, 112, 444, 445, 446, 447, 448, 449, 450, 451, 452, 465, 466, 467, 468] (by decide +kernel) (by decide +kernel)
set_option maxRecDepth 20000 in
theorem gX12_load_X11_scan : GoodIn wsX12_load (wsV RX12 111 RX11 yX11_scan wsX11_scan) := goodIn_app (goodIn_of _ (by decide +kernel)) ggX12_load_X11_scan
set_option maxRecDepth 20000 in
theorem ggX12_load_X5_readProgram : GoodIn wsX12_load wsX5_readProgram := goodIn_r _ [117, 118, 119, 120, 121, 122, 123, 124, 125, 116, 126, 127, 128, 129, 130, 131, 132, 133, 134, 135, 136, 137, 138, 139, 140, 141, 142, 143, 144, 145, 146, 147, 148, 149, 150, 151, 152, 153, 154, 155, 156, 157, 158, 159, 160, 161, 162, 163, 164, 109, 110, 20, 111, 112, 165, 166, 167, 168, 30, 169, 170, 171, 172, 27, 173, 174, 175, 176, 177, 178, 179, 180, 181, 182, 183, 184, 185, 38, 42, 186, 187, 188, 189, 190, 191, 192, 193, 194, 195, 196, 197, 198, 28, 32, 29, 199, 200, 201, 202, 203, 204, 205, 206, 207, 208, 209, 210, 211, 212, 213, 214, 215, 216, 217, 218, 219, 220, 221, 222, 223, 33, 22, 224, 225, 226, 227, 228, 229, 230, 231, 232, 233, 234, 235, 236, 237, 238, 239, 240, 241, 242, 243, 244, 245, 246, 247, 248, 249, 250, 251, 252, 253, 254, 255, 256, 257, 258, 259, 260, 261, 262, 263, 264, 265, 266, 267, 268, 269, 270, 271, 272, 273, 274, 275, 276, 277, 278, 279, 280, 281, 282, 283, 284, 285, 286, 287, 288, 289, 290, 291, 292, 293, 294, 295, 296, 297, 298, 299, 300, 301, 302, 303, 304, 305, 306, 307, 308, 309, 310, 311, 312, 313, 314, 315, 316, 317, 318, 319, 320, 321, 322, 323, 324, 325, 326, 327, 328, 329, 330, 331, 332, 333, 334, 335, 336, 337, 338, 339, 340, 341, 342, 343, 344, 345, 346, 347, 348, 349, 350, 351, 352, 353, 354, 355, 356, 357, 358, 359, 360, 361, 469, 470, 471, 472, 473, 474, 444, 445, 446, 447, 448, 449, 450, 451, 452, 460, 461, 462, 463, 464, 475, 476, 477, 478, 479, 480, 481, 482, 483, 484, 485, 486, 487, 488, 489, 490, 491, 492, 493, 494, 495, 496, 497, 498, 499, 500, 501, 502] (by decide +kernel) (by decide +kernel)
set_option maxRecDepth 20000 in
theorem gX12_load_X5_readProgram : GoodIn wsX12_load (wsV RX12 114 RX5 yX5_readProgram wsX5_readProgram) := goodIn_app (goodIn_of _ (by decide +kernel)) ggX12_load_X5_readProgram
set_option maxRecDepth 20000 in
theorem ggX12_load_X3_begin : GoodIn wsX12_load wsX3_begin := goodIn_r _ [366, 367, 368, 369, 370, 371, 372, 373, 374, 375, 376, 377, 378, 379, 380, 381, 382, 383, 384, 385, 386, 387, 388, 389, 390, 391, 392, 393, 394, 395, 396, 397, 398, 399, 400, 401, 402, 403, 404, 405, 406, 407, 408, 409, 410, 411, 412, 413, 414, 24, 25, 26, 415, 416, 417, 418, 419, 420, 421, 142, 422, 163, 423, 424, 425, 365, 426, 503, 504, 505, 506, 507, 508, 509, 510, 511, 512, 513, 514, 515, 516, 460, 461, 462, 463, 464, 517, 518, 519, 520, 521, 522, 523, 524, 525, 526, 527, 528, 529, 530, 475, 476, 477, 478, 479, 480, 481, 482, 483, 484, 485, 486, 487, 488, 489, 490, 491, 492, 493, 494, 531, 532, 533, 534] (by decide +kernel) (by decide +kernel)
set_option maxRecDepth 20000 in
theorem gX12_load_X3_begin : GoodIn wsX12_load (wsV RX12 100 RX3 yX3_begin wsX3_begin) := goodIn_app (goodIn_of _ (by decide +kernel)) ggX12_load_X3_begin
theorem dX12_load_0 : decode cX12_load 0 = .ok (.iload_n 1, 1) := by decide +kernel
theorem dX12_load_1 : decode cX12_load 1 = .ok (.ifCond .lt 11, 3) := by decide +kernel
theorem dX12_load_4 : decode cX12_load 4 = .ok (.iload_n 1, 1) := by decide +kernel
theorem dX12_load_5 : decode cX12_load 5 = .ok (.aload_n 0, 1) := by decide +kernel
theorem dX12_load_6 : decode cX12_load 6 = .ok (.getfield 13, 3) := by decide +kernel
theorem dX12_load_9 : decode cX12_load 9 = .ok (.if_icmp .le 11, 3) := by decide +kernel
theorem dX12_load_12 : decode cX12_load 12 = .ok (.new 108, 3) := by decide +kernel
theorem dX12_load_15 : decode cX12_load 15 = .ok (.dup, 1) := by decide +kernel
theorem dX12_load_16 : decode cX12_load 16 = .ok (.invokespecial 110, 3) := by decide +kernel
theorem dX12_load_19 : decode cX12_load 19 = .ok (.athrow, 1) := by decide +kernel
theorem dX12_load_20 : decode cX12_load 20 = .ok (.aload_n 0, 1) := by decide +kernel
theorem dX12_load_21 : decode cX12_load 21 = .ok (.iconst 0, 1) := by decide +kernel
theorem dX12_load_22 : decode cX12_load 22 = .ok (.putfield 13, 3) := by decide +kernel
theorem dX12_load_25 : decode cX12_load 25 = .ok (.aload_n 0, 1) := by decide +kernel
theorem dX12_load_26 : decode cX12_load 26 = .ok (.getfield 25, 3) := by decide +kernel
theorem dX12_load_29 : decode cX12_load 29 = .ok (.iload_n 1, 1) := by decide +kernel
theorem dX12_load_30 : decode cX12_load 30 = .ok (.invokevirtual 111, 3) := by decide +kernel
theorem dX12_load_33 : decode cX12_load 33 = .ok (.aload_n 0, 1) := by decide +kernel
theorem dX12_load_34 : decode cX12_load 34 = .ok (.getfield 44, 3) := by decide +kernel
theorem dX12_load_37 : decode cX12_load 37 = .ok (.aload_n 0, 1) := by decide +kernel
theorem dX12_load_38 : decode cX12_load 38 = .ok (.getfield 36, 3) := by decide +kernel
theorem dX12_load_41 : decode cX12_load 41 = .ok (.invokevirtual 114, 3) := by decide +kernel
theorem dX12_load_44 : decode cX12_load 44 = .ok (.aload_n 0, 1) := by decide +kernel
theorem dX12_load_45 : decode cX12_load 45 = .ok (.aload_n 0, 1) := by decide +kernel
theorem dX12_load_46 : decode cX12_load 46 = .ok (.getfield 25, 3) := by decide +kernel
theorem dX12_load_49 : decode cX12_load 49 = .ok (.getfield 117, 3) := by decide +kernel
theorem dX12_load_52 : decode cX12_load 52 = .ok (.putfield 17, 3) := by decide +kernel
theorem dX12_load_55 : decode cX12_load 55 = .ok (.aload_n 0, 1) := by decide +kernel
theorem dX12_load_56 : decode cX12_load 56 = .ok (.getfield 25, 3) := by decide +kernel
theorem dX12_load_59 : decode cX12_load 59 = .ok (.getfield 120, 3) := by decide +kernel
theorem dX12_load_62 : decode cX12_load 62 = .ok (.ifCond .eq 14, 3) := by decide +kernel
theorem dX12_load_65 : decode cX12_load 65 = .ok (.bipush (-10), 2) := by decide +kernel
theorem dX12_load_67 : decode cX12_load 67 = .ok (.aload_n 0, 1) := by decide +kernel
theorem dX12_load_68 : decode cX12_load 68 = .ok (.getfield 25, 3) := by decide +kernel
theorem dX12_load_71 : decode cX12_load 71 = .ok (.getfield 120, 3) := by decide +kernel
theorem dX12_load_74 : decode cX12_load 74 = .ok (.isub, 1) := by decide +kernel
theorem dX12_load_75 : decode cX12_load 75 = .ok (.ireturn, 1) := by decide +kernel
theorem dX12_load_76 : decode cX12_load 76 = .ok (.aload_n 0, 1) := by decide +kernel
theorem dX12_load_77 : decode cX12_load 77 = .ok (.getfield 32, 3) := by decide +kernel
theorem dX12_load_80 : decode cX12_load 80 = .ok (.astore_n 2, 1) := by decide +kernel
theorem dX12_load_81 : decode cX12_load 81 = .ok (.aload_n 0, 1) := by decide +kernel
theorem dX12_load_82 : decode cX12_load 82 = .ok (.aload_n 0, 1) := by decide +kernel
theorem dX12_load_83 : decode cX12_load 83 = .ok (.getfield 36, 3) := by decide +kernel
theorem dX12_load_86 : decode cX12_load 86 = .ok (.putfield 32, 3) := by decide +kernel
theorem dX12_load_89 : decode cX12_load 89 = .ok (.aload_n 0, 1) := by decide +kernel
theorem dX12_load_90 : decode cX12_load 90 = .ok (.aload_n 2, 1) := by decide +kernel
theorem dX12_load_91 : decode cX12_load 91 = .ok (.putfield 36, 3) := by decide +kernel
theorem dX12_load_94 : decode cX12_load 94 = .ok (.aload_n 0, 1) := by decide +kernel
theorem dX12_load_95 : decode cX12_load 95 = .ok (.getfield 63, 3) := by decide +kernel
theorem dX12_load_98 : decode cX12_load 98 = .ok (.aload_n 0, 1) := by decide +kernel
theorem dX12_load_99 : decode cX12_load 99 = .ok (.getfield 32, 3) := by decide +kernel
theorem dX12_load_102 : decode cX12_load 102 = .ok (.putfield 123, 3) := by decide +kernel
theorem dX12_load_105 : decode cX12_load 105 = .ok (.aload_n 0, 1) := by decide +kernel
theorem dX12_load_106 : decode cX12_load 106 = .ok (.getfield 51, 3) := by decide +kernel
theorem dX12_load_109 : decode cX12_load 109 = .ok (.aload_n 0, 1) := by decide +kernel
theorem dX12_load_110 : decode cX12_load 110 = .ok (.getfield 32, 3) := by decide +kernel
theorem dX12_load_113 : decode cX12_load 113 = .ok (.invokevirtual 100, 3) := by decide +kernel
theorem dX12_load_116 : decode cX12_load 116 = .ok (.aload_n 0, 1) := by decide +kernel
theorem dX12_load_117 : decode cX12_load 117 = .ok (.iconst 0, 1) := by decide +kernel
theorem dX12_load_118 : decode cX12_load 118 = .ok (.putfield 90, 3) := by decide +kernel
theorem dX12_load_121 : decode cX12_load 121 = .ok (.aload_n 0, 1) := by decide +kernel
theorem dX12_load_122 : decode cX12_load 122 = .ok (.iconst 0, 1) := by decide +kernel
theorem dX12_load_123 : decode cX12_load 123 = .ok (.putfield 79, 3) := by decide +kernel
theorem dX12_load_126 : decode cX12_load 126 = .ok (.aload_n 0, 1) := by decide +kernel
theorem dX12_load_127 : decode cX12_load 127 = .ok (.getfield 32, 3) := by decide +kernel
theorem dX12_load_130 : decode cX12_load 130 = .ok (.getfield 124, 3) := by decide +kernel
theorem dX12_load_133 : decode cX12_load 133 = .ok (.ireturn, 1) := by decide +kernel
theorem dX12_errorPosition_0 : decode cX12_errorPosition 0 = .ok (.aload_n 0, 1) := by decide +kernel
theorem dX12_errorPosition_1 : decode cX12_errorPosition 1 = .ok (.getfield 17, 3) := by decide +kernel
theorem dX12_errorPosition_4 : decode cX12_errorPosition 4 = .ok (.ireturn, 1) := by decide +kernel
theorem dX12_instructionCount_0 : decode cX12_instructionCount 0 = .ok (.aload_n 0, 1) := by decide +kernel
theorem dX12_instructionCount_1 : decode cX12_instructionCount 1 = .ok (.getfield 32, 3) := by decide +kernel
theorem dX12_instructionCount_4 : decode cX12_instructionCount 4 = .ok (.getfield 124, 3) := by decide +kernel
theorem dX12_instructionCount_7 : decode cX12_instructionCount 7 = .ok (.ireturn, 1) := by decide +kernel
set_option maxRecDepth 20000 in
theorem ggX12_engines_X4_engineMask : GoodIn wsX12_engines wsX4_engineMask := goodIn_r _ [6, 7, 8, 26, 27, 28, 29, 30, 31, 32, 33, 34, 35, 36, 37, 38, 39, 40, 41, 42, 43, 44, 45, 46, 47, 48, 49, 50] (by decide +kernel) (by decide +kernel)
set_option maxRecDepth 20000 in
theorem gX12_engines_X4_engineMask : GoodIn wsX12_engines (wsV RX12 127 RX4 yX4_engineMask wsX4_engineMask) := goodIn_app (goodIn_of _ (by decide +kernel)) ggX12_engines_X4_engineMask
theorem dX12_engines_0 : decode cX12_engines 0 = .ok (.aload_n 0, 1) := by decide +kernel
theorem dX12_engines_1 : decode cX12_engines 1 = .ok (.getfield 32, 3) := by decide +kernel
theorem dX12_engines_4 : decode cX12_engines 4 = .ok (.invokevirtual 127, 3) := by decide +kernel
theorem dX12_engines_7 : decode cX12_engines 7 = .ok (.ireturn, 1) := by decide +kernel
theorem dX12_clock_0 : decode cX12_clock 0 = .ok (.aload_n 0, 1) := by decide +kernel
theorem dX12_clock_1 : decode cX12_clock 1 = .ok (.getfield 51, 3) := by decide +kernel
theorem dX12_clock_4 : decode cX12_clock 4 = .ok (.getfield 131, 3) := by decide +kernel
theorem dX12_clock_7 : decode cX12_clock 7 = .ok (.ireturn, 1) := by decide +kernel
set_option maxRecDepth 20000 in
theorem ggX12_level_X12_checkPin : GoodIn wsX12_level wsX12_checkPin := goodIn_ca (goodIn_r _ [5, 6, 7] (by decide +kernel) (by decide +kernel)) (goodIn_sub (fun _ h => List.mem_cons_of_mem _ (List.mem_append_right _ h)) (by decide +kernel))
set_option maxRecDepth 20000 in
theorem gX12_level_X12_checkPin : GoodIn wsX12_level (va_wsS RX12 134 yX12_checkPin wsX12_checkPin) := goodIn_app (goodIn_of _ (by decide +kernel)) ggX12_level_X12_checkPin
set_option maxRecDepth 20000 in
theorem ggX12_level_X3_levels : GoodIn wsX12_level wsX3_levels := goodIn_r _ [12, 13, 14, 15, 33, 34, 35, 36, 37, 38, 39, 40, 41, 42, 43, 44, 45, 46] (by decide +kernel) (by decide +kernel)
set_option maxRecDepth 20000 in
theorem gX12_level_X3_levels : GoodIn wsX12_level (wsV RX12 137 RX3 yX3_levels wsX3_levels) := goodIn_app (goodIn_of _ (by decide +kernel)) ggX12_level_X3_levels
theorem dX12_level_0 : decode cX12_level 0 = .ok (.iload_n 1, 1) := by decide +kernel
theorem dX12_level_1 : decode cX12_level 1 = .ok (.invokestatic 134, 3) := by decide +kernel
theorem dX12_level_4 : decode cX12_level 4 = .ok (.aload_n 0, 1) := by decide +kernel
theorem dX12_level_5 : decode cX12_level 5 = .ok (.getfield 51, 3) := by decide +kernel
theorem dX12_level_8 : decode cX12_level 8 = .ok (.invokevirtual 137, 3) := by decide +kernel
theorem dX12_level_11 : decode cX12_level 11 = .ok (.iload_n 1, 1) := by decide +kernel
theorem dX12_level_12 : decode cX12_level 12 = .ok (.ishr, 1) := by decide +kernel
theorem dX12_level_13 : decode cX12_level 13 = .ok (.iconst 1, 1) := by decide +kernel
theorem dX12_level_14 : decode cX12_level 14 = .ok (.iand, 1) := by decide +kernel
theorem dX12_level_15 : decode cX12_level 15 = .ok (.ireturn, 1) := by decide +kernel
set_option maxRecDepth 20000 in
theorem ggX12_latch_X12_checkPin : GoodIn wsX12_latch wsX12_checkPin := goodIn_ca (goodIn_r _ [6, 7, 8] (by decide +kernel) (by decide +kernel)) (goodIn_sub (fun _ h => List.mem_cons_of_mem _ (List.mem_append_right _ h)) (by decide +kernel))
set_option maxRecDepth 20000 in
theorem gX12_latch_X12_checkPin : GoodIn wsX12_latch (va_wsS RX12 134 yX12_checkPin wsX12_checkPin) := goodIn_app (goodIn_of _ (by decide +kernel)) ggX12_latch_X12_checkPin
theorem dX12_latch_0 : decode cX12_latch 0 = .ok (.iload_n 1, 1) := by decide +kernel
theorem dX12_latch_1 : decode cX12_latch 1 = .ok (.invokestatic 134, 3) := by decide +kernel
theorem dX12_latch_4 : decode cX12_latch 4 = .ok (.aload_n 0, 1) := by decide +kernel
theorem dX12_latch_5 : decode cX12_latch 5 = .ok (.getfield 51, 3) := by decide +kernel
theorem dX12_latch_8 : decode cX12_latch 8 = .ok (.getfield 140, 3) := by decide +kernel
theorem dX12_latch_11 : decode cX12_latch 11 = .ok (.iload_n 1, 1) := by decide +kernel
theorem dX12_latch_12 : decode cX12_latch 12 = .ok (.ishr, 1) := by decide +kernel
theorem dX12_latch_13 : decode cX12_latch 13 = .ok (.iconst 1, 1) := by decide +kernel
theorem dX12_latch_14 : decode cX12_latch 14 = .ok (.iand, 1) := by decide +kernel
theorem dX12_latch_15 : decode cX12_latch 15 = .ok (.ireturn, 1) := by decide +kernel
set_option maxRecDepth 20000 in
theorem ggX12_isOutput_X12_checkPin : GoodIn wsX12_isOutput wsX12_checkPin := goodIn_ca (goodIn_r _ [6, 7, 8] (by decide +kernel) (by decide +kernel)) (goodIn_sub (fun _ h => List.mem_cons_of_mem _ (List.mem_append_right _ h)) (by decide +kernel))
set_option maxRecDepth 20000 in
theorem gX12_isOutput_X12_checkPin : GoodIn wsX12_isOutput (va_wsS RX12 134 yX12_checkPin wsX12_checkPin) := goodIn_app (goodIn_of _ (by decide +kernel)) ggX12_isOutput_X12_checkPin
theorem dX12_isOutput_0 : decode cX12_isOutput 0 = .ok (.iload_n 1, 1) := by decide +kernel
theorem dX12_isOutput_1 : decode cX12_isOutput 1 = .ok (.invokestatic 134, 3) := by decide +kernel
theorem dX12_isOutput_4 : decode cX12_isOutput 4 = .ok (.aload_n 0, 1) := by decide +kernel
theorem dX12_isOutput_5 : decode cX12_isOutput 5 = .ok (.getfield 51, 3) := by decide +kernel
theorem dX12_isOutput_8 : decode cX12_isOutput 8 = .ok (.getfield 143, 3) := by decide +kernel
theorem dX12_isOutput_11 : decode cX12_isOutput 11 = .ok (.iload_n 1, 1) := by decide +kernel
theorem dX12_isOutput_12 : decode cX12_isOutput 12 = .ok (.ishr, 1) := by decide +kernel
theorem dX12_isOutput_13 : decode cX12_isOutput 13 = .ok (.iconst 1, 1) := by decide +kernel
theorem dX12_isOutput_14 : decode cX12_isOutput 14 = .ok (.iand, 1) := by decide +kernel
theorem dX12_isOutput_15 : decode cX12_isOutput 15 = .ok (.iconst 1, 1) := by decide +kernel
theorem dX12_isOutput_16 : decode cX12_isOutput 16 = .ok (.if_icmp .ne 7, 3) := by decide +kernel
theorem dX12_isOutput_19 : decode cX12_isOutput 19 = .ok (.iconst 1, 1) := by decide +kernel
theorem dX12_isOutput_20 : decode cX12_isOutput 20 = .ok (.goto 4, 3) := by decide +kernel
theorem dX12_isOutput_23 : decode cX12_isOutput 23 = .ok (.iconst 0, 1) := by decide +kernel
theorem dX12_isOutput_24 : decode cX12_isOutput 24 = .ok (.ireturn, 1) := by decide +kernel
theorem dX12_flag_0 : decode cX12_flag 0 = .ok (.iload_n 1, 1) := by decide +kernel
theorem dX12_flag_1 : decode cX12_flag 1 = .ok (.ifCond .lt 9, 3) := by decide +kernel
theorem dX12_flag_4 : decode cX12_flag 4 = .ok (.iload_n 1, 1) := by decide +kernel
theorem dX12_flag_5 : decode cX12_flag 5 = .ok (.bipush 8, 2) := by decide +kernel
theorem dX12_flag_7 : decode cX12_flag 7 = .ok (.if_icmp .lt 11, 3) := by decide +kernel
theorem dX12_flag_10 : decode cX12_flag 10 = .ok (.new 146, 3) := by decide +kernel
theorem dX12_flag_13 : decode cX12_flag 13 = .ok (.dup, 1) := by decide +kernel
theorem dX12_flag_14 : decode cX12_flag 14 = .ok (.invokespecial 148, 3) := by decide +kernel
theorem dX12_flag_17 : decode cX12_flag 17 = .ok (.athrow, 1) := by decide +kernel
theorem dX12_flag_18 : decode cX12_flag 18 = .ok (.aload_n 0, 1) := by decide +kernel
theorem dX12_flag_19 : decode cX12_flag 19 = .ok (.getfield 51, 3) := by decide +kernel
theorem dX12_flag_22 : decode cX12_flag 22 = .ok (.getfield 149, 3) := by decide +kernel
theorem dX12_flag_25 : decode cX12_flag 25 = .ok (.iload_n 1, 1) := by decide +kernel
theorem dX12_flag_26 : decode cX12_flag 26 = .ok (.ishr, 1) := by decide +kernel
theorem dX12_flag_27 : decode cX12_flag 27 = .ok (.iconst 1, 1) := by decide +kernel
theorem dX12_flag_28 : decode cX12_flag 28 = .ok (.iand, 1) := by decide +kernel
theorem dX12_flag_29 : decode cX12_flag 29 = .ok (.ireturn, 1) := by decide +kernel
set_option maxRecDepth 20000 in
theorem ggX12_memory_X12_checkMemory : GoodIn wsX12_memory wsX12_checkMemory := goodIn_ca (goodIn_r _ [6, 7, 8] (by decide +kernel) (by decide +kernel)) (goodIn_sub (fun _ h => List.mem_cons_of_mem _ (List.mem_append_right _ h)) (by decide +kernel))
set_option maxRecDepth 20000 in
theorem gX12_memory_X12_checkMemory : GoodIn wsX12_memory (va_wsS RX12 152 yX12_checkMemory wsX12_checkMemory) := goodIn_app (goodIn_of _ (by decide +kernel)) ggX12_memory_X12_checkMemory
theorem dX12_memory_0 : decode cX12_memory 0 = .ok (.iload_n 1, 1) := by decide +kernel
theorem dX12_memory_1 : decode cX12_memory 1 = .ok (.invokestatic 152, 3) := by decide +kernel
theorem dX12_memory_4 : decode cX12_memory 4 = .ok (.aload_n 0, 1) := by decide +kernel
theorem dX12_memory_5 : decode cX12_memory 5 = .ok (.getfield 51, 3) := by decide +kernel
theorem dX12_memory_8 : decode cX12_memory 8 = .ok (.getfield 155, 3) := by decide +kernel
theorem dX12_memory_11 : decode cX12_memory 11 = .ok (.iload_n 1, 1) := by decide +kernel
theorem dX12_memory_12 : decode cX12_memory 12 = .ok (.iaload, 1) := by decide +kernel
theorem dX12_memory_13 : decode cX12_memory 13 = .ok (.ireturn, 1) := by decide +kernel
theorem dX12_portOwner_0 : decode cX12_portOwner 0 = .ok (.aload_n 0, 1) := by decide +kernel
theorem dX12_portOwner_1 : decode cX12_portOwner 1 = .ok (.getfield 51, 3) := by decide +kernel
theorem dX12_portOwner_4 : decode cX12_portOwner 4 = .ok (.getfield 159, 3) := by decide +kernel
theorem dX12_portOwner_7 : decode cX12_portOwner 7 = .ok (.ireturn, 1) := by decide +kernel
set_option maxRecDepth 20000 in
theorem ggX12_pc_X12_existingEngine : GoodIn wsX12_pc wsX12_existingEngine := goodIn_ca (goodIn_r _ [6, 7, 8, 9, 10, 11, 12, 13, 14, 15, 16, 17, 18, 33, 34, 35, 36, 37, 38, 39, 40, 41, 42, 43, 44, 45, 46, 47, 48, 49, 50, 51, 52, 53, 54, 55, 56, 57, 58, 59, 60, 61, 62, 63, 64, 65, 66, 67, 68, 69, 70, 71, 72, 73, 74, 75, 76, 77, 78, 79, 80, 81, 82, 83, 84, 85, 86, 87, 88] (by decide +kernel) (by decide +kernel)) (goodIn_sub (fun _ h => List.mem_cons_of_mem _ (List.mem_append_right _ h)) (by decide +kernel))
set_option maxRecDepth 20000 in
theorem gX12_pc_X12_existingEngine : GoodIn wsX12_pc (wsV RX12 162 RX12 yX12_existingEngine wsX12_existingEngine) := goodIn_app (goodIn_of _ (by decide +kernel)) ggX12_pc_X12_existingEngine
theorem dX12_pc_0 : decode cX12_pc 0 = .ok (.aload_n 0, 1) := by decide +kernel
theorem dX12_pc_1 : decode cX12_pc 1 = .ok (.iload_n 1, 1) := by decide +kernel
theorem dX12_pc_2 : decode cX12_pc 2 = .ok (.invokevirtual 162, 3) := by decide +kernel
theorem dX12_pc_5 : decode cX12_pc 5 = .ok (.getfield 166, 3) := by decide +kernel
theorem dX12_pc_8 : decode cX12_pc 8 = .ok (.ireturn, 1) := by decide +kernel
set_option maxRecDepth 20000 in
theorem ggX12_register_X12_existingEngine : GoodIn wsX12_register wsX12_existingEngine := goodIn_ca (goodIn_r _ [11, 1, 2, 12, 13, 14, 15, 16, 17, 18, 19, 20, 21, 36, 37, 38, 39, 40, 41, 42, 43, 44, 45, 46, 47, 48, 49, 50, 51, 52, 53, 54, 55, 56, 57, 58, 59, 60, 61, 62, 63, 64, 65, 66, 67, 68, 69, 70, 71, 72, 73, 74, 75, 76, 77, 78, 79, 80, 81, 82, 83, 84, 85, 86, 87, 88, 89, 90, 91] (by decide +kernel) (by decide +kernel)) (goodIn_sub (fun _ h => List.mem_cons_of_mem _ (List.mem_append_right _ h)) (by decide +kernel))
set_option maxRecDepth 20000 in
theorem gX12_register_X12_existingEngine : GoodIn wsX12_register (wsV RX12 162 RX12 yX12_existingEngine wsX12_existingEngine) := goodIn_app (goodIn_of _ (by decide +kernel)) ggX12_register_X12_existingEngine
theorem dX12_register_0 : decode cX12_register 0 = .ok (.aload_n 0, 1) := by decide +kernel
theorem dX12_register_1 : decode cX12_register 1 = .ok (.iload_n 1, 1) := by decide +kernel
theorem dX12_register_2 : decode cX12_register 2 = .ok (.invokevirtual 162, 3) := by decide +kernel
theorem dX12_register_5 : decode cX12_register 5 = .ok (.astore_n 3, 1) := by decide +kernel
theorem dX12_register_6 : decode cX12_register 6 = .ok (.iload_n 2, 1) := by decide +kernel
theorem dX12_register_7 : decode cX12_register 7 = .ok (.ifCond .lt 8, 3) := by decide +kernel
theorem dX12_register_10 : decode cX12_register 10 = .ok (.iload_n 2, 1) := by decide +kernel
theorem dX12_register_11 : decode cX12_register 11 = .ok (.iconst 4, 1) := by decide +kernel
theorem dX12_register_12 : decode cX12_register 12 = .ok (.if_icmp .lt 11, 3) := by decide +kernel
theorem dX12_register_15 : decode cX12_register 15 = .ok (.new 146, 3) := by decide +kernel
theorem dX12_register_18 : decode cX12_register 18 = .ok (.dup, 1) := by decide +kernel
theorem dX12_register_19 : decode cX12_register 19 = .ok (.invokespecial 148, 3) := by decide +kernel
theorem dX12_register_22 : decode cX12_register 22 = .ok (.athrow, 1) := by decide +kernel
theorem dX12_register_23 : decode cX12_register 23 = .ok (.iload_n 2, 1) := by decide +kernel
theorem dX12_register_24 : decode cX12_register 24 = .ok (.tableswitch 43 0 2 #[28, 33, 38], 28) := by decide +kernel
theorem dX12_register_52 : decode cX12_register 52 = .ok (.aload_n 3, 1) := by decide +kernel
theorem dX12_register_53 : decode cX12_register 53 = .ok (.getfield 171, 3) := by decide +kernel
theorem dX12_register_56 : decode cX12_register 56 = .ok (.ireturn, 1) := by decide +kernel
theorem dX12_register_57 : decode cX12_register 57 = .ok (.aload_n 3, 1) := by decide +kernel
theorem dX12_register_58 : decode cX12_register 58 = .ok (.getfield 174, 3) := by decide +kernel
theorem dX12_register_61 : decode cX12_register 61 = .ok (.ireturn, 1) := by decide +kernel
theorem dX12_register_62 : decode cX12_register 62 = .ok (.aload_n 3, 1) := by decide +kernel
theorem dX12_register_63 : decode cX12_register 63 = .ok (.getfield 177, 3) := by decide +kernel
theorem dX12_register_66 : decode cX12_register 66 = .ok (.ireturn, 1) := by decide +kernel
theorem dX12_register_67 : decode cX12_register 67 = .ok (.aload_n 3, 1) := by decide +kernel
theorem dX12_register_68 : decode cX12_register 68 = .ok (.getfield 180, 3) := by decide +kernel
theorem dX12_register_71 : decode cX12_register 71 = .ok (.ireturn, 1) := by decide +kernel
set_option maxRecDepth 20000 in
theorem ggX12_fill_X12_existingEngine : GoodIn wsX12_fill wsX12_existingEngine := goodIn_ca (goodIn_r _ [6, 7, 8, 9, 10, 11, 12, 13, 14, 15, 16, 17, 18, 33, 34, 35, 36, 37, 38, 39, 40, 41, 42, 43, 44, 45, 46, 47, 48, 49, 50, 51, 52, 53, 54, 55, 56, 57, 58, 59, 60, 61, 62, 63, 64, 65, 66, 67, 68, 69, 70, 71, 72, 73, 74, 75, 76, 77, 78, 79, 80, 81, 82, 83, 84, 85, 86, 87, 88] (by decide +kernel) (by decide +kernel)) (goodIn_sub (fun _ h => List.mem_cons_of_mem _ (List.mem_append_right _ h)) (by decide +kernel))
set_option maxRecDepth 20000 in
theorem gX12_fill_X12_existingEngine : GoodIn wsX12_fill (wsV RX12 162 RX12 yX12_existingEngine wsX12_existingEngine) := goodIn_app (goodIn_of _ (by decide +kernel)) ggX12_fill_X12_existingEngine
theorem dX12_fill_0 : decode cX12_fill 0 = .ok (.aload_n 0, 1) := by decide +kernel
theorem dX12_fill_1 : decode cX12_fill 1 = .ok (.iload_n 1, 1) := by decide +kernel
theorem dX12_fill_2 : decode cX12_fill 2 = .ok (.invokevirtual 162, 3) := by decide +kernel
theorem dX12_fill_5 : decode cX12_fill 5 = .ok (.getfield 183, 3) := by decide +kernel
theorem dX12_fill_8 : decode cX12_fill 8 = .ok (.ireturn, 1) := by decide +kernel
set_option maxRecDepth 20000 in
theorem ggX12_spent_X12_existingEngine : GoodIn wsX12_spent wsX12_existingEngine := goodIn_ca (goodIn_r _ [6, 7, 8, 9, 10, 11, 12, 13, 14, 15, 16, 17, 18, 33, 34, 35, 36, 37, 38, 39, 40, 41, 42, 43, 44, 45, 46, 47, 48, 49, 50, 51, 52, 53, 54, 55, 56, 57, 58, 59, 60, 61, 62, 63, 64, 65, 66, 67, 68, 69, 70, 71, 72, 73, 74, 75, 76, 77, 78, 79, 80, 81, 82, 83, 84, 85, 86, 87, 88] (by decide +kernel) (by decide +kernel)) (goodIn_sub (fun _ h => List.mem_cons_of_mem _ (List.mem_append_right _ h)) (by decide +kernel))
set_option maxRecDepth 20000 in
theorem gX12_spent_X12_existingEngine : GoodIn wsX12_spent (wsV RX12 162 RX12 yX12_existingEngine wsX12_existingEngine) := goodIn_app (goodIn_of _ (by decide +kernel)) ggX12_spent_X12_existingEngine
theorem dX12_spent_0 : decode cX12_spent 0 = .ok (.aload_n 0, 1) := by decide +kernel
theorem dX12_spent_1 : decode cX12_spent 1 = .ok (.iload_n 1, 1) := by decide +kernel
theorem dX12_spent_2 : decode cX12_spent 2 = .ok (.invokevirtual 162, 3) := by decide +kernel
theorem dX12_spent_5 : decode cX12_spent 5 = .ok (.getfield 186, 3) := by decide +kernel
theorem dX12_spent_8 : decode cX12_spent 8 = .ok (.ireturn, 1) := by decide +kernel
set_option maxRecDepth 20000 in
theorem ggX12_delayLeft_X12_existingEngine : GoodIn wsX12_delayLeft wsX12_existingEngine := goodIn_ca (goodIn_r _ [6, 7, 8, 9, 10, 11, 12, 13, 14, 15, 16, 17, 18, 33, 34, 35, 36, 37, 38, 39, 40, 41, 42, 43, 44, 45, 46, 47, 48, 49, 50, 51, 52, 53, 54, 55, 56, 57, 58, 59, 60, 61, 62, 63, 64, 65, 66, 67, 68, 69, 70, 71, 72, 73, 74, 75, 76, 77, 78, 79, 80, 81, 82, 83, 84, 85, 86, 87, 88] (by decide +kernel) (by decide +kernel)) (goodIn_sub (fun _ h => List.mem_cons_of_mem _ (List.mem_append_right _ h)) (by decide +kernel))
set_option maxRecDepth 20000 in
theorem gX12_delayLeft_X12_existingEngine : GoodIn wsX12_delayLeft (wsV RX12 162 RX12 yX12_existingEngine wsX12_existingEngine) := goodIn_app (goodIn_of _ (by decide +kernel)) ggX12_delayLeft_X12_existingEngine
theorem dX12_delayLeft_0 : decode cX12_delayLeft 0 = .ok (.aload_n 0, 1) := by decide +kernel
theorem dX12_delayLeft_1 : decode cX12_delayLeft 1 = .ok (.iload_n 1, 1) := by decide +kernel
theorem dX12_delayLeft_2 : decode cX12_delayLeft 2 = .ok (.invokevirtual 162, 3) := by decide +kernel
theorem dX12_delayLeft_5 : decode cX12_delayLeft 5 = .ok (.getfield 189, 3) := by decide +kernel
theorem dX12_delayLeft_8 : decode cX12_delayLeft 8 = .ok (.ireturn, 1) := by decide +kernel
set_option maxRecDepth 20000 in
theorem ggX12_stall_X12_existingEngine : GoodIn wsX12_stall wsX12_existingEngine := goodIn_ca (goodIn_r _ [6, 7, 8, 9, 10, 11, 12, 13, 14, 15, 16, 17, 18, 33, 34, 35, 36, 37, 38, 39, 40, 41, 42, 43, 44, 45, 46, 47, 48, 49, 50, 51, 52, 53, 54, 55, 56, 57, 58, 59, 60, 61, 62, 63, 64, 65, 66, 67, 68, 69, 70, 71, 72, 73, 74, 75, 76, 77, 78, 79, 80, 81, 82, 83, 84, 85, 86, 87, 88] (by decide +kernel) (by decide +kernel)) (goodIn_sub (fun _ h => List.mem_cons_of_mem _ (List.mem_append_right _ h)) (by decide +kernel))
set_option maxRecDepth 20000 in
theorem gX12_stall_X12_existingEngine : GoodIn wsX12_stall (wsV RX12 162 RX12 yX12_existingEngine wsX12_existingEngine) := goodIn_app (goodIn_of _ (by decide +kernel)) ggX12_stall_X12_existingEngine
theorem dX12_stall_0 : decode cX12_stall 0 = .ok (.aload_n 0, 1) := by decide +kernel
theorem dX12_stall_1 : decode cX12_stall 1 = .ok (.iload_n 1, 1) := by decide +kernel
theorem dX12_stall_2 : decode cX12_stall 2 = .ok (.invokevirtual 162, 3) := by decide +kernel
theorem dX12_stall_5 : decode cX12_stall 5 = .ok (.getfield 192, 3) := by decide +kernel
theorem dX12_stall_8 : decode cX12_stall 8 = .ok (.ireturn, 1) := by decide +kernel
set_option maxRecDepth 20000 in
theorem ggX12_isEnabled_X12_existingEngine : GoodIn wsX12_isEnabled wsX12_existingEngine := goodIn_ca (goodIn_r _ [6, 7, 8, 9, 10, 11, 12, 13, 14, 15, 16, 17, 18, 33, 34, 35, 36, 37, 38, 39, 40, 41, 42, 43, 44, 45, 46, 47, 48, 49, 50, 51, 52, 53, 54, 55, 56, 57, 58, 59, 60, 61, 62, 63, 64, 65, 66, 67, 68, 69, 70, 71, 72, 73, 74, 75, 76, 77, 78, 79, 80, 81, 82, 83, 84, 85, 86, 87, 88] (by decide +kernel) (by decide +kernel)) (goodIn_sub (fun _ h => List.mem_cons_of_mem _ (List.mem_append_right _ h)) (by decide +kernel))
set_option maxRecDepth 20000 in
theorem gX12_isEnabled_X12_existingEngine : GoodIn wsX12_isEnabled (wsV RX12 162 RX12 yX12_existingEngine wsX12_existingEngine) := goodIn_app (goodIn_of _ (by decide +kernel)) ggX12_isEnabled_X12_existingEngine
theorem dX12_isEnabled_0 : decode cX12_isEnabled 0 = .ok (.aload_n 0, 1) := by decide +kernel
theorem dX12_isEnabled_1 : decode cX12_isEnabled 1 = .ok (.iload_n 1, 1) := by decide +kernel
theorem dX12_isEnabled_2 : decode cX12_isEnabled 2 = .ok (.invokevirtual 162, 3) := by decide +kernel
theorem dX12_isEnabled_5 : decode cX12_isEnabled 5 = .ok (.getfield 195, 3) := by decide +kernel
theorem dX12_isEnabled_8 : decode cX12_isEnabled 8 = .ok (.ireturn, 1) := by decide +kernel
set_option maxRecDepth 20000 in
theorem ggX12_queueSize_X12_existingQueue : GoodIn wsX12_queueSize wsX12_existingQueue := goodIn_ca (goodIn_r _ [6, 7, 8, 9, 10, 11, 5, 12, 13, 14, 15, 16, 17, 18, 19, 20, 21, 22, 23, 24, 29, 30, 31, 32, 33, 34, 35, 36, 37, 38, 39, 40, 41, 42, 43, 44, 45, 46, 47, 48, 49, 50, 51, 52, 53, 54, 55, 56, 57, 58, 59, 60, 61, 62, 63, 64, 65, 66, 67, 68, 69, 70, 71, 72, 73, 74, 75, 76, 77, 78, 79, 80, 81, 82, 83, 84, 85, 86, 87, 88, 89, 90, 91, 92, 93, 94, 95, 96, 97, 98] (by decide +kernel) (by decide +kernel)) (goodIn_sub (fun _ h => List.mem_cons_of_mem _ (List.mem_append_right _ h)) (by decide +kernel))
set_option maxRecDepth 20000 in
theorem gX12_queueSize_X12_existingQueue : GoodIn wsX12_queueSize (wsV RX12 198 RX12 yX12_existingQueue wsX12_existingQueue) := goodIn_app (goodIn_of _ (by decide +kernel)) ggX12_queueSize_X12_existingQueue
theorem dX12_queueSize_0 : decode cX12_queueSize 0 = .ok (.aload_n 0, 1) := by decide +kernel
theorem dX12_queueSize_1 : decode cX12_queueSize 1 = .ok (.iload_n 1, 1) := by decide +kernel
theorem dX12_queueSize_2 : decode cX12_queueSize 2 = .ok (.iload_n 2, 1) := by decide +kernel
theorem dX12_queueSize_3 : decode cX12_queueSize 3 = .ok (.invokevirtual 198, 3) := by decide +kernel
theorem dX12_queueSize_6 : decode cX12_queueSize 6 = .ok (.getfield 202, 3) := by decide +kernel
theorem dX12_queueSize_9 : decode cX12_queueSize 9 = .ok (.ireturn, 1) := by decide +kernel
set_option maxRecDepth 20000 in
theorem ggX12_queued_X12_existingQueue : GoodIn wsX12_queued wsX12_existingQueue := goodIn_ca (goodIn_r _ [9, 10, 11, 12, 13, 14, 8, 15, 1, 2, 16, 17, 18, 19, 20, 21, 22, 23, 24, 25, 42, 43, 44, 45, 46, 47, 48, 49, 50, 51, 52, 53, 54, 55, 56, 57, 58, 59, 60, 61, 62, 63, 64, 65, 66, 67, 68, 69, 70, 71, 72, 73, 74, 75, 76, 77, 78, 79, 80, 81, 82, 83, 84, 85, 86, 87, 88, 89, 90, 91, 92, 93, 94, 95, 96, 97, 98, 99, 100, 101, 102, 103, 104, 105, 106, 107, 108, 109, 110, 111] (by decide +kernel) (by decide +kernel)) (goodIn_sub (fun _ h => List.mem_cons_of_mem _ (List.mem_append_right _ h)) (by decide +kernel))
set_option maxRecDepth 20000 in
theorem gX12_queued_X12_existingQueue : GoodIn wsX12_queued (wsV RX12 198 RX12 yX12_existingQueue wsX12_existingQueue) := goodIn_app (goodIn_of _ (by decide +kernel)) ggX12_queued_X12_existingQueue
set_option maxRecDepth 20000 in
theorem ggX12_queued_X7_wordAt : GoodIn wsX12_queued wsX7_wordAt := goodIn_r _ [30, 31, 32, 33, 38, 39, 40, 41] (by decide +kernel) (by decide +kernel)
set_option maxRecDepth 20000 in
theorem gX12_queued_X7_wordAt : GoodIn wsX12_queued (wsV RX12 207 RX7 yX7_wordAt wsX7_wordAt) := goodIn_app (goodIn_of _ (by decide +kernel)) ggX12_queued_X7_wordAt
set_option maxRecDepth 20000 in
theorem ggX12_queued_X12_unsigned : GoodIn wsX12_queued wsX12_unsigned := goodIn_r _ [36, 37] (by decide +kernel) (by decide +kernel)
set_option maxRecDepth 20000 in
theorem gX12_queued_X12_unsigned : GoodIn wsX12_queued (va_wsS RX12 211 yX12_unsigned wsX12_unsigned) := goodIn_app (goodIn_of _ (by decide +kernel)) ggX12_queued_X12_unsigned
theorem dX12_queued_0 : decode cX12_queued 0 = .ok (.aload_n 0, 1) := by decide +kernel
theorem dX12_queued_1 : decode cX12_queued 1 = .ok (.iload_n 1, 1) := by decide +kernel
theorem dX12_queued_2 : decode cX12_queued 2 = .ok (.iload_n 2, 1) := by decide +kernel
theorem dX12_queued_3 : decode cX12_queued 3 = .ok (.invokevirtual 198, 3) := by decide +kernel
theorem dX12_queued_6 : decode cX12_queued 6 = .ok (.astore 4, 2) := by decide +kernel
theorem dX12_queued_8 : decode cX12_queued 8 = .ok (.iload_n 3, 1) := by decide +kernel
theorem dX12_queued_9 : decode cX12_queued 9 = .ok (.ifCond .ge 11, 3) := by decide +kernel
theorem dX12_queued_12 : decode cX12_queued 12 = .ok (.new 146, 3) := by decide +kernel
theorem dX12_queued_15 : decode cX12_queued 15 = .ok (.dup, 1) := by decide +kernel
theorem dX12_queued_16 : decode cX12_queued 16 = .ok (.invokespecial 148, 3) := by decide +kernel
theorem dX12_queued_19 : decode cX12_queued 19 = .ok (.athrow, 1) := by decide +kernel
theorem dX12_queued_20 : decode cX12_queued 20 = .ok (.iload_n 3, 1) := by decide +kernel
theorem dX12_queued_21 : decode cX12_queued 21 = .ok (.aload 4, 2) := by decide +kernel
theorem dX12_queued_23 : decode cX12_queued 23 = .ok (.getfield 202, 3) := by decide +kernel
theorem dX12_queued_26 : decode cX12_queued 26 = .ok (.if_icmp .ge 15, 3) := by decide +kernel
theorem dX12_queued_29 : decode cX12_queued 29 = .ok (.aload 4, 2) := by decide +kernel
theorem dX12_queued_31 : decode cX12_queued 31 = .ok (.iload_n 3, 1) := by decide +kernel
theorem dX12_queued_32 : decode cX12_queued 32 = .ok (.invokevirtual 207, 3) := by decide +kernel
theorem dX12_queued_35 : decode cX12_queued 35 = .ok (.invokestatic 211, 3) := by decide +kernel
theorem dX12_queued_38 : decode cX12_queued 38 = .ok (.goto 6, 3) := by decide +kernel
theorem dX12_queued_41 : decode cX12_queued 41 = .ok (.ldc2_w 215, 3) := by decide +kernel
theorem dX12_queued_44 : decode cX12_queued 44 = .ok (.lreturn, 1) := by decide +kernel
set_option maxRecDepth 20000 in
theorem ggX12_count_X12_existingEngine : GoodIn wsX12_count wsX12_existingEngine := goodIn_ca (goodIn_r _ [8, 1, 2, 9, 10, 11, 12, 13, 14, 15, 16, 17, 18, 33, 34, 35, 36, 37, 38, 39, 40, 41, 42, 43, 44, 45, 46, 47, 48, 49, 50, 51, 52, 53, 54, 55, 56, 57, 58, 59, 60, 61, 62, 63, 64, 65, 66, 67, 68, 69, 70, 71, 72, 73, 74, 75, 76, 77, 78, 79, 80, 81, 82, 83, 84, 85, 86, 87, 88] (by decide +kernel) (by decide +kernel)) (goodIn_sub (fun _ h => List.mem_cons_of_mem _ (List.mem_append_right _ h)) (by decide +kernel))
set_option maxRecDepth 20000 in
theorem gX12_count_X12_existingEngine : GoodIn wsX12_count (wsV RX12 162 RX12 yX12_existingEngine wsX12_existingEngine) := goodIn_app (goodIn_of _ (by decide +kernel)) ggX12_count_X12_existingEngine
theorem dX12_count_0 : decode cX12_count 0 = .ok (.aload_n 0, 1) := by decide +kernel
theorem dX12_count_1 : decode cX12_count 1 = .ok (.iload_n 1, 1) := by decide +kernel
theorem dX12_count_2 : decode cX12_count 2 = .ok (.invokevirtual 162, 3) := by decide +kernel
theorem dX12_count_5 : decode cX12_count 5 = .ok (.astore_n 3, 1) := by decide +kernel
theorem dX12_count_6 : decode cX12_count 6 = .ok (.iload_n 2, 1) := by decide +kernel
theorem dX12_count_7 : decode cX12_count 7 = .ok (.ifCond .lt 9, 3) := by decide +kernel
theorem dX12_count_10 : decode cX12_count 10 = .ok (.iload_n 2, 1) := by decide +kernel
theorem dX12_count_11 : decode cX12_count 11 = .ok (.bipush 6, 2) := by decide +kernel
theorem dX12_count_13 : decode cX12_count 13 = .ok (.if_icmp .lt 11, 3) := by decide +kernel
theorem dX12_count_16 : decode cX12_count 16 = .ok (.new 146, 3) := by decide +kernel
theorem dX12_count_19 : decode cX12_count 19 = .ok (.dup, 1) := by decide +kernel
theorem dX12_count_20 : decode cX12_count 20 = .ok (.invokespecial 148, 3) := by decide +kernel
theorem dX12_count_23 : decode cX12_count 23 = .ok (.athrow, 1) := by decide +kernel
theorem dX12_count_24 : decode cX12_count 24 = .ok (.aload_n 3, 1) := by decide +kernel
theorem dX12_count_25 : decode cX12_count 25 = .ok (.getfield 217, 3) := by decide +kernel
theorem dX12_count_28 : decode cX12_count 28 = .ok (.iload_n 2, 1) := by decide +kernel
theorem dX12_count_29 : decode cX12_count 29 = .ok (.iaload, 1) := by decide +kernel
theorem dX12_count_30 : decode cX12_count 30 = .ok (.ireturn, 1) := by decide +kernel
set_option maxRecDepth 20000 in
theorem ggX12_levelAt_X12_checkPin : GoodIn wsX12_levelAt wsX12_checkPin := goodIn_ca (goodIn_r _ [8, 1, 2] (by decide +kernel) (by decide +kernel)) (goodIn_sub (fun _ h => List.mem_cons_of_mem _ (List.mem_append_right _ h)) (by decide +kernel))
set_option maxRecDepth 20000 in
theorem gX12_levelAt_X12_checkPin : GoodIn wsX12_levelAt (va_wsS RX12 134 yX12_checkPin wsX12_checkPin) := goodIn_app (goodIn_of _ (by decide +kernel)) ggX12_levelAt_X12_checkPin
set_option maxRecDepth 20000 in
theorem ggX12_levelAt_X3_levelsAfter : GoodIn wsX12_levelAt wsX3_levelsAfter := goodIn_r _ [13, 14, 32, 33, 34, 35, 36, 37, 38, 39, 40, 41, 42, 43, 44, 45] (by decide +kernel) (by decide +kernel)
set_option maxRecDepth 20000 in
theorem gX12_levelAt_X3_levelsAfter : GoodIn wsX12_levelAt (wsV RX12 220 RX3 yX3_levelsAfter wsX3_levelsAfter) := goodIn_app (goodIn_of _ (by decide +kernel)) ggX12_levelAt_X3_levelsAfter
theorem dX12_levelAt_0 : decode cX12_levelAt 0 = .ok (.iload_n 1, 1) := by decide +kernel
theorem dX12_levelAt_1 : decode cX12_levelAt 1 = .ok (.invokestatic 134, 3) := by decide +kernel
theorem dX12_levelAt_4 : decode cX12_levelAt 4 = .ok (.iload_n 2, 1) := by decide +kernel
theorem dX12_levelAt_5 : decode cX12_levelAt 5 = .ok (.ifCond .lt 9, 3) := by decide +kernel
theorem dX12_levelAt_8 : decode cX12_levelAt 8 = .ok (.iload_n 2, 1) := by decide +kernel
theorem dX12_levelAt_9 : decode cX12_levelAt 9 = .ok (.bipush 64, 2) := by decide +kernel
theorem dX12_levelAt_11 : decode cX12_levelAt 11 = .ok (.if_icmp .lt 11, 3) := by decide +kernel
theorem dX12_levelAt_14 : decode cX12_levelAt 14 = .ok (.new 146, 3) := by decide +kernel
theorem dX12_levelAt_17 : decode cX12_levelAt 17 = .ok (.dup, 1) := by decide +kernel
theorem dX12_levelAt_18 : decode cX12_levelAt 18 = .ok (.invokespecial 148, 3) := by decide +kernel
theorem dX12_levelAt_21 : decode cX12_levelAt 21 = .ok (.athrow, 1) := by decide +kernel
theorem dX12_levelAt_22 : decode cX12_levelAt 22 = .ok (.aload_n 0, 1) := by decide +kernel
theorem dX12_levelAt_23 : decode cX12_levelAt 23 = .ok (.getfield 51, 3) := by decide +kernel
theorem dX12_levelAt_26 : decode cX12_levelAt 26 = .ok (.getfield 131, 3) := by decide +kernel
theorem dX12_levelAt_29 : decode cX12_levelAt 29 = .ok (.iconst 1, 1) := by decide +kernel
theorem dX12_levelAt_30 : decode cX12_levelAt 30 = .ok (.isub, 1) := by decide +kernel
theorem dX12_levelAt_31 : decode cX12_levelAt 31 = .ok (.iload_n 2, 1) := by decide +kernel
theorem dX12_levelAt_32 : decode cX12_levelAt 32 = .ok (.isub, 1) := by decide +kernel
theorem dX12_levelAt_33 : decode cX12_levelAt 33 = .ok (.istore_n 3, 1) := by decide +kernel
theorem dX12_levelAt_34 : decode cX12_levelAt 34 = .ok (.iload_n 3, 1) := by decide +kernel
theorem dX12_levelAt_35 : decode cX12_levelAt 35 = .ok (.ifCond .ge 7, 3) := by decide +kernel
theorem dX12_levelAt_38 : decode cX12_levelAt 38 = .ok (.iconst (-1), 1) := by decide +kernel
theorem dX12_levelAt_39 : decode cX12_levelAt 39 = .ok (.goto 15, 3) := by decide +kernel
theorem dX12_levelAt_42 : decode cX12_levelAt 42 = .ok (.aload_n 0, 1) := by decide +kernel
theorem dX12_levelAt_43 : decode cX12_levelAt 43 = .ok (.getfield 51, 3) := by decide +kernel
theorem dX12_levelAt_46 : decode cX12_levelAt 46 = .ok (.iload_n 3, 1) := by decide +kernel
theorem dX12_levelAt_47 : decode cX12_levelAt 47 = .ok (.invokevirtual 220, 3) := by decide +kernel
theorem dX12_levelAt_50 : decode cX12_levelAt 50 = .ok (.iload_n 1, 1) := by decide +kernel
theorem dX12_levelAt_51 : decode cX12_levelAt 51 = .ok (.ishr, 1) := by decide +kernel
theorem dX12_levelAt_52 : decode cX12_levelAt 52 = .ok (.iconst 1, 1) := by decide +kernel
theorem dX12_levelAt_53 : decode cX12_levelAt 53 = .ok (.iand, 1) := by decide +kernel
theorem dX12_levelAt_54 : decode cX12_levelAt 54 = .ok (.ireturn, 1) := by decide +kernel
set_option maxRecDepth 20000 in
theorem ggX12_edges_X12_checkPin : GoodIn wsX12_edges wsX12_checkPin := goodIn_ca (goodIn_r _ [6, 7, 8] (by decide +kernel) (by decide +kernel)) (goodIn_sub (fun _ h => List.mem_cons_of_mem _ (List.mem_append_right _ h)) (by decide +kernel))
set_option maxRecDepth 20000 in
theorem gX12_edges_X12_checkPin : GoodIn wsX12_edges (va_wsS RX12 134 yX12_checkPin wsX12_checkPin) := goodIn_app (goodIn_of _ (by decide +kernel)) ggX12_edges_X12_checkPin
theorem dX12_edges_0 : decode cX12_edges 0 = .ok (.iload_n 1, 1) := by decide +kernel
theorem dX12_edges_1 : decode cX12_edges 1 = .ok (.invokestatic 134, 3) := by decide +kernel
theorem dX12_edges_4 : decode cX12_edges 4 = .ok (.aload_n 0, 1) := by decide +kernel
theorem dX12_edges_5 : decode cX12_edges 5 = .ok (.getfield 51, 3) := by decide +kernel
theorem dX12_edges_8 : decode cX12_edges 8 = .ok (.getfield 223, 3) := by decide +kernel
theorem dX12_edges_11 : decode cX12_edges 11 = .ok (.iload_n 1, 1) := by decide +kernel
theorem dX12_edges_12 : decode cX12_edges 12 = .ok (.iaload, 1) := by decide +kernel
theorem dX12_edges_13 : decode cX12_edges 13 = .ok (.ireturn, 1) := by decide +kernel
set_option maxRecDepth 20000 in
theorem ggX12_highTime_X12_checkPin : GoodIn wsX12_highTime wsX12_checkPin := goodIn_ca (goodIn_r _ [5, 6, 7] (by decide +kernel) (by decide +kernel)) (goodIn_sub (fun _ h => List.mem_cons_of_mem _ (List.mem_append_right _ h)) (by decide +kernel))
set_option maxRecDepth 20000 in
theorem gX12_highTime_X12_checkPin : GoodIn wsX12_highTime (va_wsS RX12 134 yX12_checkPin wsX12_checkPin) := goodIn_app (goodIn_of _ (by decide +kernel)) ggX12_highTime_X12_checkPin
set_option maxRecDepth 20000 in
theorem ggX12_highTime_X3_highCycles : GoodIn wsX12_highTime wsX3_highCycles := goodIn_r _ [12, 13, 14, 15, 33, 34, 35, 36, 37, 38, 39, 40, 41, 42, 43, 44, 45, 46] (by decide +kernel) (by decide +kernel)
set_option maxRecDepth 20000 in
theorem gX12_highTime_X3_highCycles : GoodIn wsX12_highTime (wsV RX12 226 RX3 yX3_highCycles wsX3_highCycles) := goodIn_app (goodIn_of _ (by decide +kernel)) ggX12_highTime_X3_highCycles
theorem dX12_highTime_0 : decode cX12_highTime 0 = .ok (.iload_n 1, 1) := by decide +kernel
theorem dX12_highTime_1 : decode cX12_highTime 1 = .ok (.invokestatic 134, 3) := by decide +kernel
theorem dX12_highTime_4 : decode cX12_highTime 4 = .ok (.aload_n 0, 1) := by decide +kernel
theorem dX12_highTime_5 : decode cX12_highTime 5 = .ok (.getfield 51, 3) := by decide +kernel
theorem dX12_highTime_8 : decode cX12_highTime 8 = .ok (.iload_n 1, 1) := by decide +kernel
theorem dX12_highTime_9 : decode cX12_highTime 9 = .ok (.invokevirtual 226, 3) := by decide +kernel
theorem dX12_highTime_12 : decode cX12_highTime 12 = .ok (.ireturn, 1) := by decide +kernel
set_option maxRecDepth 20000 in
theorem ggX12_put_X12_existingQueue : GoodIn wsX12_put wsX12_existingQueue := goodIn_ca (goodIn_r _ [6, 7, 8, 9, 10, 11, 5, 12, 13, 14, 15, 16, 17, 18, 19, 20, 21, 22, 23, 24, 102, 103, 104, 105, 106, 107, 108, 109, 110, 111, 112, 113, 114, 115, 116, 117, 118, 119, 120, 121, 122, 123, 124, 125, 126, 127, 128, 129, 130, 131, 132, 133, 134, 135, 136, 137, 138, 139, 140, 141, 142, 143, 144, 145, 146, 147, 148, 149, 150, 151, 152, 153, 154, 155, 156, 157, 158, 159, 160, 161, 162, 163, 164, 165, 166, 167, 168, 169, 170, 171] (by decide +kernel) (by decide +kernel)) (goodIn_sub (fun _ h => List.mem_cons_of_mem _ (List.mem_append_right _ h)) (by decide +kernel))
set_option maxRecDepth 20000 in
theorem gX12_put_X12_existingQueue : GoodIn wsX12_put (wsV RX12 198 RX12 yX12_existingQueue wsX12_existingQueue) := goodIn_app (goodIn_of _ (by decide +kernel)) ggX12_put_X12_existingQueue
set_option maxRecDepth 20000 in
theorem ggX12_put_X7_isFull : GoodIn wsX12_put wsX7_isFull := goodIn_r _ [29, 30, 31, 98, 99, 100, 101] (by decide +kernel) (by decide +kernel)
set_option maxRecDepth 20000 in
theorem gX12_put_X7_isFull : GoodIn wsX12_put (wsV RX12 229 RX7 yX7_isFull wsX7_isFull) := goodIn_app (goodIn_of _ (by decide +kernel)) ggX12_put_X7_isFull
set_option maxRecDepth 20000 in
theorem ggX12_put_X12_remember : GoodIn wsX12_put wsX12_remember := goodIn_r _ [35, 36, 37, 16, 38, 39, 40, 41, 42, 43, 44, 45, 46, 47, 48, 49, 50, 51, 52, 53, 54, 55, 56, 57, 58, 59, 60, 61, 62, 63, 64, 65, 66, 67, 68, 69, 70, 71, 72, 73, 74, 75, 76, 77, 78, 79, 80, 81, 82, 83, 84, 85, 86, 87, 88, 28, 89, 30, 31, 90, 91, 92, 116, 117, 118, 119, 120, 121, 122, 123, 124, 125, 126, 127, 128, 129, 130, 131, 132, 133, 134, 135, 136, 137, 138, 139, 140, 141, 142, 143, 144, 145, 146, 102, 103, 104, 105, 106, 107, 108, 109, 110, 111, 112, 113, 114, 115, 98, 99, 100, 101] (by decide +kernel) (by decide +kernel)
set_option maxRecDepth 20000 in
theorem gX12_put_X12_remember : GoodIn wsX12_put (wsV RX12 233 RX12 yX12_remember wsX12_remember) := goodIn_app (goodIn_of _ (by decide +kernel)) ggX12_put_X12_remember
set_option maxRecDepth 20000 in
theorem ggX12_put_X7_append : GoodIn wsX12_put wsX7_append := goodIn_r _ [96, 91, 90, 30, 97, 26, 27, 28, 29, 31, 98, 99, 100, 101] (by decide +kernel) (by decide +kernel)
set_option maxRecDepth 20000 in
theorem gX12_put_X7_append : GoodIn wsX12_put (wsV RX12 236 RX7 yX7_append wsX7_append) := goodIn_app (goodIn_of _ (by decide +kernel)) ggX12_put_X7_append
theorem dX12_put_0 : decode cX12_put 0 = .ok (.aload_n 0, 1) := by decide +kernel
theorem dX12_put_1 : decode cX12_put 1 = .ok (.iload_n 1, 1) := by decide +kernel
theorem dX12_put_2 : decode cX12_put 2 = .ok (.iconst 0, 1) := by decide +kernel
theorem dX12_put_3 : decode cX12_put 3 = .ok (.invokevirtual 198, 3) := by decide +kernel
theorem dX12_put_6 : decode cX12_put 6 = .ok (.astore_n 3, 1) := by decide +kernel
theorem dX12_put_7 : decode cX12_put 7 = .ok (.aload_n 3, 1) := by decide +kernel
theorem dX12_put_8 : decode cX12_put 8 = .ok (.invokevirtual 229, 3) := by decide +kernel
theorem dX12_put_11 : decode cX12_put 11 = .ok (.ifCond .eq 6, 3) := by decide +kernel
theorem dX12_put_14 : decode cX12_put 14 = .ok (.bipush (-2), 2) := by decide +kernel
theorem dX12_put_16 : decode cX12_put 16 = .ok (.ireturn, 1) := by decide +kernel
theorem dX12_put_17 : decode cX12_put 17 = .ok (.aload_n 0, 1) := by decide +kernel
theorem dX12_put_18 : decode cX12_put 18 = .ok (.invokevirtual 233, 3) := by decide +kernel
theorem dX12_put_21 : decode cX12_put 21 = .ok (.aload_n 3, 1) := by decide +kernel
theorem dX12_put_22 : decode cX12_put 22 = .ok (.iload_n 2, 1) := by decide +kernel
theorem dX12_put_23 : decode cX12_put 23 = .ok (.invokevirtual 236, 3) := by decide +kernel
theorem dX12_put_26 : decode cX12_put 26 = .ok (.aload_n 3, 1) := by decide +kernel
theorem dX12_put_27 : decode cX12_put 27 = .ok (.getfield 202, 3) := by decide +kernel
theorem dX12_put_30 : decode cX12_put 30 = .ok (.ireturn, 1) := by decide +kernel
set_option maxRecDepth 20000 in
theorem ggX12_take_X12_existingQueue : GoodIn wsX12_take wsX12_existingQueue := goodIn_ca (goodIn_r _ [7, 8, 9, 10, 11, 12, 6, 13, 14, 15, 16, 17, 18, 19, 20, 21, 22, 23, 24, 25, 102, 103, 104, 105, 106, 107, 108, 109, 110, 111, 112, 113, 114, 115, 116, 117, 118, 119, 120, 121, 122, 123, 124, 125, 126, 127, 128, 129, 130, 131, 132, 133, 134, 135, 136, 137, 138, 139, 140, 141, 142, 143, 144, 145, 146, 147, 148, 149, 150, 151, 152, 153, 154, 155, 156, 157, 158, 159, 160, 161, 162, 163, 164, 165, 166, 167, 168, 169, 170, 171] (by decide +kernel) (by decide +kernel)) (goodIn_sub (fun _ h => List.mem_cons_of_mem _ (List.mem_append_right _ h)) (by decide +kernel))
set_option maxRecDepth 20000 in
theorem gX12_take_X12_existingQueue : GoodIn wsX12_take (wsV RX12 198 RX12 yX12_existingQueue wsX12_existingQueue) := goodIn_app (goodIn_of _ (by decide +kernel)) ggX12_take_X12_existingQueue
set_option maxRecDepth 20000 in
theorem ggX12_take_X12_remember : GoodIn wsX12_take wsX12_remember := goodIn_r _ [29, 30, 31, 17, 32, 33, 34, 35, 36, 37, 38, 39, 40, 41, 42, 43, 44, 45, 46, 47, 48, 49, 50, 51, 52, 53, 54, 55, 56, 57, 58, 59, 60, 61, 62, 63, 64, 65, 66, 67, 68, 69, 70, 71, 72, 73, 74, 75, 76, 77, 78, 79, 80, 81, 82, 83, 84, 85, 86, 87, 88, 89, 116, 117, 118, 119, 120, 121, 122, 123, 124, 125, 126, 127, 128, 129, 130, 131, 132, 133, 134, 135, 136, 137, 138, 139, 140, 141, 142, 143, 144, 145, 146, 102, 103, 104, 105, 106, 107, 108, 109, 110, 111, 112, 113, 114, 115, 98, 99, 100, 101] (by decide +kernel) (by decide +kernel)
set_option maxRecDepth 20000 in
theorem gX12_take_X12_remember : GoodIn wsX12_take (wsV RX12 233 RX12 yX12_remember wsX12_remember) := goodIn_app (goodIn_of _ (by decide +kernel)) ggX12_take_X12_remember
set_option maxRecDepth 20000 in
theorem ggX12_take_X7_removeFirst : GoodIn wsX12_take wsX7_removeFirst := goodIn_r _ [93, 85, 88, 87, 98, 99, 100, 101] (by decide +kernel) (by decide +kernel)
set_option maxRecDepth 20000 in
theorem gX12_take_X7_removeFirst : GoodIn wsX12_take (wsV RX12 241 RX7 yX7_removeFirst wsX7_removeFirst) := goodIn_app (goodIn_of _ (by decide +kernel)) ggX12_take_X7_removeFirst
set_option maxRecDepth 20000 in
theorem ggX12_take_X12_unsigned : GoodIn wsX12_take wsX12_unsigned := goodIn_r _ [96, 97] (by decide +kernel) (by decide +kernel)
set_option maxRecDepth 20000 in
theorem gX12_take_X12_unsigned : GoodIn wsX12_take (va_wsS RX12 211 yX12_unsigned wsX12_unsigned) := goodIn_app (goodIn_of _ (by decide +kernel)) ggX12_take_X12_unsigned
theorem dX12_take_0 : decode cX12_take 0 = .ok (.aload_n 0, 1) := by decide +kernel
theorem dX12_take_1 : decode cX12_take 1 = .ok (.iload_n 1, 1) := by decide +kernel
theorem dX12_take_2 : decode cX12_take 2 = .ok (.iconst 1, 1) := by decide +kernel
theorem dX12_take_3 : decode cX12_take 3 = .ok (.invokevirtual 198, 3) := by decide +kernel
theorem dX12_take_6 : decode cX12_take 6 = .ok (.astore_n 2, 1) := by decide +kernel
theorem dX12_take_7 : decode cX12_take 7 = .ok (.aload_n 2, 1) := by decide +kernel
theorem dX12_take_8 : decode cX12_take 8 = .ok (.getfield 202, 3) := by decide +kernel
theorem dX12_take_11 : decode cX12_take 11 = .ok (.ifCond .ne 7, 3) := by decide +kernel
theorem dX12_take_14 : decode cX12_take 14 = .ok (.ldc2_w 239, 3) := by decide +kernel
theorem dX12_take_17 : decode cX12_take 17 = .ok (.lreturn, 1) := by decide +kernel
theorem dX12_take_18 : decode cX12_take 18 = .ok (.aload_n 0, 1) := by decide +kernel
theorem dX12_take_19 : decode cX12_take 19 = .ok (.invokevirtual 233, 3) := by decide +kernel
theorem dX12_take_22 : decode cX12_take 22 = .ok (.aload_n 2, 1) := by decide +kernel
theorem dX12_take_23 : decode cX12_take 23 = .ok (.invokevirtual 241, 3) := by decide +kernel
theorem dX12_take_26 : decode cX12_take 26 = .ok (.invokestatic 211, 3) := by decide +kernel
theorem dX12_take_29 : decode cX12_take 29 = .ok (.lreturn, 1) := by decide +kernel
set_option maxRecDepth 20000 in
theorem ggX12_enable_X12_existingEngine : GoodIn wsX12_enable wsX12_existingEngine := goodIn_ca (goodIn_r _ [6, 7, 8, 9, 10, 11, 12, 13, 14, 15, 16, 17, 18, 97, 98, 99, 100, 101, 102, 103, 104, 105, 106, 107, 108, 109, 110, 111, 112, 113, 114, 115, 116, 117, 118, 119, 120, 121, 122, 123, 124, 125, 126, 127, 128, 129, 130, 131, 132, 133, 134, 135, 136, 137, 138, 139, 140, 141, 142, 143, 144, 145, 146, 147, 148, 149, 150, 151, 152] (by decide +kernel) (by decide +kernel)) (goodIn_sub (fun _ h => List.mem_cons_of_mem _ (List.mem_append_right _ h)) (by decide +kernel))
set_option maxRecDepth 20000 in
theorem gX12_enable_X12_existingEngine : GoodIn wsX12_enable (wsV RX12 162 RX12 yX12_existingEngine wsX12_existingEngine) := goodIn_app (goodIn_of _ (by decide +kernel)) ggX12_enable_X12_existingEngine
set_option maxRecDepth 20000 in
theorem ggX12_enable_X12_remember : GoodIn wsX12_enable wsX12_remember := goodIn_r _ [22, 23, 24, 10, 25, 26, 27, 28, 29, 30, 31, 32, 33, 34, 35, 36, 37, 38, 39, 40, 41, 42, 43, 44, 45, 46, 47, 48, 49, 50, 51, 52, 53, 54, 55, 56, 57, 58, 59, 60, 61, 62, 63, 64, 65, 66, 67, 68, 69, 70, 71, 72, 73, 74, 75, 76, 77, 78, 79, 80, 81, 82, 97, 98, 99, 100, 101, 102, 103, 104, 105, 106, 107, 108, 109, 110, 111, 112, 113, 114, 115, 116, 117, 118, 119, 120, 121, 122, 123, 124, 125, 126, 127, 83, 84, 85, 86, 87, 88, 89, 90, 91, 92, 93, 94, 95, 96, 153, 154, 155, 156] (by decide +kernel) (by decide +kernel)
set_option maxRecDepth 20000 in
theorem gX12_enable_X12_remember : GoodIn wsX12_enable (wsV RX12 233 RX12 yX12_remember wsX12_remember) := goodIn_app (goodIn_of _ (by decide +kernel)) ggX12_enable_X12_remember
theorem dX12_enable_0 : decode cX12_enable 0 = .ok (.aload_n 0, 1) := by decide +kernel
theorem dX12_enable_1 : decode cX12_enable 1 = .ok (.iload_n 1, 1) := by decide +kernel
theorem dX12_enable_2 : decode cX12_enable 2 = .ok (.invokevirtual 162, 3) := by decide +kernel
theorem dX12_enable_5 : decode cX12_enable 5 = .ok (.astore_n 3, 1) := by decide +kernel
theorem dX12_enable_6 : decode cX12_enable 6 = .ok (.aload_n 0, 1) := by decide +kernel
theorem dX12_enable_7 : decode cX12_enable 7 = .ok (.invokevirtual 233, 3) := by decide +kernel
theorem dX12_enable_10 : decode cX12_enable 10 = .ok (.aload_n 3, 1) := by decide +kernel
theorem dX12_enable_11 : decode cX12_enable 11 = .ok (.getfield 195, 3) := by decide +kernel
theorem dX12_enable_14 : decode cX12_enable 14 = .ok (.istore 4, 2) := by decide +kernel
theorem dX12_enable_16 : decode cX12_enable 16 = .ok (.aload_n 3, 1) := by decide +kernel
theorem dX12_enable_17 : decode cX12_enable 17 = .ok (.iload_n 2, 1) := by decide +kernel
theorem dX12_enable_18 : decode cX12_enable 18 = .ok (.putfield 195, 3) := by decide +kernel
theorem dX12_enable_21 : decode cX12_enable 21 = .ok (.iload 4, 2) := by decide +kernel
theorem dX12_enable_23 : decode cX12_enable 23 = .ok (.ireturn, 1) := by decide +kernel
set_option maxRecDepth 20000 in
theorem ggX12_restart_X12_existingEngine : GoodIn wsX12_restart wsX12_existingEngine := goodIn_ca (goodIn_r _ [8, 9, 10, 2, 11, 12, 13, 14, 15, 16, 17, 18, 19, 119, 120, 121, 122, 123, 124, 125, 126, 127, 128, 129, 130, 131, 132, 133, 134, 135, 141, 142, 143, 144, 145, 146, 147, 148, 149, 150, 151, 152, 153, 154, 136, 137, 138, 139, 140, 155, 156, 157, 158, 159, 160, 161, 162, 163, 164, 165, 166, 167, 168, 169, 170, 171, 172, 173, 174] (by decide +kernel) (by decide +kernel)) (goodIn_sub (fun _ h => List.mem_cons_of_mem _ (List.mem_append_right _ h)) (by decide +kernel))
set_option maxRecDepth 20000 in
theorem gX12_restart_X12_existingEngine : GoodIn wsX12_restart (wsV RX12 162 RX12 yX12_existingEngine wsX12_existingEngine) := goodIn_app (goodIn_of _ (by decide +kernel)) ggX12_restart_X12_existingEngine
set_option maxRecDepth 20000 in
theorem ggX12_restart_X12_remember : GoodIn wsX12_restart wsX12_remember := goodIn_r _ [23, 24, 25, 11, 26, 27, 28, 29, 30, 31, 32, 33, 34, 35, 36, 37, 38, 39, 40, 41, 42, 43, 44, 45, 46, 47, 48, 49, 50, 51, 52, 53, 54, 55, 56, 57, 58, 59, 60, 61, 62, 63, 64, 65, 66, 67, 68, 69, 70, 71, 72, 73, 74, 75, 76, 77, 78, 79, 80, 81, 82, 83, 119, 120, 121, 122, 123, 124, 125, 126, 127, 128, 129, 130, 131, 132, 133, 134, 135, 141, 142, 143, 144, 145, 146, 147, 148, 149, 150, 151, 152, 153, 154, 105, 106, 107, 108, 109, 110, 111, 112, 113, 114, 115, 116, 117, 118, 175, 176, 177, 178] (by decide +kernel) (by decide +kernel)
set_option maxRecDepth 20000 in
theorem gX12_restart_X12_remember : GoodIn wsX12_restart (wsV RX12 233 RX12 yX12_remember wsX12_remember) := goodIn_app (goodIn_of _ (by decide +kernel)) ggX12_restart_X12_remember
set_option maxRecDepth 20000 in
theorem ggX12_restart_X1_reset : GoodIn wsX12_restart wsX1_reset := goodIn_r _ [87, 88, 59, 60, 61, 62, 63, 64, 65, 66, 67, 89, 68, 70, 90, 71, 91, 92, 93, 77, 94, 79, 81, 95, 28, 29, 30, 96, 97, 98, 80, 99, 100, 101, 102, 103, 104, 155, 156, 157, 158, 159, 160, 161, 162, 163, 164, 165, 166, 167, 168, 169, 170, 171, 172, 173, 174, 105, 106, 107, 108, 109, 110, 111, 112, 113, 114, 115, 116, 117, 118, 175, 176, 177, 178] (by decide +kernel) (by decide +kernel)
set_option maxRecDepth 20000 in
theorem gX12_restart_X1_reset : GoodIn wsX12_restart (wsV RX12 248 RX1 yX1_reset wsX1_reset) := goodIn_app (goodIn_of _ (by decide +kernel)) ggX12_restart_X1_reset
theorem dX12_restart_0 : decode cX12_restart 0 = .ok (.aload_n 0, 1) := by decide +kernel
theorem dX12_restart_1 : decode cX12_restart 1 = .ok (.iload_n 1, 1) := by decide +kernel
theorem dX12_restart_2 : decode cX12_restart 2 = .ok (.invokevirtual 162, 3) := by decide +kernel
theorem dX12_restart_5 : decode cX12_restart 5 = .ok (.astore_n 2, 1) := by decide +kernel
theorem dX12_restart_6 : decode cX12_restart 6 = .ok (.aload_n 0, 1) := by decide +kernel
theorem dX12_restart_7 : decode cX12_restart 7 = .ok (.invokevirtual 233, 3) := by decide +kernel
theorem dX12_restart_10 : decode cX12_restart 10 = .ok (.aload_n 2, 1) := by decide +kernel
theorem dX12_restart_11 : decode cX12_restart 11 = .ok (.getfield 166, 3) := by decide +kernel
theorem dX12_restart_14 : decode cX12_restart 14 = .ok (.istore_n 3, 1) := by decide +kernel
theorem dX12_restart_15 : decode cX12_restart 15 = .ok (.aload_n 2, 1) := by decide +kernel
theorem dX12_restart_16 : decode cX12_restart 16 = .ok (.aload_n 0, 1) := by decide +kernel
theorem dX12_restart_17 : decode cX12_restart 17 = .ok (.getfield 32, 3) := by decide +kernel
theorem dX12_restart_20 : decode cX12_restart 20 = .ok (.getfield 244, 3) := by decide +kernel
theorem dX12_restart_23 : decode cX12_restart 23 = .ok (.iload_n 1, 1) := by decide +kernel
theorem dX12_restart_24 : decode cX12_restart 24 = .ok (.aaload, 1) := by decide +kernel
theorem dX12_restart_25 : decode cX12_restart 25 = .ok (.invokevirtual 248, 3) := by decide +kernel
theorem dX12_restart_28 : decode cX12_restart 28 = .ok (.iload_n 3, 1) := by decide +kernel
theorem dX12_restart_29 : decode cX12_restart 29 = .ok (.ireturn, 1) := by decide +kernel
set_option maxRecDepth 20000 in
theorem ggX12_drive_X12_checkPin : GoodIn wsX12_drive wsX12_checkPin := goodIn_ca (goodIn_r _ [5, 6, 7] (by decide +kernel) (by decide +kernel)) (goodIn_sub (fun _ h => List.mem_cons_of_mem _ (List.mem_append_left _ (List.mem_append_right _ h))) (by decide +kernel))
set_option maxRecDepth 20000 in
theorem gX12_drive_X12_checkPin : GoodIn wsX12_drive (va_wsS RX12 134 yX12_checkPin wsX12_checkPin) := goodIn_app (goodIn_of _ (by decide +kernel)) ggX12_drive_X12_checkPin
set_option maxRecDepth 20000 in
theorem ggX12_drive_X12_checkLevel : GoodIn wsX12_drive wsX12_checkLevel := goodIn_ca (goodIn_r _ [10, 11, 12] (by decide +kernel) (by decide +kernel)) (goodIn_sub (fun _ h => List.mem_cons_of_mem _ (List.mem_append_right _ h)) (by decide +kernel))
set_option maxRecDepth 20000 in
theorem gX12_drive_X12_checkLevel : GoodIn wsX12_drive (va_wsS RX12 252 yX12_checkLevel wsX12_checkLevel) := goodIn_app (goodIn_of _ (by decide +kernel)) ggX12_drive_X12_checkLevel
set_option maxRecDepth 20000 in
theorem ggX12_drive_X12_remember : GoodIn wsX12_drive wsX12_remember := goodIn_r _ [16, 17, 18, 1, 19, 20, 21, 22, 23, 24, 25, 26, 27, 28, 29, 30, 31, 32, 33, 34, 35, 36, 37, 38, 39, 40, 41, 42, 43, 44, 45, 46, 47, 48, 49, 50, 51, 52, 53, 54, 55, 56, 57, 58, 59, 60, 61, 62, 63, 64, 65, 66, 67, 68, 69, 70, 71, 72, 73, 74, 75, 76, 85, 86, 87, 88, 89, 90, 91, 92, 93, 94, 95, 96, 97, 98, 99, 100, 101, 102, 103, 104, 105, 106, 107, 108, 109, 110, 111, 112, 113, 114, 115, 116, 117, 118, 119, 120, 121, 122, 123, 124, 125, 126, 127, 128, 129, 130, 131, 132, 133] (by decide +kernel) (by decide +kernel)
set_option maxRecDepth 20000 in
theorem gX12_drive_X12_remember : GoodIn wsX12_drive (wsV RX12 233 RX12 yX12_remember wsX12_remember) := goodIn_app (goodIn_of _ (by decide +kernel)) ggX12_drive_X12_remember
set_option maxRecDepth 20000 in
theorem ggX12_drive_X3_driveOutside : GoodIn wsX12_drive wsX3_driveOutside := goodIn_r _ [80, 32, 102, 103, 104, 105, 106, 107, 108, 109, 110, 111, 112, 113, 114, 115] (by decide +kernel) (by decide +kernel)
set_option maxRecDepth 20000 in
theorem gX12_drive_X3_driveOutside : GoodIn wsX12_drive (wsV RX12 255 RX3 yX3_driveOutside wsX3_driveOutside) := goodIn_app (goodIn_of _ (by decide +kernel)) ggX12_drive_X3_driveOutside
set_option maxRecDepth 20000 in
theorem ggX12_drive_X3_levels : GoodIn wsX12_drive wsX3_levels := goodIn_r _ [84, 30, 31, 32, 102, 103, 104, 105, 106, 107, 108, 109, 110, 111, 112, 113, 114, 115] (by decide +kernel) (by decide +kernel)
set_option maxRecDepth 20000 in
theorem gX12_drive_X3_levels : GoodIn wsX12_drive (wsV RX12 137 RX3 yX3_levels wsX3_levels) := goodIn_app (goodIn_of _ (by decide +kernel)) ggX12_drive_X3_levels
theorem dX12_drive_0 : decode cX12_drive 0 = .ok (.iload_n 1, 1) := by decide +kernel
theorem dX12_drive_1 : decode cX12_drive 1 = .ok (.invokestatic 134, 3) := by decide +kernel
theorem dX12_drive_4 : decode cX12_drive 4 = .ok (.iload_n 2, 1) := by decide +kernel
theorem dX12_drive_5 : decode cX12_drive 5 = .ok (.invokestatic 252, 3) := by decide +kernel
theorem dX12_drive_8 : decode cX12_drive 8 = .ok (.aload_n 0, 1) := by decide +kernel
theorem dX12_drive_9 : decode cX12_drive 9 = .ok (.invokevirtual 233, 3) := by decide +kernel
theorem dX12_drive_12 : decode cX12_drive 12 = .ok (.aload_n 0, 1) := by decide +kernel
theorem dX12_drive_13 : decode cX12_drive 13 = .ok (.getfield 51, 3) := by decide +kernel
theorem dX12_drive_16 : decode cX12_drive 16 = .ok (.iload_n 1, 1) := by decide +kernel
theorem dX12_drive_17 : decode cX12_drive 17 = .ok (.iload_n 2, 1) := by decide +kernel
theorem dX12_drive_18 : decode cX12_drive 18 = .ok (.invokevirtual 255, 3) := by decide +kernel
theorem dX12_drive_21 : decode cX12_drive 21 = .ok (.aload_n 0, 1) := by decide +kernel
theorem dX12_drive_22 : decode cX12_drive 22 = .ok (.getfield 51, 3) := by decide +kernel
theorem dX12_drive_25 : decode cX12_drive 25 = .ok (.invokevirtual 137, 3) := by decide +kernel
theorem dX12_drive_28 : decode cX12_drive 28 = .ok (.iload_n 1, 1) := by decide +kernel
theorem dX12_drive_29 : decode cX12_drive 29 = .ok (.ishr, 1) := by decide +kernel
theorem dX12_drive_30 : decode cX12_drive 30 = .ok (.iconst 1, 1) := by decide +kernel
theorem dX12_drive_31 : decode cX12_drive 31 = .ok (.iand, 1) := by decide +kernel
theorem dX12_drive_32 : decode cX12_drive 32 = .ok (.ireturn, 1) := by decide +kernel
set_option maxRecDepth 20000 in
theorem ggX12_schedule_X12_checkPin : GoodIn wsX12_schedule wsX12_checkPin := goodIn_ca (goodIn_r _ [10, 11, 12] (by decide +kernel) (by decide +kernel)) (goodIn_sub (fun _ h => List.mem_cons_of_mem _ (List.mem_append_right _ h)) (by decide +kernel))
set_option maxRecDepth 20000 in
theorem gX12_schedule_X12_checkPin : GoodIn wsX12_schedule (va_wsS RX12 134 yX12_checkPin wsX12_checkPin) := goodIn_app (goodIn_of _ (by decide +kernel)) ggX12_schedule_X12_checkPin
set_option maxRecDepth 20000 in
theorem ggX12_schedule_X12_checkLevel : GoodIn wsX12_schedule wsX12_checkLevel := goodIn_ca (goodIn_r _ [15, 1, 2] (by decide +kernel) (by decide +kernel)) (goodIn_sub (fun _ h => List.mem_cons_of_mem _ (List.mem_append_left _ (List.mem_append_right _ h))) (by decide +kernel))
set_option maxRecDepth 20000 in
theorem gX12_schedule_X12_checkLevel : GoodIn wsX12_schedule (va_wsS RX12 252 yX12_checkLevel wsX12_checkLevel) := goodIn_app (goodIn_of _ (by decide +kernel)) ggX12_schedule_X12_checkLevel
set_option maxRecDepth 20000 in
theorem ggX12_schedule_X12_remember : GoodIn wsX12_schedule wsX12_remember := goodIn_r _ [19, 20, 21, 3, 22, 23, 24, 25, 26, 27, 28, 29, 30, 31, 32, 33, 34, 35, 36, 37, 38, 39, 40, 41, 42, 43, 44, 45, 46, 47, 48, 49, 50, 51, 52, 53, 54, 55, 56, 57, 58, 59, 60, 61, 62, 63, 64, 65, 66, 67, 68, 69, 70, 71, 72, 73, 74, 75, 76, 77, 78, 79, 84, 85, 86, 87, 88, 89, 90, 91, 92, 93, 94, 95, 96, 97, 98, 99, 100, 101, 102, 103, 104, 105, 106, 107, 108, 109, 110, 111, 112, 113, 114, 115, 116, 117, 118, 119, 120, 121, 122, 123, 124, 125, 126, 127, 128, 129, 130, 131, 132] (by decide +kernel) (by decide +kernel)
set_option maxRecDepth 20000 in
theorem gX12_schedule_X12_remember : GoodIn wsX12_schedule (wsV RX12 233 RX12 yX12_remember wsX12_remember) := goodIn_app (goodIn_of _ (by decide +kernel)) ggX12_schedule_X12_remember
set_option maxRecDepth 20000 in
theorem ggX12_schedule_X3_addScheduled : GoodIn wsX12_schedule wsX3_addScheduled := goodIn_r _ [83, 44, 45, 101, 102, 103, 104, 105, 106, 107, 108, 109, 110, 111, 112, 113, 114] (by decide +kernel) (by decide +kernel)
set_option maxRecDepth 20000 in
theorem gX12_schedule_X3_addScheduled : GoodIn wsX12_schedule (wsV RX12 263 RX3 yX3_addScheduled wsX3_addScheduled) := goodIn_app (goodIn_of _ (by decide +kernel)) ggX12_schedule_X3_addScheduled
theorem dX12_schedule_0 : decode cX12_schedule 0 = .ok (.iload_n 2, 1) := by decide +kernel
theorem dX12_schedule_1 : decode cX12_schedule 1 = .ok (.invokestatic 134, 3) := by decide +kernel
theorem dX12_schedule_4 : decode cX12_schedule 4 = .ok (.iload_n 3, 1) := by decide +kernel
theorem dX12_schedule_5 : decode cX12_schedule 5 = .ok (.invokestatic 252, 3) := by decide +kernel
theorem dX12_schedule_8 : decode cX12_schedule 8 = .ok (.iload_n 1, 1) := by decide +kernel
theorem dX12_schedule_9 : decode cX12_schedule 9 = .ok (.aload_n 0, 1) := by decide +kernel
theorem dX12_schedule_10 : decode cX12_schedule 10 = .ok (.getfield 51, 3) := by decide +kernel
theorem dX12_schedule_13 : decode cX12_schedule 13 = .ok (.getfield 131, 3) := by decide +kernel
theorem dX12_schedule_16 : decode cX12_schedule 16 = .ok (.if_icmp .lt 10, 3) := by decide +kernel
theorem dX12_schedule_19 : decode cX12_schedule 19 = .ok (.iload_n 1, 1) := by decide +kernel
theorem dX12_schedule_20 : decode cX12_schedule 20 = .ok (.ldc_w 259, 3) := by decide +kernel
theorem dX12_schedule_23 : decode cX12_schedule 23 = .ok (.if_icmp .le 11, 3) := by decide +kernel
theorem dX12_schedule_26 : decode cX12_schedule 26 = .ok (.new 108, 3) := by decide +kernel
theorem dX12_schedule_29 : decode cX12_schedule 29 = .ok (.dup, 1) := by decide +kernel
theorem dX12_schedule_30 : decode cX12_schedule 30 = .ok (.invokespecial 110, 3) := by decide +kernel
theorem dX12_schedule_33 : decode cX12_schedule 33 = .ok (.athrow, 1) := by decide +kernel
theorem dX12_schedule_34 : decode cX12_schedule 34 = .ok (.aload_n 0, 1) := by decide +kernel
theorem dX12_schedule_35 : decode cX12_schedule 35 = .ok (.getfield 51, 3) := by decide +kernel
theorem dX12_schedule_38 : decode cX12_schedule 38 = .ok (.getfield 260, 3) := by decide +kernel
theorem dX12_schedule_41 : decode cX12_schedule 41 = .ok (.bipush 32, 2) := by decide +kernel
theorem dX12_schedule_43 : decode cX12_schedule 43 = .ok (.if_icmp .lt 6, 3) := by decide +kernel
theorem dX12_schedule_46 : decode cX12_schedule 46 = .ok (.bipush (-2), 2) := by decide +kernel
theorem dX12_schedule_48 : decode cX12_schedule 48 = .ok (.ireturn, 1) := by decide +kernel
theorem dX12_schedule_49 : decode cX12_schedule 49 = .ok (.aload_n 0, 1) := by decide +kernel
theorem dX12_schedule_50 : decode cX12_schedule 50 = .ok (.invokevirtual 233, 3) := by decide +kernel
theorem dX12_schedule_53 : decode cX12_schedule 53 = .ok (.aload_n 0, 1) := by decide +kernel
theorem dX12_schedule_54 : decode cX12_schedule 54 = .ok (.getfield 51, 3) := by decide +kernel
theorem dX12_schedule_57 : decode cX12_schedule 57 = .ok (.iload_n 1, 1) := by decide +kernel
theorem dX12_schedule_58 : decode cX12_schedule 58 = .ok (.iload_n 2, 1) := by decide +kernel
theorem dX12_schedule_59 : decode cX12_schedule 59 = .ok (.iload_n 3, 1) := by decide +kernel
theorem dX12_schedule_60 : decode cX12_schedule 60 = .ok (.invokevirtual 263, 3) := by decide +kernel
theorem dX12_schedule_63 : decode cX12_schedule 63 = .ok (.aload_n 0, 1) := by decide +kernel
theorem dX12_schedule_64 : decode cX12_schedule 64 = .ok (.getfield 51, 3) := by decide +kernel
theorem dX12_schedule_67 : decode cX12_schedule 67 = .ok (.getfield 260, 3) := by decide +kernel
theorem dX12_schedule_70 : decode cX12_schedule 70 = .ok (.ireturn, 1) := by decide +kernel
set_option maxRecDepth 20000 in
theorem ggX12_poke_X12_checkMemory : GoodIn wsX12_poke wsX12_checkMemory := goodIn_ca (goodIn_r _ [6, 7, 8] (by decide +kernel) (by decide +kernel)) (goodIn_sub (fun _ h => List.mem_cons_of_mem _ (List.mem_append_right _ h)) (by decide +kernel))
set_option maxRecDepth 20000 in
theorem gX12_poke_X12_checkMemory : GoodIn wsX12_poke (va_wsS RX12 152 yX12_checkMemory wsX12_checkMemory) := goodIn_app (goodIn_of _ (by decide +kernel)) ggX12_poke_X12_checkMemory
set_option maxRecDepth 20000 in
theorem ggX12_poke_X12_remember : GoodIn wsX12_poke wsX12_remember := goodIn_r _ [12, 13, 14, 1, 15, 16, 17, 18, 19, 20, 21, 22, 23, 24, 25, 26, 27, 28, 29, 30, 31, 32, 33, 34, 35, 36, 37, 38, 39, 40, 41, 42, 43, 44, 45, 46, 47, 48, 49, 50, 51, 52, 53, 54, 55, 56, 57, 58, 59, 60, 61, 62, 63, 64, 65, 66, 67, 68, 69, 70, 71, 72, 73, 74, 75, 76, 77, 78, 79, 80, 81, 82, 83, 84, 85, 86, 87, 88, 89, 90, 91, 92, 93, 94, 95, 96, 97, 98, 99, 100, 101, 102, 103, 104, 105, 106, 107, 108, 109, 110, 111, 112, 113, 114, 115, 116, 117, 118, 119, 120, 121] (by decide +kernel) (by decide +kernel)
set_option maxRecDepth 20000 in
theorem gX12_poke_X12_remember : GoodIn wsX12_poke (wsV RX12 233 RX12 yX12_remember wsX12_remember) := goodIn_app (goodIn_of _ (by decide +kernel)) ggX12_poke_X12_remember
theorem dX12_poke_0 : decode cX12_poke 0 = .ok (.iload_n 1, 1) := by decide +kernel
theorem dX12_poke_1 : decode cX12_poke 1 = .ok (.invokestatic 152, 3) := by decide +kernel
theorem dX12_poke_4 : decode cX12_poke 4 = .ok (.aload_n 0, 1) := by decide +kernel
theorem dX12_poke_5 : decode cX12_poke 5 = .ok (.invokevirtual 233, 3) := by decide +kernel
theorem dX12_poke_8 : decode cX12_poke 8 = .ok (.aload_n 0, 1) := by decide +kernel
theorem dX12_poke_9 : decode cX12_poke 9 = .ok (.getfield 51, 3) := by decide +kernel
theorem dX12_poke_12 : decode cX12_poke 12 = .ok (.getfield 155, 3) := by decide +kernel
theorem dX12_poke_15 : decode cX12_poke 15 = .ok (.iload_n 1, 1) := by decide +kernel
theorem dX12_poke_16 : decode cX12_poke 16 = .ok (.iaload, 1) := by decide +kernel
theorem dX12_poke_17 : decode cX12_poke 17 = .ok (.istore_n 3, 1) := by decide +kernel
theorem dX12_poke_18 : decode cX12_poke 18 = .ok (.aload_n 0, 1) := by decide +kernel
theorem dX12_poke_19 : decode cX12_poke 19 = .ok (.getfield 51, 3) := by decide +kernel
theorem dX12_poke_22 : decode cX12_poke 22 = .ok (.getfield 155, 3) := by decide +kernel
theorem dX12_poke_25 : decode cX12_poke 25 = .ok (.iload_n 1, 1) := by decide +kernel
theorem dX12_poke_26 : decode cX12_poke 26 = .ok (.iload_n 2, 1) := by decide +kernel
theorem dX12_poke_27 : decode cX12_poke 27 = .ok (.iastore, 1) := by decide +kernel
theorem dX12_poke_28 : decode cX12_poke 28 = .ok (.iload_n 3, 1) := by decide +kernel
theorem dX12_poke_29 : decode cX12_poke 29 = .ok (.ireturn, 1) := by decide +kernel
set_option maxRecDepth 20000 in
theorem ggX12_run_X12_remember : GoodIn wsX12_run wsX12_remember := goodIn_r _ [11, 12, 13, 3, 14, 15, 16, 17, 18, 19, 20, 21, 22, 23, 24, 25, 26, 27, 28, 29, 30, 31, 32, 33, 34, 35, 36, 37, 38, 39, 40, 41, 42, 43, 44, 45, 46, 47, 48, 49, 50, 51, 52, 53, 54, 55, 56, 57, 58, 59, 60, 61, 62, 63, 64, 65, 66, 67, 68, 69, 70, 71, 324, 325, 326, 327, 328, 329, 330, 331, 332, 333, 334, 335, 336, 337, 338, 339, 340, 341, 342, 343, 344, 345, 346, 347, 348, 349, 350, 351, 352, 353, 354, 355, 356, 357, 358, 359, 360, 361, 362, 363, 364, 365, 366, 367, 368, 369, 370, 371, 372] (by decide +kernel) (by decide +kernel)
set_option maxRecDepth 20000 in
theorem gX12_run_X12_remember : GoodIn wsX12_run (wsV RX12 233 RX12 yX12_remember wsX12_remember) := goodIn_app (goodIn_of _ (by decide +kernel)) ggX12_run_X12_remember
set_option maxRecDepth 20000 in
theorem ggX12_run_X9_simulateCycle : GoodIn wsX12_run wsX9_simulateCycle := goodIn_r _ [76, 77, 78, 79, 80, 81, 82, 83, 84, 85, 86, 87, 88, 22, 89, 36, 37, 24, 90, 91, 92, 93, 27, 94, 95, 96, 97, 25, 26, 98, 99, 100, 75, 101, 102, 103, 104, 105, 45, 106, 57, 56, 107, 108, 109, 110, 111, 112, 113, 114, 115, 116, 117, 118, 119, 120, 121, 122, 123, 124, 125, 126, 127, 128, 129, 130, 131, 132, 133, 134, 135, 136, 137, 138, 139, 140, 141, 142, 143, 144, 145, 146, 147, 148, 149, 150, 151, 152, 153, 154, 155, 156, 157, 158, 159, 160, 161, 162, 163, 164, 165, 166, 167, 168, 169, 170, 171, 172, 173, 174, 175, 176, 51, 53, 177, 178, 179, 180, 181, 182, 183, 184, 185, 186, 187, 188, 189, 190, 191, 192, 193, 194, 195, 196, 197, 198, 199, 200, 201, 202, 203, 204, 205, 206, 207, 208, 16, 17, 18, 209, 210, 211, 212, 213, 214, 215, 216, 217, 218, 219, 220, 10, 221, 222, 223, 224, 225, 65, 226, 67, 68, 227, 228, 229, 230, 50, 52, 231, 232, 233, 234, 59, 60, 235, 236, 237, 238, 70, 69, 239, 240, 241, 242, 243, 244, 245, 246, 247, 248, 249, 250, 251, 58, 252, 253, 254, 255, 256, 257, 258, 259, 260, 261, 262, 263, 264, 265, 266, 267, 268, 269, 270, 271, 272, 273, 274, 275, 276, 277, 278, 279, 280, 281, 282, 283, 284, 285, 286, 287, 288, 289, 290, 291, 292, 293, 294, 295, 296, 297, 298, 299, 300, 301, 302, 303, 304, 305, 306, 307, 308, 309, 310, 311, 312, 313, 314, 315, 316, 317, 318, 319, 320, 321, 322, 38, 40, 41, 39, 323, 373, 374, 375, 376, 377, 378, 379, 341, 342, 343, 344, 345, 346, 347, 348, 349, 350, 351, 352, 353, 354, 380, 381, 382, 383, 384, 385, 386, 387, 388, 389, 390, 391, 392, 393, 394, 395, 396, 397, 398, 399, 400, 401, 402, 403, 404, 355, 356, 357, 358, 359, 360, 361, 362, 363, 364, 365, 366, 367, 368, 405, 406, 407, 408, 409, 410, 411, 412, 369, 370, 371, 372] (by decide +kernel) (by decide +kernel)
set_option maxRecDepth 20000 in
theorem gX12_run_X9_simulateCycle : GoodIn wsX12_run (wsV RX12 267 RX9 yX9_simulateCycle wsX9_simulateCycle) := goodIn_app (goodIn_of _ (by decide +kernel)) ggX12_run_X9_simulateCycle
theorem dX12_run_0 : decode cX12_run 0 = .ok (.iload_n 1, 1) := by decide +kernel
theorem dX12_run_1 : decode cX12_run 1 = .ok (.ifCond .lt 10, 3) := by decide +kernel
theorem dX12_run_4 : decode cX12_run 4 = .ok (.iload_n 1, 1) := by decide +kernel
theorem dX12_run_5 : decode cX12_run 5 = .ok (.sipush 1000, 3) := by decide +kernel
theorem dX12_run_8 : decode cX12_run 8 = .ok (.if_icmp .le 11, 3) := by decide +kernel
theorem dX12_run_11 : decode cX12_run 11 = .ok (.new 108, 3) := by decide +kernel
theorem dX12_run_14 : decode cX12_run 14 = .ok (.dup, 1) := by decide +kernel
theorem dX12_run_15 : decode cX12_run 15 = .ok (.invokespecial 110, 3) := by decide +kernel
theorem dX12_run_18 : decode cX12_run 18 = .ok (.athrow, 1) := by decide +kernel
theorem dX12_run_19 : decode cX12_run 19 = .ok (.aload_n 0, 1) := by decide +kernel
theorem dX12_run_20 : decode cX12_run 20 = .ok (.getfield 51, 3) := by decide +kernel
theorem dX12_run_23 : decode cX12_run 23 = .ok (.getfield 131, 3) := by decide +kernel
theorem dX12_run_26 : decode cX12_run 26 = .ok (.iload_n 1, 1) := by decide +kernel
theorem dX12_run_27 : decode cX12_run 27 = .ok (.iadd, 1) := by decide +kernel
theorem dX12_run_28 : decode cX12_run 28 = .ok (.ldc_w 259, 3) := by decide +kernel
theorem dX12_run_31 : decode cX12_run 31 = .ok (.if_icmp .le 6, 3) := by decide +kernel
theorem dX12_run_34 : decode cX12_run 34 = .ok (.bipush (-4), 2) := by decide +kernel
theorem dX12_run_36 : decode cX12_run 36 = .ok (.ireturn, 1) := by decide +kernel
theorem dX12_run_37 : decode cX12_run 37 = .ok (.aload_n 0, 1) := by decide +kernel
theorem dX12_run_38 : decode cX12_run 38 = .ok (.invokevirtual 233, 3) := by decide +kernel
theorem dX12_run_41 : decode cX12_run 41 = .ok (.iconst 0, 1) := by decide +kernel
theorem dX12_run_42 : decode cX12_run 42 = .ok (.istore_n 2, 1) := by decide +kernel
theorem dX12_run_43 : decode cX12_run 43 = .ok (.iconst 0, 1) := by decide +kernel
theorem dX12_run_44 : decode cX12_run 44 = .ok (.istore_n 3, 1) := by decide +kernel
theorem dX12_run_45 : decode cX12_run 45 = .ok (.iload_n 3, 1) := by decide +kernel
theorem dX12_run_46 : decode cX12_run 46 = .ok (.iload_n 1, 1) := by decide +kernel
theorem dX12_run_47 : decode cX12_run 47 = .ok (.if_icmp .ge 23, 3) := by decide +kernel
theorem dX12_run_50 : decode cX12_run 50 = .ok (.iload_n 2, 1) := by decide +kernel
theorem dX12_run_51 : decode cX12_run 51 = .ok (.aload_n 0, 1) := by decide +kernel
theorem dX12_run_52 : decode cX12_run 52 = .ok (.getfield 63, 3) := by decide +kernel
theorem dX12_run_55 : decode cX12_run 55 = .ok (.aload_n 0, 1) := by decide +kernel
theorem dX12_run_56 : decode cX12_run 56 = .ok (.getfield 51, 3) := by decide +kernel
theorem dX12_run_59 : decode cX12_run 59 = .ok (.invokevirtual 267, 3) := by decide +kernel
theorem dX12_run_62 : decode cX12_run 62 = .ok (.iadd, 1) := by decide +kernel
theorem dX12_run_63 : decode cX12_run 63 = .ok (.istore_n 2, 1) := by decide +kernel
theorem dX12_run_64 : decode cX12_run 64 = .ok (.iinc 3 1, 3) := by decide +kernel
theorem dX12_run_67 : decode cX12_run 67 = .ok (.goto (-22), 3) := by decide +kernel
theorem dX12_run_70 : decode cX12_run 70 = .ok (.iload_n 2, 1) := by decide +kernel
theorem dX12_run_71 : decode cX12_run 71 = .ok (.ireturn, 1) := by decide +kernel
set_option maxRecDepth 20000 in
theorem ggX12_cyclesUntil_X12_checkPin : GoodIn wsX12_cyclesUntil wsX12_checkPin := goodIn_ca (goodIn_r _ [7, 8, 9] (by decide +kernel) (by decide +kernel)) (goodIn_sub (fun _ h => List.mem_cons_of_mem _ (List.mem_append_left _ (List.mem_append_right _ h))) (by decide +kernel))
set_option maxRecDepth 20000 in
theorem gX12_cyclesUntil_X12_checkPin : GoodIn wsX12_cyclesUntil (va_wsS RX12 134 yX12_checkPin wsX12_checkPin) := goodIn_app (goodIn_of _ (by decide +kernel)) ggX12_cyclesUntil_X12_checkPin
set_option maxRecDepth 20000 in
theorem ggX12_cyclesUntil_X12_checkLevel : GoodIn wsX12_cyclesUntil wsX12_checkLevel := goodIn_ca (goodIn_r _ [12, 13, 14] (by decide +kernel) (by decide +kernel)) (goodIn_sub (fun _ h => List.mem_cons_of_mem _ (List.mem_append_right _ h)) (by decide +kernel))
set_option maxRecDepth 20000 in
theorem gX12_cyclesUntil_X12_checkLevel : GoodIn wsX12_cyclesUntil (va_wsS RX12 252 yX12_checkLevel wsX12_checkLevel) := goodIn_app (goodIn_of _ (by decide +kernel)) ggX12_cyclesUntil_X12_checkLevel
set_option maxRecDepth 20000 in
theorem ggX12_cyclesUntil_X12_checkLimit : GoodIn wsX12_cyclesUntil wsX12_checkLimit := goodIn_ca (goodIn_r _ [17, 13, 14] (by decide +kernel) (by decide +kernel)) (goodIn_sub (fun _ h => List.mem_cons_of_mem _ (List.mem_append_right _ h)) (by decide +kernel))
set_option maxRecDepth 20000 in
theorem gX12_cyclesUntil_X12_checkLimit : GoodIn wsX12_cyclesUntil (va_wsS RX12 271 yX12_checkLimit wsX12_checkLimit) := goodIn_app (goodIn_of _ (by decide +kernel)) ggX12_cyclesUntil_X12_checkLimit
set_option maxRecDepth 20000 in
theorem ggX12_cyclesUntil_X3_copyFrom : GoodIn wsX12_cyclesUntil wsX3_copyFrom := goodIn_r _ [22, 23, 24, 25, 26, 27, 28, 29, 30, 31, 32, 33, 34, 35, 36, 37, 38, 39, 40, 41, 42, 43, 44, 45, 46, 47, 48, 49, 50, 51, 52, 53, 54, 55, 56, 57, 58, 59, 60, 61, 62, 63, 64, 65, 66, 67, 68, 69, 70, 344, 345, 346, 347, 348, 349, 350, 351, 352, 353, 354, 355, 356, 357, 358, 359, 360, 361, 362, 363, 364, 365, 366, 367, 368, 369, 370, 371, 372, 373, 374, 375] (by decide +kernel) (by decide +kernel)
set_option maxRecDepth 20000 in
theorem gX12_cyclesUntil_X3_copyFrom : GoodIn wsX12_cyclesUntil (wsV RX12 274 RX3 yX3_copyFrom wsX3_copyFrom) := goodIn_app (goodIn_of _ (by decide +kernel)) ggX12_cyclesUntil_X3_copyFrom
set_option maxRecDepth 20000 in
theorem ggX12_cyclesUntil_X3_levels : GoodIn wsX12_cyclesUntil wsX3_levels := goodIn_r _ [74, 24, 25, 26, 344, 345, 346, 347, 348, 349, 350, 351, 352, 353, 354, 355, 356, 357] (by decide +kernel) (by decide +kernel)
set_option maxRecDepth 20000 in
theorem gX12_cyclesUntil_X3_levels : GoodIn wsX12_cyclesUntil (wsV RX12 137 RX3 yX3_levels wsX3_levels) := goodIn_app (goodIn_of _ (by decide +kernel)) ggX12_cyclesUntil_X3_levels
set_option maxRecDepth 20000 in
theorem ggX12_cyclesUntil_X9_simulateCycle : GoodIn wsX12_cyclesUntil wsX9_simulateCycle := goodIn_r _ [79, 80, 81, 82, 83, 84, 85, 86, 87, 88, 89, 90, 91, 21, 92, 35, 36, 23, 93, 94, 95, 96, 26, 97, 72, 73, 74, 24, 25, 98, 99, 100, 78, 101, 102, 103, 104, 105, 44, 106, 56, 55, 107, 108, 109, 110, 111, 112, 113, 114, 115, 116, 117, 118, 119, 120, 121, 122, 123, 124, 125, 126, 127, 128, 129, 130, 131, 132, 133, 134, 135, 136, 137, 138, 139, 140, 141, 142, 143, 144, 145, 146, 147, 148, 149, 150, 151, 152, 153, 154, 155, 156, 157, 158, 159, 160, 161, 162, 163, 164, 165, 166, 167, 168, 169, 170, 171, 172, 173, 174, 175, 176, 50, 52, 177, 178, 179, 180, 181, 182, 183, 184, 185, 186, 187, 188, 189, 190, 191, 192, 193, 194, 195, 196, 197, 198, 199, 200, 201, 202, 203, 204, 205, 206, 207, 208, 209, 210, 211, 212, 213, 214, 215, 216, 217, 218, 219, 220, 221, 222, 223, 6, 224, 225, 226, 227, 228, 64, 229, 66, 67, 230, 231, 232, 233, 49, 51, 234, 235, 236, 237, 58, 59, 238, 239, 240, 241, 69, 68, 242, 243, 244, 245, 246, 247, 248, 249, 250, 251, 252, 253, 254, 57, 255, 256, 257, 258, 259, 260, 261, 262, 263, 264, 265, 266, 267, 268, 269, 270, 271, 272, 273, 274, 275, 276, 277, 278, 279, 280, 281, 282, 283, 284, 285, 286, 287, 288, 289, 290, 291, 292, 293, 294, 295, 296, 297, 298, 299, 300, 301, 302, 303, 304, 305, 306, 307, 308, 309, 310, 311, 312, 313, 314, 315, 316, 317, 318, 319, 320, 321, 322, 323, 324, 325, 37, 39, 40, 38, 326, 376, 377, 378, 379, 380, 381, 382, 344, 345, 346, 347, 348, 349, 350, 351, 352, 353, 354, 355, 356, 357, 383, 384, 385, 386, 387, 388, 389, 390, 391, 392, 393, 394, 395, 396, 397, 398, 399, 400, 401, 402, 403, 404, 405, 406, 407, 358, 359, 360, 361, 362, 363, 364, 365, 366, 367, 368, 369, 370, 371, 408, 409, 410, 411, 412, 413, 414, 415, 372, 373, 374, 375] (by decide +kernel) (by decide +kernel)
set_option maxRecDepth 20000 in
theorem gX12_cyclesUntil_X9_simulateCycle : GoodIn wsX12_cyclesUntil (wsV RX12 267 RX9 yX9_simulateCycle wsX9_simulateCycle) := goodIn_app (goodIn_of _ (by decide +kernel)) ggX12_cyclesUntil_X9_simulateCycle
theorem dX12_cyclesUntil_0 : decode cX12_cyclesUntil 0 = .ok (.iload_n 1, 1) := by decide +kernel
theorem dX12_cyclesUntil_1 : decode cX12_cyclesUntil 1 = .ok (.invokestatic 134, 3) := by decide +kernel
theorem dX12_cyclesUntil_4 : decode cX12_cyclesUntil 4 = .ok (.iload_n 2, 1) := by decide +kernel
theorem dX12_cyclesUntil_5 : decode cX12_cyclesUntil 5 = .ok (.invokestatic 252, 3) := by decide +kernel
theorem dX12_cyclesUntil_8 : decode cX12_cyclesUntil 8 = .ok (.iload_n 3, 1) := by decide +kernel
theorem dX12_cyclesUntil_9 : decode cX12_cyclesUntil 9 = .ok (.invokestatic 271, 3) := by decide +kernel
theorem dX12_cyclesUntil_12 : decode cX12_cyclesUntil 12 = .ok (.aload_n 0, 1) := by decide +kernel
theorem dX12_cyclesUntil_13 : decode cX12_cyclesUntil 13 = .ok (.getfield 55, 3) := by decide +kernel
theorem dX12_cyclesUntil_16 : decode cX12_cyclesUntil 16 = .ok (.aload_n 0, 1) := by decide +kernel
theorem dX12_cyclesUntil_17 : decode cX12_cyclesUntil 17 = .ok (.getfield 51, 3) := by decide +kernel
theorem dX12_cyclesUntil_20 : decode cX12_cyclesUntil 20 = .ok (.invokevirtual 274, 3) := by decide +kernel
theorem dX12_cyclesUntil_23 : decode cX12_cyclesUntil 23 = .ok (.iconst 0, 1) := by decide +kernel
theorem dX12_cyclesUntil_24 : decode cX12_cyclesUntil 24 = .ok (.istore 4, 2) := by decide +kernel
theorem dX12_cyclesUntil_26 : decode cX12_cyclesUntil 26 = .ok (.iload 4, 2) := by decide +kernel
theorem dX12_cyclesUntil_28 : decode cX12_cyclesUntil 28 = .ok (.iload_n 3, 1) := by decide +kernel
theorem dX12_cyclesUntil_29 : decode cX12_cyclesUntil 29 = .ok (.if_icmp .gt 39, 3) := by decide +kernel
theorem dX12_cyclesUntil_32 : decode cX12_cyclesUntil 32 = .ok (.aload_n 0, 1) := by decide +kernel
theorem dX12_cyclesUntil_33 : decode cX12_cyclesUntil 33 = .ok (.getfield 55, 3) := by decide +kernel
theorem dX12_cyclesUntil_36 : decode cX12_cyclesUntil 36 = .ok (.invokevirtual 137, 3) := by decide +kernel
theorem dX12_cyclesUntil_39 : decode cX12_cyclesUntil 39 = .ok (.iload_n 1, 1) := by decide +kernel
theorem dX12_cyclesUntil_40 : decode cX12_cyclesUntil 40 = .ok (.ishr, 1) := by decide +kernel
theorem dX12_cyclesUntil_41 : decode cX12_cyclesUntil 41 = .ok (.iconst 1, 1) := by decide +kernel
theorem dX12_cyclesUntil_42 : decode cX12_cyclesUntil 42 = .ok (.iand, 1) := by decide +kernel
theorem dX12_cyclesUntil_43 : decode cX12_cyclesUntil 43 = .ok (.iload_n 2, 1) := by decide +kernel
theorem dX12_cyclesUntil_44 : decode cX12_cyclesUntil 44 = .ok (.if_icmp .ne 6, 3) := by decide +kernel
theorem dX12_cyclesUntil_47 : decode cX12_cyclesUntil 47 = .ok (.iload 4, 2) := by decide +kernel
theorem dX12_cyclesUntil_49 : decode cX12_cyclesUntil 49 = .ok (.ireturn, 1) := by decide +kernel
theorem dX12_cyclesUntil_50 : decode cX12_cyclesUntil 50 = .ok (.aload_n 0, 1) := by decide +kernel
theorem dX12_cyclesUntil_51 : decode cX12_cyclesUntil 51 = .ok (.getfield 63, 3) := by decide +kernel
theorem dX12_cyclesUntil_54 : decode cX12_cyclesUntil 54 = .ok (.aload_n 0, 1) := by decide +kernel
theorem dX12_cyclesUntil_55 : decode cX12_cyclesUntil 55 = .ok (.getfield 55, 3) := by decide +kernel
theorem dX12_cyclesUntil_58 : decode cX12_cyclesUntil 58 = .ok (.invokevirtual 267, 3) := by decide +kernel
theorem dX12_cyclesUntil_61 : decode cX12_cyclesUntil 61 = .ok (.pop, 1) := by decide +kernel
theorem dX12_cyclesUntil_62 : decode cX12_cyclesUntil 62 = .ok (.iinc 4 1, 3) := by decide +kernel
theorem dX12_cyclesUntil_65 : decode cX12_cyclesUntil 65 = .ok (.goto (-39), 3) := by decide +kernel
theorem dX12_cyclesUntil_68 : decode cX12_cyclesUntil 68 = .ok (.iconst (-1), 1) := by decide +kernel
theorem dX12_cyclesUntil_69 : decode cX12_cyclesUntil 69 = .ok (.ireturn, 1) := by decide +kernel
set_option maxRecDepth 20000 in
theorem ggX12_cyclesTo_X12_existingEngine : GoodIn wsX12_cyclesTo wsX12_existingEngine := goodIn_ca (goodIn_r _ [10, 11, 12, 13, 2, 3, 14, 15, 16, 17, 18, 19, 20, 338, 339, 340, 341, 342, 343, 344, 345, 346, 347, 348, 349, 350, 351, 352, 353, 354, 355, 356, 357, 358, 359, 360, 361, 362, 363, 364, 365, 366, 367, 368, 383, 384, 385, 386, 387, 388, 389, 390, 391, 392, 393, 394, 395, 396, 397, 398, 399, 400, 401, 402, 403, 404, 405, 406, 407] (by decide +kernel) (by decide +kernel)) (goodIn_sub (fun _ h => List.mem_cons_of_mem _ (List.mem_append_left _ (List.mem_append_right _ h))) (by decide +kernel))
set_option maxRecDepth 20000 in
theorem gX12_cyclesTo_X12_existingEngine : GoodIn wsX12_cyclesTo (wsV RX12 162 RX12 yX12_existingEngine wsX12_existingEngine) := goodIn_app (goodIn_of _ (by decide +kernel)) ggX12_cyclesTo_X12_existingEngine
set_option maxRecDepth 20000 in
theorem ggX12_cyclesTo_X12_checkAddress : GoodIn wsX12_cyclesTo wsX12_checkAddress := goodIn_ca (goodIn_r _ [24, 11, 12, 13, 25, 338, 339, 340, 341, 342, 343, 344, 345, 346, 347, 348, 349, 350, 351, 352, 353, 354, 383, 384, 385, 386, 387] (by decide +kernel) (by decide +kernel)) (goodIn_sub (fun _ h => List.mem_cons_of_mem _ (List.mem_append_left _ (List.mem_append_right _ h))) (by decide +kernel))
set_option maxRecDepth 20000 in
theorem gX12_cyclesTo_X12_checkAddress : GoodIn wsX12_cyclesTo (wsV RX12 278 RX12 yX12_checkAddress wsX12_checkAddress) := goodIn_app (goodIn_of _ (by decide +kernel)) ggX12_cyclesTo_X12_checkAddress
set_option maxRecDepth 20000 in
theorem ggX12_cyclesTo_X12_checkLimit : GoodIn wsX12_cyclesTo wsX12_checkLimit := goodIn_ca (goodIn_r _ [28, 29, 30] (by decide +kernel) (by decide +kernel)) (goodIn_sub (fun _ h => List.mem_cons_of_mem _ (List.mem_append_right _ h)) (by decide +kernel))
set_option maxRecDepth 20000 in
theorem gX12_cyclesTo_X12_checkLimit : GoodIn wsX12_cyclesTo (va_wsS RX12 271 yX12_checkLimit wsX12_checkLimit) := goodIn_app (goodIn_of _ (by decide +kernel)) ggX12_cyclesTo_X12_checkLimit
set_option maxRecDepth 20000 in
theorem ggX12_cyclesTo_X3_copyFrom : GoodIn wsX12_cyclesTo wsX3_copyFrom := goodIn_r _ [35, 36, 37, 38, 39, 40, 41, 42, 43, 44, 45, 46, 47, 48, 49, 50, 51, 52, 53, 54, 55, 56, 57, 58, 59, 60, 61, 62, 63, 64, 65, 66, 67, 68, 69, 70, 71, 72, 73, 74, 75, 76, 77, 78, 79, 80, 81, 82, 83, 355, 356, 357, 358, 359, 360, 361, 362, 363, 364, 365, 366, 367, 368, 369, 370, 371, 372, 373, 374, 375, 376, 377, 378, 379, 380, 381, 382, 408, 409, 410, 411] (by decide +kernel) (by decide +kernel)
set_option maxRecDepth 20000 in
theorem gX12_cyclesTo_X3_copyFrom : GoodIn wsX12_cyclesTo (wsV RX12 274 RX3 yX3_copyFrom wsX3_copyFrom) := goodIn_app (goodIn_of _ (by decide +kernel)) ggX12_cyclesTo_X3_copyFrom
set_option maxRecDepth 20000 in
theorem ggX12_cyclesTo_X9_simulateCycle : GoodIn wsX12_cyclesTo wsX9_simulateCycle := goodIn_r _ [88, 89, 90, 91, 92, 93, 94, 95, 96, 97, 98, 99, 100, 34, 101, 48, 49, 36, 102, 103, 104, 105, 39, 106, 107, 108, 109, 37, 38, 110, 111, 112, 87, 113, 114, 115, 116, 117, 57, 118, 69, 68, 119, 120, 121, 122, 123, 124, 125, 126, 127, 128, 129, 130, 131, 132, 133, 17, 134, 135, 136, 137, 138, 139, 140, 141, 142, 143, 144, 145, 146, 147, 148, 149, 150, 151, 152, 153, 154, 155, 156, 157, 158, 159, 160, 161, 162, 163, 164, 165, 166, 167, 168, 169, 170, 171, 172, 173, 174, 175, 176, 177, 178, 179, 180, 181, 182, 183, 184, 185, 186, 187, 63, 65, 188, 189, 190, 191, 192, 193, 194, 195, 196, 197, 198, 199, 200, 201, 202, 203, 204, 205, 206, 207, 208, 209, 210, 211, 212, 213, 214, 215, 216, 217, 218, 219, 220, 221, 222, 223, 224, 225, 226, 227, 228, 229, 230, 231, 232, 233, 234, 9, 235, 236, 237, 238, 239, 77, 240, 79, 80, 241, 242, 243, 244, 62, 64, 245, 246, 247, 248, 71, 72, 249, 250, 251, 252, 82, 81, 253, 254, 255, 256, 257, 258, 259, 260, 261, 262, 263, 264, 265, 70, 266, 267, 268, 269, 270, 271, 272, 273, 274, 275, 276, 277, 278, 279, 280, 281, 282, 283, 284, 285, 286, 287, 288, 289, 290, 291, 292, 293, 294, 295, 296, 297, 298, 299, 300, 301, 302, 303, 304, 305, 306, 307, 308, 309, 310, 311, 312, 313, 314, 315, 316, 317, 318, 319, 320, 321, 322, 323, 324, 325, 326, 327, 328, 329, 330, 331, 332, 333, 334, 335, 336, 50, 52, 53, 51, 337, 412, 413, 414, 415, 416, 417, 418, 355, 356, 357, 358, 359, 360, 361, 362, 363, 364, 365, 366, 367, 368, 383, 384, 385, 386, 387, 388, 389, 390, 391, 392, 393, 394, 395, 396, 397, 398, 399, 400, 401, 402, 403, 404, 405, 406, 407, 369, 370, 371, 372, 373, 374, 375, 376, 377, 378, 379, 380, 381, 382, 419, 420, 421, 422, 423, 424, 425, 426, 408, 409, 410, 411] (by decide +kernel) (by decide +kernel)
set_option maxRecDepth 20000 in
theorem gX12_cyclesTo_X9_simulateCycle : GoodIn wsX12_cyclesTo (wsV RX12 267 RX9 yX9_simulateCycle wsX9_simulateCycle) := goodIn_app (goodIn_of _ (by decide +kernel)) ggX12_cyclesTo_X9_simulateCycle
theorem dX12_cyclesTo_0 : decode cX12_cyclesTo 0 = .ok (.aload_n 0, 1) := by decide +kernel
theorem dX12_cyclesTo_1 : decode cX12_cyclesTo 1 = .ok (.iload_n 1, 1) := by decide +kernel
theorem dX12_cyclesTo_2 : decode cX12_cyclesTo 2 = .ok (.invokevirtual 162, 3) := by decide +kernel
theorem dX12_cyclesTo_5 : decode cX12_cyclesTo 5 = .ok (.pop, 1) := by decide +kernel
theorem dX12_cyclesTo_6 : decode cX12_cyclesTo 6 = .ok (.aload_n 0, 1) := by decide +kernel
theorem dX12_cyclesTo_7 : decode cX12_cyclesTo 7 = .ok (.iload_n 2, 1) := by decide +kernel
theorem dX12_cyclesTo_8 : decode cX12_cyclesTo 8 = .ok (.invokevirtual 278, 3) := by decide +kernel
theorem dX12_cyclesTo_11 : decode cX12_cyclesTo 11 = .ok (.iload_n 3, 1) := by decide +kernel
theorem dX12_cyclesTo_12 : decode cX12_cyclesTo 12 = .ok (.invokestatic 271, 3) := by decide +kernel
theorem dX12_cyclesTo_15 : decode cX12_cyclesTo 15 = .ok (.aload_n 0, 1) := by decide +kernel
theorem dX12_cyclesTo_16 : decode cX12_cyclesTo 16 = .ok (.getfield 55, 3) := by decide +kernel
theorem dX12_cyclesTo_19 : decode cX12_cyclesTo 19 = .ok (.aload_n 0, 1) := by decide +kernel
theorem dX12_cyclesTo_20 : decode cX12_cyclesTo 20 = .ok (.getfield 51, 3) := by decide +kernel
theorem dX12_cyclesTo_23 : decode cX12_cyclesTo 23 = .ok (.invokevirtual 274, 3) := by decide +kernel
theorem dX12_cyclesTo_26 : decode cX12_cyclesTo 26 = .ok (.iconst 0, 1) := by decide +kernel
theorem dX12_cyclesTo_27 : decode cX12_cyclesTo 27 = .ok (.istore 4, 2) := by decide +kernel
theorem dX12_cyclesTo_29 : decode cX12_cyclesTo 29 = .ok (.iload 4, 2) := by decide +kernel
theorem dX12_cyclesTo_31 : decode cX12_cyclesTo 31 = .ok (.iload_n 3, 1) := by decide +kernel
theorem dX12_cyclesTo_32 : decode cX12_cyclesTo 32 = .ok (.if_icmp .gt 40, 3) := by decide +kernel
theorem dX12_cyclesTo_35 : decode cX12_cyclesTo 35 = .ok (.aload_n 0, 1) := by decide +kernel
theorem dX12_cyclesTo_36 : decode cX12_cyclesTo 36 = .ok (.getfield 55, 3) := by decide +kernel
theorem dX12_cyclesTo_39 : decode cX12_cyclesTo 39 = .ok (.getfield 281, 3) := by decide +kernel
theorem dX12_cyclesTo_42 : decode cX12_cyclesTo 42 = .ok (.iload_n 1, 1) := by decide +kernel
theorem dX12_cyclesTo_43 : decode cX12_cyclesTo 43 = .ok (.aaload, 1) := by decide +kernel
theorem dX12_cyclesTo_44 : decode cX12_cyclesTo 44 = .ok (.getfield 166, 3) := by decide +kernel
theorem dX12_cyclesTo_47 : decode cX12_cyclesTo 47 = .ok (.iload_n 2, 1) := by decide +kernel
theorem dX12_cyclesTo_48 : decode cX12_cyclesTo 48 = .ok (.if_icmp .ne 6, 3) := by decide +kernel
theorem dX12_cyclesTo_51 : decode cX12_cyclesTo 51 = .ok (.iload 4, 2) := by decide +kernel
theorem dX12_cyclesTo_53 : decode cX12_cyclesTo 53 = .ok (.ireturn, 1) := by decide +kernel
theorem dX12_cyclesTo_54 : decode cX12_cyclesTo 54 = .ok (.aload_n 0, 1) := by decide +kernel
theorem dX12_cyclesTo_55 : decode cX12_cyclesTo 55 = .ok (.getfield 63, 3) := by decide +kernel
theorem dX12_cyclesTo_58 : decode cX12_cyclesTo 58 = .ok (.aload_n 0, 1) := by decide +kernel
theorem dX12_cyclesTo_59 : decode cX12_cyclesTo 59 = .ok (.getfield 55, 3) := by decide +kernel
theorem dX12_cyclesTo_62 : decode cX12_cyclesTo 62 = .ok (.invokevirtual 267, 3) := by decide +kernel
theorem dX12_cyclesTo_65 : decode cX12_cyclesTo 65 = .ok (.pop, 1) := by decide +kernel
theorem dX12_cyclesTo_66 : decode cX12_cyclesTo 66 = .ok (.iinc 4 1, 3) := by decide +kernel
theorem dX12_cyclesTo_69 : decode cX12_cyclesTo 69 = .ok (.goto (-40), 3) := by decide +kernel
theorem dX12_cyclesTo_72 : decode cX12_cyclesTo 72 = .ok (.iconst (-1), 1) := by decide +kernel
theorem dX12_cyclesTo_73 : decode cX12_cyclesTo 73 = .ok (.ireturn, 1) := by decide +kernel
set_option maxRecDepth 20000 in
theorem ggX12_period_X12_checkPin : GoodIn wsX12_period wsX12_checkPin := goodIn_ca (goodIn_r _ [7, 8, 9] (by decide +kernel) (by decide +kernel)) (goodIn_sub (fun _ h => List.mem_cons_of_mem _ (List.mem_append_left _ (List.mem_append_right _ h))) (by decide +kernel))
set_option maxRecDepth 20000 in
theorem gX12_period_X12_checkPin : GoodIn wsX12_period (va_wsS RX12 134 yX12_checkPin wsX12_checkPin) := goodIn_app (goodIn_of _ (by decide +kernel)) ggX12_period_X12_checkPin
set_option maxRecDepth 20000 in
theorem ggX12_period_X12_checkLimit : GoodIn wsX12_period wsX12_checkLimit := goodIn_ca (goodIn_r _ [12, 13, 14] (by decide +kernel) (by decide +kernel)) (goodIn_sub (fun _ h => List.mem_cons_of_mem _ (List.mem_append_right _ h)) (by decide +kernel))
set_option maxRecDepth 20000 in
theorem gX12_period_X12_checkLimit : GoodIn wsX12_period (va_wsS RX12 271 yX12_checkLimit wsX12_checkLimit) := goodIn_app (goodIn_of _ (by decide +kernel)) ggX12_period_X12_checkLimit
set_option maxRecDepth 20000 in
theorem ggX12_period_X3_copyFrom : GoodIn wsX12_period wsX3_copyFrom := goodIn_r _ [19, 20, 21, 22, 23, 24, 25, 26, 27, 28, 29, 30, 31, 32, 33, 34, 35, 36, 37, 38, 39, 40, 41, 42, 43, 44, 45, 46, 47, 48, 49, 50, 51, 52, 53, 54, 55, 56, 57, 58, 59, 60, 61, 62, 63, 64, 65, 66, 67, 341, 342, 343, 344, 345, 346, 347, 348, 349, 350, 351, 352, 353, 354, 355, 356, 357, 358, 359, 360, 361, 362, 363, 364, 365, 366, 367, 368, 369, 370, 371, 372] (by decide +kernel) (by decide +kernel)
set_option maxRecDepth 20000 in
theorem gX12_period_X3_copyFrom : GoodIn wsX12_period (wsV RX12 274 RX3 yX3_copyFrom wsX3_copyFrom) := goodIn_app (goodIn_of _ (by decide +kernel)) ggX12_period_X3_copyFrom
set_option maxRecDepth 20000 in
theorem ggX12_period_X3_levels : GoodIn wsX12_period wsX3_levels := goodIn_r _ [71, 21, 22, 23, 341, 342, 343, 344, 345, 346, 347, 348, 349, 350, 351, 352, 353, 354] (by decide +kernel) (by decide +kernel)
set_option maxRecDepth 20000 in
theorem gX12_period_X3_levels : GoodIn wsX12_period (wsV RX12 137 RX3 yX3_levels wsX3_levels) := goodIn_app (goodIn_of _ (by decide +kernel)) ggX12_period_X3_levels
set_option maxRecDepth 20000 in
theorem ggX12_period_X9_simulateCycle : GoodIn wsX12_period wsX9_simulateCycle := goodIn_r _ [76, 77, 78, 79, 80, 81, 82, 83, 84, 85, 86, 87, 88, 18, 89, 32, 33, 20, 90, 91, 92, 93, 23, 94, 69, 70, 71, 21, 22, 95, 96, 97, 75, 98, 99, 100, 101, 102, 41, 103, 53, 52, 104, 105, 106, 107, 108, 109, 110, 111, 112, 113, 114, 115, 116, 117, 118, 119, 120, 121, 122, 123, 124, 125, 126, 127, 128, 129, 130, 131, 132, 133, 134, 135, 136, 137, 138, 139, 140, 141, 142, 143, 144, 145, 146, 147, 148, 149, 150, 151, 152, 153, 154, 155, 156, 157, 158, 159, 160, 161, 162, 163, 164, 165, 166, 167, 168, 169, 170, 171, 172, 173, 47, 49, 174, 175, 176, 177, 178, 179, 180, 181, 182, 183, 184, 185, 186, 187, 188, 189, 190, 191, 192, 193, 194, 195, 196, 197, 198, 199, 200, 201, 202, 203, 204, 205, 206, 207, 208, 209, 210, 211, 212, 213, 214, 215, 216, 217, 218, 219, 220, 6, 221, 222, 223, 224, 225, 61, 226, 63, 64, 227, 228, 229, 230, 46, 48, 231, 232, 233, 234, 55, 56, 235, 236, 237, 238, 66, 65, 239, 240, 241, 242, 243, 244, 245, 246, 247, 248, 249, 250, 251, 54, 252, 253, 254, 255, 256, 257, 258, 259, 260, 261, 262, 263, 264, 265, 266, 267, 268, 269, 270, 271, 272, 273, 274, 275, 276, 277, 278, 279, 280, 281, 282, 283, 284, 285, 286, 287, 288, 289, 290, 291, 292, 293, 294, 295, 296, 297, 298, 299, 300, 301, 302, 303, 304, 305, 306, 307, 308, 309, 310, 311, 312, 313, 314, 315, 316, 317, 318, 319, 320, 321, 322, 34, 36, 37, 35, 323, 373, 374, 375, 376, 377, 378, 379, 341, 342, 343, 344, 345, 346, 347, 348, 349, 350, 351, 352, 353, 354, 380, 381, 382, 383, 384, 385, 386, 387, 388, 389, 390, 391, 392, 393, 394, 395, 396, 397, 398, 399, 400, 401, 402, 403, 404, 355, 356, 357, 358, 359, 360, 361, 362, 363, 364, 365, 366, 367, 368, 405, 406, 407, 408, 409, 410, 411, 412, 369, 370, 371, 372] (by decide +kernel) (by decide +kernel)
set_option maxRecDepth 20000 in
theorem gX12_period_X9_simulateCycle : GoodIn wsX12_period (wsV RX12 267 RX9 yX9_simulateCycle wsX9_simulateCycle) := goodIn_app (goodIn_of _ (by decide +kernel)) ggX12_period_X9_simulateCycle
theorem dX12_period_0 : decode cX12_period 0 = .ok (.iload_n 1, 1) := by decide +kernel
theorem dX12_period_1 : decode cX12_period 1 = .ok (.invokestatic 134, 3) := by decide +kernel
theorem dX12_period_4 : decode cX12_period 4 = .ok (.iload_n 2, 1) := by decide +kernel
theorem dX12_period_5 : decode cX12_period 5 = .ok (.invokestatic 271, 3) := by decide +kernel
theorem dX12_period_8 : decode cX12_period 8 = .ok (.aload_n 0, 1) := by decide +kernel
theorem dX12_period_9 : decode cX12_period 9 = .ok (.getfield 55, 3) := by decide +kernel
theorem dX12_period_12 : decode cX12_period 12 = .ok (.aload_n 0, 1) := by decide +kernel
theorem dX12_period_13 : decode cX12_period 13 = .ok (.getfield 51, 3) := by decide +kernel
theorem dX12_period_16 : decode cX12_period 16 = .ok (.invokevirtual 274, 3) := by decide +kernel
theorem dX12_period_19 : decode cX12_period 19 = .ok (.aload_n 0, 1) := by decide +kernel
theorem dX12_period_20 : decode cX12_period 20 = .ok (.getfield 55, 3) := by decide +kernel
theorem dX12_period_23 : decode cX12_period 23 = .ok (.invokevirtual 137, 3) := by decide +kernel
theorem dX12_period_26 : decode cX12_period 26 = .ok (.iload_n 1, 1) := by decide +kernel
theorem dX12_period_27 : decode cX12_period 27 = .ok (.ishr, 1) := by decide +kernel
theorem dX12_period_28 : decode cX12_period 28 = .ok (.iconst 1, 1) := by decide +kernel
theorem dX12_period_29 : decode cX12_period 29 = .ok (.iand, 1) := by decide +kernel
theorem dX12_period_30 : decode cX12_period 30 = .ok (.istore_n 3, 1) := by decide +kernel
theorem dX12_period_31 : decode cX12_period 31 = .ok (.iconst (-1), 1) := by decide +kernel
theorem dX12_period_32 : decode cX12_period 32 = .ok (.istore 4, 2) := by decide +kernel
theorem dX12_period_34 : decode cX12_period 34 = .ok (.iconst 0, 1) := by decide +kernel
theorem dX12_period_35 : decode cX12_period 35 = .ok (.istore 5, 2) := by decide +kernel
theorem dX12_period_37 : decode cX12_period 37 = .ok (.iload 5, 2) := by decide +kernel
theorem dX12_period_39 : decode cX12_period 39 = .ok (.iload_n 2, 1) := by decide +kernel
theorem dX12_period_40 : decode cX12_period 40 = .ok (.if_icmp .ge 63, 3) := by decide +kernel
theorem dX12_period_43 : decode cX12_period 43 = .ok (.aload_n 0, 1) := by decide +kernel
theorem dX12_period_44 : decode cX12_period 44 = .ok (.getfield 63, 3) := by decide +kernel
theorem dX12_period_47 : decode cX12_period 47 = .ok (.aload_n 0, 1) := by decide +kernel
theorem dX12_period_48 : decode cX12_period 48 = .ok (.getfield 55, 3) := by decide +kernel
theorem dX12_period_51 : decode cX12_period 51 = .ok (.invokevirtual 267, 3) := by decide +kernel
theorem dX12_period_54 : decode cX12_period 54 = .ok (.pop, 1) := by decide +kernel
theorem dX12_period_55 : decode cX12_period 55 = .ok (.aload_n 0, 1) := by decide +kernel
theorem dX12_period_56 : decode cX12_period 56 = .ok (.getfield 55, 3) := by decide +kernel
theorem dX12_period_59 : decode cX12_period 59 = .ok (.invokevirtual 137, 3) := by decide +kernel
theorem dX12_period_62 : decode cX12_period 62 = .ok (.iload_n 1, 1) := by decide +kernel
theorem dX12_period_63 : decode cX12_period 63 = .ok (.ishr, 1) := by decide +kernel
theorem dX12_period_64 : decode cX12_period 64 = .ok (.iconst 1, 1) := by decide +kernel
theorem dX12_period_65 : decode cX12_period 65 = .ok (.iand, 1) := by decide +kernel
theorem dX12_period_66 : decode cX12_period 66 = .ok (.istore 6, 2) := by decide +kernel
theorem dX12_period_68 : decode cX12_period 68 = .ok (.iload 6, 2) := by decide +kernel
theorem dX12_period_70 : decode cX12_period 70 = .ok (.iconst 1, 1) := by decide +kernel
theorem dX12_period_71 : decode cX12_period 71 = .ok (.if_icmp .ne 23, 3) := by decide +kernel
theorem dX12_period_74 : decode cX12_period 74 = .ok (.iload_n 3, 1) := by decide +kernel
theorem dX12_period_75 : decode cX12_period 75 = .ok (.ifCond .ne 19, 3) := by decide +kernel
theorem dX12_period_78 : decode cX12_period 78 = .ok (.iload 4, 2) := by decide +kernel
theorem dX12_period_80 : decode cX12_period 80 = .ok (.iconst (-1), 1) := by decide +kernel
theorem dX12_period_81 : decode cX12_period 81 = .ok (.if_icmp .eq 9, 3) := by decide +kernel
theorem dX12_period_84 : decode cX12_period 84 = .ok (.iload 5, 2) := by decide +kernel
theorem dX12_period_86 : decode cX12_period 86 = .ok (.iload 4, 2) := by decide +kernel
theorem dX12_period_88 : decode cX12_period 88 = .ok (.isub, 1) := by decide +kernel
theorem dX12_period_89 : decode cX12_period 89 = .ok (.ireturn, 1) := by decide +kernel
theorem dX12_period_90 : decode cX12_period 90 = .ok (.iload 5, 2) := by decide +kernel
theorem dX12_period_92 : decode cX12_period 92 = .ok (.istore 4, 2) := by decide +kernel
theorem dX12_period_94 : decode cX12_period 94 = .ok (.iload 6, 2) := by decide +kernel
theorem dX12_period_96 : decode cX12_period 96 = .ok (.istore_n 3, 1) := by decide +kernel
theorem dX12_period_97 : decode cX12_period 97 = .ok (.iinc 5 1, 3) := by decide +kernel
theorem dX12_period_100 : decode cX12_period 100 = .ok (.goto (-63), 3) := by decide +kernel
theorem dX12_period_103 : decode cX12_period 103 = .ok (.iconst (-1), 1) := by decide +kernel
theorem dX12_period_104 : decode cX12_period 104 = .ok (.ireturn, 1) := by decide +kernel
set_option maxRecDepth 20000 in
theorem ggX12_stuck_X12_checkLimit : GoodIn wsX12_stuck wsX12_checkLimit := goodIn_ca (goodIn_r _ [7, 8, 9] (by decide +kernel) (by decide +kernel)) (goodIn_sub (fun _ h => List.mem_cons_of_mem _ (List.mem_append_right _ h)) (by decide +kernel))
set_option maxRecDepth 20000 in
theorem gX12_stuck_X12_checkLimit : GoodIn wsX12_stuck (va_wsS RX12 271 yX12_checkLimit wsX12_checkLimit) := goodIn_app (goodIn_of _ (by decide +kernel)) ggX12_stuck_X12_checkLimit
set_option maxRecDepth 20000 in
theorem ggX12_stuck_X3_copyFrom : GoodIn wsX12_stuck wsX3_copyFrom := goodIn_r _ [14, 15, 16, 17, 18, 19, 20, 21, 22, 23, 24, 25, 26, 27, 28, 29, 30, 31, 32, 33, 34, 35, 36, 37, 38, 39, 40, 41, 42, 43, 44, 45, 46, 47, 48, 49, 50, 51, 52, 53, 54, 55, 56, 57, 58, 59, 60, 61, 62, 349, 350, 351, 352, 353, 354, 355, 356, 357, 358, 359, 360, 361, 362, 363, 364, 365, 366, 367, 368, 369, 370, 371, 372, 373, 374, 375, 376, 377, 378, 379, 380] (by decide +kernel) (by decide +kernel)
set_option maxRecDepth 20000 in
theorem gX12_stuck_X3_copyFrom : GoodIn wsX12_stuck (wsV RX12 274 RX3 yX3_copyFrom wsX3_copyFrom) := goodIn_app (goodIn_of _ (by decide +kernel)) ggX12_stuck_X3_copyFrom
set_option maxRecDepth 20000 in
theorem ggX12_stuck_X12_idleEngines : GoodIn wsX12_stuck wsX12_idleEngines := goodIn_r _ [66, 2, 67, 68, 69, 1, 70, 71, 72, 73, 74, 75, 76, 77, 332, 333, 334, 335, 336, 337, 338, 339, 340, 341, 342, 343, 344, 345, 346, 347, 348, 349, 350, 351, 352, 353, 354, 355, 356, 357, 358, 359, 360, 361, 362, 363, 364, 365, 366, 367, 368, 369, 370, 371, 372, 373, 374, 375, 376, 381, 382, 383, 384, 385, 386, 387, 388, 389, 390, 391, 392, 393, 394, 395, 396, 397, 398, 399, 400, 401, 402, 403, 404, 405] (by decide +kernel) (by decide +kernel)
set_option maxRecDepth 20000 in
theorem gX12_stuck_X12_idleEngines : GoodIn wsX12_stuck (wsV RX12 285 RX12 yX12_idleEngines wsX12_idleEngines) := goodIn_app (goodIn_of _ (by decide +kernel)) ggX12_stuck_X12_idleEngines
set_option maxRecDepth 20000 in
theorem ggX12_stuck_X9_simulateCycle : GoodIn wsX12_stuck wsX9_simulateCycle := goodIn_r _ [82, 83, 84, 85, 86, 87, 88, 89, 90, 91, 92, 93, 94, 13, 95, 27, 28, 15, 96, 97, 98, 99, 18, 100, 101, 102, 103, 16, 17, 104, 105, 106, 81, 107, 108, 109, 110, 111, 36, 112, 48, 47, 113, 114, 115, 116, 117, 118, 119, 120, 121, 122, 123, 124, 125, 126, 127, 74, 128, 129, 130, 131, 132, 133, 134, 135, 136, 137, 138, 139, 140, 141, 142, 143, 144, 145, 146, 147, 148, 149, 150, 151, 152, 153, 154, 155, 156, 157, 158, 159, 160, 161, 162, 163, 164, 165, 166, 167, 168, 169, 170, 171, 172, 173, 174, 175, 176, 177, 178, 179, 180, 181, 42, 44, 182, 183, 184, 185, 186, 187, 188, 189, 190, 191, 192, 193, 194, 195, 196, 197, 198, 199, 200, 201, 202, 203, 204, 205, 206, 207, 208, 209, 210, 211, 212, 213, 214, 215, 216, 217, 218, 219, 220, 221, 222, 223, 224, 225, 226, 227, 228, 6, 229, 230, 231, 232, 233, 56, 234, 58, 59, 235, 236, 237, 238, 41, 43, 239, 240, 241, 242, 50, 51, 243, 244, 245, 246, 61, 60, 247, 248, 249, 250, 251, 252, 253, 254, 255, 256, 257, 258, 259, 49, 260, 261, 262, 263, 264, 265, 266, 267, 268, 269, 270, 271, 272, 273, 274, 275, 276, 277, 278, 279, 280, 281, 282, 283, 284, 285, 286, 287, 288, 289, 290, 291, 292, 293, 294, 295, 296, 297, 298, 299, 300, 301, 302, 303, 304, 305, 306, 307, 308, 309, 310, 311, 312, 313, 314, 315, 316, 317, 318, 319, 320, 321, 322, 323, 324, 325, 326, 327, 328, 329, 330, 29, 31, 32, 30, 331, 406, 407, 408, 409, 410, 411, 412, 349, 350, 351, 352, 353, 354, 355, 356, 357, 358, 359, 360, 361, 362, 381, 382, 383, 384, 385, 386, 387, 388, 389, 390, 391, 392, 393, 394, 395, 396, 397, 398, 399, 400, 401, 402, 403, 404, 405, 363, 364, 365, 366, 367, 368, 369, 370, 371, 372, 373, 374, 375, 376, 413, 414, 415, 416, 417, 418, 419, 420, 377, 378, 379, 380] (by decide +kernel) (by decide +kernel)
set_option maxRecDepth 20000 in
theorem gX12_stuck_X9_simulateCycle : GoodIn wsX12_stuck (wsV RX12 267 RX9 yX9_simulateCycle wsX9_simulateCycle) := goodIn_app (goodIn_of _ (by decide +kernel)) ggX12_stuck_X9_simulateCycle
theorem dX12_stuck_0 : decode cX12_stuck 0 = .ok (.iload_n 1, 1) := by decide +kernel
theorem dX12_stuck_1 : decode cX12_stuck 1 = .ok (.invokestatic 271, 3) := by decide +kernel
theorem dX12_stuck_4 : decode cX12_stuck 4 = .ok (.aload_n 0, 1) := by decide +kernel
theorem dX12_stuck_5 : decode cX12_stuck 5 = .ok (.getfield 55, 3) := by decide +kernel
theorem dX12_stuck_8 : decode cX12_stuck 8 = .ok (.aload_n 0, 1) := by decide +kernel
theorem dX12_stuck_9 : decode cX12_stuck 9 = .ok (.getfield 51, 3) := by decide +kernel
theorem dX12_stuck_12 : decode cX12_stuck 12 = .ok (.invokevirtual 274, 3) := by decide +kernel
theorem dX12_stuck_15 : decode cX12_stuck 15 = .ok (.aload_n 0, 1) := by decide +kernel
theorem dX12_stuck_16 : decode cX12_stuck 16 = .ok (.invokevirtual 285, 3) := by decide +kernel
theorem dX12_stuck_19 : decode cX12_stuck 19 = .ok (.istore_n 2, 1) := by decide +kernel
theorem dX12_stuck_20 : decode cX12_stuck 20 = .ok (.iconst 0, 1) := by decide +kernel
theorem dX12_stuck_21 : decode cX12_stuck 21 = .ok (.istore_n 3, 1) := by decide +kernel
theorem dX12_stuck_22 : decode cX12_stuck 22 = .ok (.iload_n 3, 1) := by decide +kernel
theorem dX12_stuck_23 : decode cX12_stuck 23 = .ok (.iload_n 1, 1) := by decide +kernel
theorem dX12_stuck_24 : decode cX12_stuck 24 = .ok (.if_icmp .ge 30, 3) := by decide +kernel
theorem dX12_stuck_27 : decode cX12_stuck 27 = .ok (.iload_n 2, 1) := by decide +kernel
theorem dX12_stuck_28 : decode cX12_stuck 28 = .ok (.ifCond .eq 26, 3) := by decide +kernel
theorem dX12_stuck_31 : decode cX12_stuck 31 = .ok (.aload_n 0, 1) := by decide +kernel
theorem dX12_stuck_32 : decode cX12_stuck 32 = .ok (.getfield 63, 3) := by decide +kernel
theorem dX12_stuck_35 : decode cX12_stuck 35 = .ok (.aload_n 0, 1) := by decide +kernel
theorem dX12_stuck_36 : decode cX12_stuck 36 = .ok (.getfield 55, 3) := by decide +kernel
theorem dX12_stuck_39 : decode cX12_stuck 39 = .ok (.invokevirtual 267, 3) := by decide +kernel
theorem dX12_stuck_42 : decode cX12_stuck 42 = .ok (.pop, 1) := by decide +kernel
theorem dX12_stuck_43 : decode cX12_stuck 43 = .ok (.aload_n 0, 1) := by decide +kernel
theorem dX12_stuck_44 : decode cX12_stuck 44 = .ok (.invokevirtual 285, 3) := by decide +kernel
theorem dX12_stuck_47 : decode cX12_stuck 47 = .ok (.istore_n 2, 1) := by decide +kernel
theorem dX12_stuck_48 : decode cX12_stuck 48 = .ok (.iinc 3 1, 3) := by decide +kernel
theorem dX12_stuck_51 : decode cX12_stuck 51 = .ok (.goto (-29), 3) := by decide +kernel
theorem dX12_stuck_54 : decode cX12_stuck 54 = .ok (.iload_n 2, 1) := by decide +kernel
theorem dX12_stuck_55 : decode cX12_stuck 55 = .ok (.ireturn, 1) := by decide +kernel
theorem dX12_divider_0 : decode cX12_divider 0 = .ok (.iload_n 1, 1) := by decide +kernel
theorem dX12_divider_1 : decode cX12_divider 1 = .ok (.iconst 1, 1) := by decide +kernel
theorem dX12_divider_2 : decode cX12_divider 2 = .ok (.if_icmp .lt 22, 3) := by decide +kernel
theorem dX12_divider_5 : decode cX12_divider 5 = .ok (.iload_n 1, 1) := by decide +kernel
theorem dX12_divider_6 : decode cX12_divider 6 = .ok (.ldc_w 259, 3) := by decide +kernel
theorem dX12_divider_9 : decode cX12_divider 9 = .ok (.if_icmp .gt 15, 3) := by decide +kernel
theorem dX12_divider_12 : decode cX12_divider 12 = .ok (.iload_n 2, 1) := by decide +kernel
theorem dX12_divider_13 : decode cX12_divider 13 = .ok (.iconst 1, 1) := by decide +kernel
theorem dX12_divider_14 : decode cX12_divider 14 = .ok (.if_icmp .lt 10, 3) := by decide +kernel
theorem dX12_divider_17 : decode cX12_divider 17 = .ok (.iload_n 2, 1) := by decide +kernel
theorem dX12_divider_18 : decode cX12_divider 18 = .ok (.ldc_w 259, 3) := by decide +kernel
theorem dX12_divider_21 : decode cX12_divider 21 = .ok (.if_icmp .le 11, 3) := by decide +kernel
theorem dX12_divider_24 : decode cX12_divider 24 = .ok (.new 108, 3) := by decide +kernel
theorem dX12_divider_27 : decode cX12_divider 27 = .ok (.dup, 1) := by decide +kernel
theorem dX12_divider_28 : decode cX12_divider 28 = .ok (.invokespecial 110, 3) := by decide +kernel
theorem dX12_divider_31 : decode cX12_divider 31 = .ok (.athrow, 1) := by decide +kernel
theorem dX12_divider_32 : decode cX12_divider 32 = .ok (.sipush 256, 3) := by decide +kernel
theorem dX12_divider_35 : decode cX12_divider 35 = .ok (.iload_n 1, 1) := by decide +kernel
theorem dX12_divider_36 : decode cX12_divider 36 = .ok (.imul, 1) := by decide +kernel
theorem dX12_divider_37 : decode cX12_divider 37 = .ok (.istore_n 3, 1) := by decide +kernel
theorem dX12_divider_38 : decode cX12_divider 38 = .ok (.iload_n 3, 1) := by decide +kernel
theorem dX12_divider_39 : decode cX12_divider 39 = .ok (.iload_n 2, 1) := by decide +kernel
theorem dX12_divider_40 : decode cX12_divider 40 = .ok (.idiv, 1) := by decide +kernel
theorem dX12_divider_41 : decode cX12_divider 41 = .ok (.istore 4, 2) := by decide +kernel
theorem dX12_divider_43 : decode cX12_divider 43 = .ok (.iload_n 3, 1) := by decide +kernel
theorem dX12_divider_44 : decode cX12_divider 44 = .ok (.iload_n 2, 1) := by decide +kernel
theorem dX12_divider_45 : decode cX12_divider 45 = .ok (.irem, 1) := by decide +kernel
theorem dX12_divider_46 : decode cX12_divider 46 = .ok (.iconst 2, 1) := by decide +kernel
theorem dX12_divider_47 : decode cX12_divider 47 = .ok (.imul, 1) := by decide +kernel
theorem dX12_divider_48 : decode cX12_divider 48 = .ok (.iload_n 2, 1) := by decide +kernel
theorem dX12_divider_49 : decode cX12_divider 49 = .ok (.if_icmp .le 6, 3) := by decide +kernel
theorem dX12_divider_52 : decode cX12_divider 52 = .ok (.iinc 4 1, 3) := by decide +kernel
theorem dX12_divider_55 : decode cX12_divider 55 = .ok (.sipush 256, 3) := by decide +kernel
theorem dX12_divider_58 : decode cX12_divider 58 = .ok (.iload 4, 2) := by decide +kernel
theorem dX12_divider_60 : decode cX12_divider 60 = .ok (.ldc_w 288, 3) := by decide +kernel
theorem dX12_divider_63 : decode cX12_divider 63 = .ok (.invokestatic 289, 3) := by decide +kernel
theorem dX12_divider_66 : decode cX12_divider 66 = .ok (.invokestatic 295, 3) := by decide +kernel
theorem dX12_divider_69 : decode cX12_divider 69 = .ok (.ireturn, 1) := by decide +kernel
set_option maxRecDepth 20000 in
theorem ggX12_format_X12_checkAddress : GoodIn wsX12_format wsX12_checkAddress := goodIn_ca (goodIn_r _ [7, 8, 9, 2, 10, 269, 270, 271, 272, 273, 274, 275, 276, 277, 278, 279, 280, 281, 282, 283, 284, 285, 286, 287, 288, 289, 290] (by decide +kernel) (by decide +kernel)) (goodIn_sub (fun _ h => List.mem_cons_of_mem _ (List.mem_append_right _ h)) (by decide +kernel))
set_option maxRecDepth 20000 in
theorem gX12_format_X12_checkAddress : GoodIn wsX12_format (wsV RX12 278 RX12 yX12_checkAddress wsX12_checkAddress) := goodIn_app (goodIn_of _ (by decide +kernel)) ggX12_format_X12_checkAddress
set_option maxRecDepth 20000 in
theorem ggX12_format_J4_setLength_d00df : GoodIn wsX12_format wsJ4_setLength_d00df := goodIn_r _ [15, 16, 17, 18, 19, 20, 21, 22, 23, 24, 25, 26, 27, 28, 29, 30, 31, 32, 33, 34, 35, 36, 37, 38, 39, 40, 41, 42, 43, 44, 45, 46, 47, 48, 49, 50, 51, 52, 53, 54, 55, 56, 57, 58, 59, 60, 61, 62, 63, 64, 65, 66, 67, 68, 69, 70, 71, 72, 73, 74, 75, 76, 77, 78, 79, 80, 81, 82, 83, 84, 14, 85, 86, 87, 88, 89, 291, 292, 293, 294] (by decide +kernel) (by decide +kernel)
set_option maxRecDepth 20000 in
theorem gX12_format_J4_setLength_d00df : GoodIn wsX12_format (wsV RX12 298 RJ4 yJ4_setLength_d00df wsJ4_setLength_d00df) := goodIn_app (goodIn_of _ (by decide +kernel)) ggX12_format_J4_setLength_d00df
set_option maxRecDepth 20000 in
theorem ggX12_format_X4_instructionAt : GoodIn wsX12_format wsX4_instructionAt := goodIn_r _ [94, 95, 96, 97, 286, 287, 288, 289, 290] (by decide +kernel) (by decide +kernel)
set_option maxRecDepth 20000 in
theorem gX12_format_X4_instructionAt : GoodIn wsX12_format (wsV RX12 301 RX4 yX4_instructionAt wsX4_instructionAt) := goodIn_app (goodIn_of _ (by decide +kernel)) ggX12_format_X4_instructionAt
set_option maxRecDepth 20000 in
theorem ggX12_format_X2_appendTo : GoodIn wsX12_format wsX2_appendTo := goodIn_r _ [102, 103, 104, 105, 106, 107, 108, 109, 110, 111, 112, 113, 114, 115, 116, 14, 117, 118, 119, 18, 120, 20, 121, 22, 122, 123, 124, 125, 126, 23, 25, 26, 27, 28, 29, 30, 31, 32, 33, 34, 35, 36, 37, 38, 39, 40, 41, 42, 43, 44, 45, 46, 47, 48, 49, 50, 51, 52, 53, 54, 55, 56, 57, 58, 59, 60, 61, 62, 63, 64, 65, 66, 67, 68, 69, 70, 71, 72, 127, 128, 87, 129, 130, 131, 132, 133, 134, 135, 136, 137, 138, 139, 140, 141, 142, 143, 144, 145, 146, 147, 148, 149, 150, 151, 152, 153, 154, 155, 156, 157, 158, 159, 160, 161, 162, 163, 164, 165, 166, 167, 168, 169, 170, 171, 172, 173, 174, 175, 176, 177, 178, 179, 180, 181, 182, 183, 184, 185, 186, 75, 187, 188, 189, 190, 191, 192, 193, 194, 195, 196, 197, 198, 199, 200, 201, 202, 203, 204, 205, 206, 207, 101, 208, 209, 210, 211, 212, 213, 214, 215, 216, 217, 218, 219, 220, 221, 222, 223, 224, 225, 226, 227, 228, 229, 230, 231, 232, 233, 234, 235, 236, 237, 238, 239, 240, 241, 242, 243, 244, 245, 246, 247, 248, 249, 250, 251, 252, 253, 254, 255, 256, 257, 258, 259, 260, 295, 296, 297, 298, 299, 300, 301, 302, 291, 292, 293, 294, 303, 304, 305, 306] (by decide +kernel) (by decide +kernel)
set_option maxRecDepth 20000 in
theorem gX12_format_X2_appendTo : GoodIn wsX12_format (wsV RX12 305 RX2 yX2_appendTo wsX2_appendTo) := goodIn_app (goodIn_of _ (by decide +kernel)) ggX12_format_X2_appendTo
set_option maxRecDepth 20000 in
theorem ggX12_format_J4_length_8abf5 : GoodIn wsX12_format wsJ4_length_8abf5 := goodIn_r _ [264, 265, 266, 18, 267, 20, 268, 22, 291, 292, 293, 294] (by decide +kernel) (by decide +kernel)
set_option maxRecDepth 20000 in
theorem gX12_format_J4_length_8abf5 : GoodIn wsX12_format (wsV RX12 311 RJ4 yJ4_length_8abf5 wsJ4_length_8abf5) := goodIn_app (goodIn_of _ (by decide +kernel)) ggX12_format_J4_length_8abf5
theorem dX12_format_0 : decode cX12_format 0 = .ok (.aload_n 0, 1) := by decide +kernel
theorem dX12_format_1 : decode cX12_format 1 = .ok (.iload_n 1, 1) := by decide +kernel
theorem dX12_format_2 : decode cX12_format 2 = .ok (.invokevirtual 278, 3) := by decide +kernel
theorem dX12_format_5 : decode cX12_format 5 = .ok (.aload_n 0, 1) := by decide +kernel
theorem dX12_format_6 : decode cX12_format 6 = .ok (.getfield 96, 3) := by decide +kernel
theorem dX12_format_9 : decode cX12_format 9 = .ok (.iconst 0, 1) := by decide +kernel
theorem dX12_format_10 : decode cX12_format 10 = .ok (.invokevirtual 298, 3) := by decide +kernel
theorem dX12_format_13 : decode cX12_format 13 = .ok (.aload_n 0, 1) := by decide +kernel
theorem dX12_format_14 : decode cX12_format 14 = .ok (.getfield 32, 3) := by decide +kernel
theorem dX12_format_17 : decode cX12_format 17 = .ok (.iload_n 1, 1) := by decide +kernel
theorem dX12_format_18 : decode cX12_format 18 = .ok (.invokevirtual 301, 3) := by decide +kernel
theorem dX12_format_21 : decode cX12_format 21 = .ok (.aload_n 0, 1) := by decide +kernel
theorem dX12_format_22 : decode cX12_format 22 = .ok (.getfield 96, 3) := by decide +kernel
theorem dX12_format_25 : decode cX12_format 25 = .ok (.invokevirtual 305, 3) := by decide +kernel
theorem dX12_format_28 : decode cX12_format 28 = .ok (.aload_n 0, 1) := by decide +kernel
theorem dX12_format_29 : decode cX12_format 29 = .ok (.getfield 96, 3) := by decide +kernel
theorem dX12_format_32 : decode cX12_format 32 = .ok (.invokevirtual 311, 3) := by decide +kernel
theorem dX12_format_35 : decode cX12_format 35 = .ok (.ireturn, 1) := by decide +kernel
set_option maxRecDepth 20000 in
theorem ggX12_formattedByte_J4_length_8abf5 : GoodIn wsX12_formattedByte wsJ4_length_8abf5 := goodIn_r _ [6, 7, 8, 9, 10, 11, 12, 13, 64, 65, 66, 67] (by decide +kernel) (by decide +kernel)
set_option maxRecDepth 20000 in
theorem gX12_formattedByte_J4_length_8abf5 : GoodIn wsX12_formattedByte (wsV RX12 311 RJ4 yJ4_length_8abf5 wsJ4_length_8abf5) := goodIn_app (goodIn_of _ (by decide +kernel)) ggX12_formattedByte_J4_length_8abf5
set_option maxRecDepth 20000 in
theorem ggX12_formattedByte_J4_charAt_5068e : GoodIn wsX12_formattedByte wsJ4_charAt_5068e := goodIn_r _ [17, 18, 19, 9, 20, 11, 21, 22, 23, 13, 24, 25, 26, 27, 28, 29, 30, 31, 32, 33, 34, 35, 36, 37, 38, 39, 40, 41, 42, 43, 44, 45, 46, 64, 65, 66, 67] (by decide +kernel) (by decide +kernel)
set_option maxRecDepth 20000 in
theorem gX12_formattedByte_J4_charAt_5068e : GoodIn wsX12_formattedByte (wsV RX12 314 RJ4 yJ4_charAt_5068e wsJ4_charAt_5068e) := goodIn_app (goodIn_of _ (by decide +kernel)) ggX12_formattedByte_J4_charAt_5068e
theorem dX12_formattedByte_0 : decode cX12_formattedByte 0 = .ok (.iload_n 1, 1) := by decide +kernel
theorem dX12_formattedByte_1 : decode cX12_formattedByte 1 = .ok (.ifCond .lt 14, 3) := by decide +kernel
theorem dX12_formattedByte_4 : decode cX12_formattedByte 4 = .ok (.iload_n 1, 1) := by decide +kernel
theorem dX12_formattedByte_5 : decode cX12_formattedByte 5 = .ok (.aload_n 0, 1) := by decide +kernel
theorem dX12_formattedByte_6 : decode cX12_formattedByte 6 = .ok (.getfield 96, 3) := by decide +kernel
theorem dX12_formattedByte_9 : decode cX12_formattedByte 9 = .ok (.invokevirtual 311, 3) := by decide +kernel
theorem dX12_formattedByte_12 : decode cX12_formattedByte 12 = .ok (.if_icmp .lt 7, 3) := by decide +kernel
theorem dX12_formattedByte_15 : decode cX12_formattedByte 15 = .ok (.iconst (-1), 1) := by decide +kernel
theorem dX12_formattedByte_16 : decode cX12_formattedByte 16 = .ok (.goto 11, 3) := by decide +kernel
theorem dX12_formattedByte_19 : decode cX12_formattedByte 19 = .ok (.aload_n 0, 1) := by decide +kernel
theorem dX12_formattedByte_20 : decode cX12_formattedByte 20 = .ok (.getfield 96, 3) := by decide +kernel
theorem dX12_formattedByte_23 : decode cX12_formattedByte 23 = .ok (.iload_n 1, 1) := by decide +kernel
theorem dX12_formattedByte_24 : decode cX12_formattedByte 24 = .ok (.invokevirtual 314, 3) := by decide +kernel
theorem dX12_formattedByte_27 : decode cX12_formattedByte 27 = .ok (.ireturn, 1) := by decide +kernel
theorem dX12_undoCount_0 : decode cX12_undoCount 0 = .ok (.aload_n 0, 1) := by decide +kernel
theorem dX12_undoCount_1 : decode cX12_undoCount 1 = .ok (.getfield 90, 3) := by decide +kernel
theorem dX12_undoCount_4 : decode cX12_undoCount 4 = .ok (.ireturn, 1) := by decide +kernel
set_option maxRecDepth 20000 in
theorem ggX12_undo_X3_copyFrom : GoodIn wsX12_undo wsX3_copyFrom := goodIn_r _ [9, 10, 11, 12, 13, 14, 15, 16, 17, 18, 19, 20, 21, 22, 23, 24, 25, 26, 27, 28, 29, 30, 31, 32, 33, 34, 35, 36, 37, 38, 39, 40, 41, 42, 43, 44, 45, 46, 47, 48, 49, 50, 51, 52, 53, 54, 55, 56, 57, 75, 76, 77, 78, 79, 80, 81, 82, 83, 84, 85, 86, 87, 88, 89, 90, 91, 92, 93, 94, 95, 96, 97, 98, 99, 100, 101, 102, 103, 104, 105, 106] (by decide +kernel) (by decide +kernel)
set_option maxRecDepth 20000 in
theorem gX12_undo_X3_copyFrom : GoodIn wsX12_undo (wsV RX12 274 RX3 yX3_copyFrom wsX3_copyFrom) := goodIn_app (goodIn_of _ (by decide +kernel)) ggX12_undo_X3_copyFrom
theorem dX12_undo_0 : decode cX12_undo 0 = .ok (.aload_n 0, 1) := by decide +kernel
theorem dX12_undo_1 : decode cX12_undo 1 = .ok (.getfield 90, 3) := by decide +kernel
theorem dX12_undo_4 : decode cX12_undo 4 = .ok (.ifCond .ne 5, 3) := by decide +kernel
theorem dX12_undo_7 : decode cX12_undo 7 = .ok (.iconst (-1), 1) := by decide +kernel
theorem dX12_undo_8 : decode cX12_undo 8 = .ok (.ireturn, 1) := by decide +kernel
theorem dX12_undo_9 : decode cX12_undo 9 = .ok (.aload_n 0, 1) := by decide +kernel
theorem dX12_undo_10 : decode cX12_undo 10 = .ok (.aload_n 0, 1) := by decide +kernel
theorem dX12_undo_11 : decode cX12_undo 11 = .ok (.getfield 87, 3) := by decide +kernel
theorem dX12_undo_14 : decode cX12_undo 14 = .ok (.bipush 10, 2) := by decide +kernel
theorem dX12_undo_16 : decode cX12_undo 16 = .ok (.iadd, 1) := by decide +kernel
theorem dX12_undo_17 : decode cX12_undo 17 = .ok (.iconst 1, 1) := by decide +kernel
theorem dX12_undo_18 : decode cX12_undo 18 = .ok (.isub, 1) := by decide +kernel
theorem dX12_undo_19 : decode cX12_undo 19 = .ok (.bipush 10, 2) := by decide +kernel
theorem dX12_undo_21 : decode cX12_undo 21 = .ok (.irem, 1) := by decide +kernel
theorem dX12_undo_22 : decode cX12_undo 22 = .ok (.putfield 87, 3) := by decide +kernel
theorem dX12_undo_25 : decode cX12_undo 25 = .ok (.aload_n 0, 1) := by decide +kernel
theorem dX12_undo_26 : decode cX12_undo 26 = .ok (.dup, 1) := by decide +kernel
theorem dX12_undo_27 : decode cX12_undo 27 = .ok (.getfield 90, 3) := by decide +kernel
theorem dX12_undo_30 : decode cX12_undo 30 = .ok (.iconst 1, 1) := by decide +kernel
theorem dX12_undo_31 : decode cX12_undo 31 = .ok (.isub, 1) := by decide +kernel
theorem dX12_undo_32 : decode cX12_undo 32 = .ok (.putfield 90, 3) := by decide +kernel
theorem dX12_undo_35 : decode cX12_undo 35 = .ok (.aload_n 0, 1) := by decide +kernel
theorem dX12_undo_36 : decode cX12_undo 36 = .ok (.getfield 51, 3) := by decide +kernel
theorem dX12_undo_39 : decode cX12_undo 39 = .ok (.aload_n 0, 1) := by decide +kernel
theorem dX12_undo_40 : decode cX12_undo 40 = .ok (.getfield 83, 3) := by decide +kernel
theorem dX12_undo_43 : decode cX12_undo 43 = .ok (.aload_n 0, 1) := by decide +kernel
theorem dX12_undo_44 : decode cX12_undo 44 = .ok (.getfield 87, 3) := by decide +kernel
theorem dX12_undo_47 : decode cX12_undo 47 = .ok (.aaload, 1) := by decide +kernel
theorem dX12_undo_48 : decode cX12_undo 48 = .ok (.invokevirtual 274, 3) := by decide +kernel
theorem dX12_undo_51 : decode cX12_undo 51 = .ok (.aload_n 0, 1) := by decide +kernel
theorem dX12_undo_52 : decode cX12_undo 52 = .ok (.getfield 90, 3) := by decide +kernel
theorem dX12_undo_55 : decode cX12_undo 55 = .ok (.ireturn, 1) := by decide +kernel
set_option maxRecDepth 20000 in
theorem ggX12_saveSnapshot_X3_copyFrom : GoodIn wsX12_saveSnapshot wsX3_copyFrom := goodIn_r _ [8, 9, 10, 11, 12, 13, 14, 15, 16, 17, 18, 19, 20, 21, 22, 23, 24, 25, 26, 27, 28, 29, 30, 31, 32, 33, 34, 35, 36, 37, 38, 39, 40, 41, 42, 43, 44, 45, 46, 47, 48, 49, 50, 51, 52, 53, 54, 55, 56, 74, 75, 76, 77, 78, 79, 80, 81, 82, 83, 84, 85, 86, 87, 88, 89, 90, 91, 92, 93, 94, 95, 96, 97, 98, 99, 100, 101, 102, 103, 104, 105] (by decide +kernel) (by decide +kernel)
set_option maxRecDepth 20000 in
theorem gX12_saveSnapshot_X3_copyFrom : GoodIn wsX12_saveSnapshot (wsV RX12 274 RX3 yX3_copyFrom wsX3_copyFrom) := goodIn_app (goodIn_of _ (by decide +kernel)) ggX12_saveSnapshot_X3_copyFrom
theorem dX12_saveSnapshot_0 : decode cX12_saveSnapshot 0 = .ok (.aload_n 0, 1) := by decide +kernel
theorem dX12_saveSnapshot_1 : decode cX12_saveSnapshot 1 = .ok (.getfield 76, 3) := by decide +kernel
theorem dX12_saveSnapshot_4 : decode cX12_saveSnapshot 4 = .ok (.aload_n 0, 1) := by decide +kernel
theorem dX12_saveSnapshot_5 : decode cX12_saveSnapshot 5 = .ok (.getfield 51, 3) := by decide +kernel
theorem dX12_saveSnapshot_8 : decode cX12_saveSnapshot 8 = .ok (.invokevirtual 274, 3) := by decide +kernel
theorem dX12_saveSnapshot_11 : decode cX12_saveSnapshot 11 = .ok (.aload_n 0, 1) := by decide +kernel
theorem dX12_saveSnapshot_12 : decode cX12_saveSnapshot 12 = .ok (.iconst 1, 1) := by decide +kernel
theorem dX12_saveSnapshot_13 : decode cX12_saveSnapshot 13 = .ok (.putfield 79, 3) := by decide +kernel
theorem dX12_saveSnapshot_16 : decode cX12_saveSnapshot 16 = .ok (.return_, 1) := by decide +kernel
set_option maxRecDepth 20000 in
theorem ggX12_restoreSnapshot_X3_copyFrom : GoodIn wsX12_restoreSnapshot wsX3_copyFrom := goodIn_r _ [9, 10, 11, 12, 13, 14, 15, 16, 17, 18, 19, 20, 21, 22, 23, 24, 25, 26, 27, 28, 29, 30, 31, 32, 33, 34, 35, 36, 37, 38, 39, 40, 41, 42, 43, 44, 45, 46, 47, 48, 49, 50, 51, 52, 53, 54, 55, 56, 57, 75, 76, 77, 78, 79, 80, 81, 82, 83, 84, 85, 86, 87, 88, 89, 90, 91, 92, 93, 94, 95, 96, 97, 98, 99, 100, 101, 102, 103, 104, 105, 106] (by decide +kernel) (by decide +kernel)
set_option maxRecDepth 20000 in
theorem gX12_restoreSnapshot_X3_copyFrom : GoodIn wsX12_restoreSnapshot (wsV RX12 274 RX3 yX3_copyFrom wsX3_copyFrom) := goodIn_app (goodIn_of _ (by decide +kernel)) ggX12_restoreSnapshot_X3_copyFrom
theorem dX12_restoreSnapshot_0 : decode cX12_restoreSnapshot 0 = .ok (.aload_n 0, 1) := by decide +kernel
theorem dX12_restoreSnapshot_1 : decode cX12_restoreSnapshot 1 = .ok (.getfield 79, 3) := by decide +kernel
theorem dX12_restoreSnapshot_4 : decode cX12_restoreSnapshot 4 = .ok (.ifCond .ne 5, 3) := by decide +kernel
theorem dX12_restoreSnapshot_7 : decode cX12_restoreSnapshot 7 = .ok (.iconst 0, 1) := by decide +kernel
theorem dX12_restoreSnapshot_8 : decode cX12_restoreSnapshot 8 = .ok (.ireturn, 1) := by decide +kernel
theorem dX12_restoreSnapshot_9 : decode cX12_restoreSnapshot 9 = .ok (.aload_n 0, 1) := by decide +kernel
theorem dX12_restoreSnapshot_10 : decode cX12_restoreSnapshot 10 = .ok (.getfield 51, 3) := by decide +kernel
theorem dX12_restoreSnapshot_13 : decode cX12_restoreSnapshot 13 = .ok (.aload_n 0, 1) := by decide +kernel
theorem dX12_restoreSnapshot_14 : decode cX12_restoreSnapshot 14 = .ok (.getfield 76, 3) := by decide +kernel
theorem dX12_restoreSnapshot_17 : decode cX12_restoreSnapshot 17 = .ok (.invokevirtual 274, 3) := by decide +kernel
theorem dX12_restoreSnapshot_20 : decode cX12_restoreSnapshot 20 = .ok (.aload_n 0, 1) := by decide +kernel
theorem dX12_restoreSnapshot_21 : decode cX12_restoreSnapshot 21 = .ok (.iconst 0, 1) := by decide +kernel
theorem dX12_restoreSnapshot_22 : decode cX12_restoreSnapshot 22 = .ok (.putfield 90, 3) := by decide +kernel
theorem dX12_restoreSnapshot_25 : decode cX12_restoreSnapshot 25 = .ok (.iconst 1, 1) := by decide +kernel
theorem dX12_restoreSnapshot_26 : decode cX12_restoreSnapshot 26 = .ok (.ireturn, 1) := by decide +kernel
set_option maxRecDepth 20000 in
theorem ggX12_query_X11_scan : GoodIn wsX12_query wsX11_scan := goodIn_r _ [16, 17, 18, 19, 20, 21, 22, 23, 24, 25, 26, 27, 28, 29, 30, 31, 15, 32, 33, 34, 35, 36, 37, 38, 39, 40, 41, 42, 43, 44, 45, 46, 47, 48, 49, 50, 51, 52, 53, 54, 55, 56, 57, 58, 59, 60, 61, 62, 63, 64, 65, 66, 67, 68, 69, 70, 71, 72, 73, 74, 75, 76, 77, 78, 79, 80, 81, 82, 83, 84, 85, 86, 87, 88, 89, 90, 91, 92, 93, 94, 95, 96, 97, 98, 99, 100, 101, 102, 103, 104, 105, 106, 107, 249, 250, 251, 252, 253, 254, 255, 256, 257, 258, 259, 260, 261] (by decide +kernel) (by decide +kernel)
set_option maxRecDepth 20000 in
theorem gX12_query_X11_scan : GoodIn wsX12_query (wsV RX12 111 RX11 yX11_scan wsX11_scan) := goodIn_app (goodIn_of _ (by decide +kernel)) ggX12_query_X11_scan
set_option maxRecDepth 20000 in
theorem ggX12_query_X11_takeRole : GoodIn wsX12_query wsX11_takeRole := goodIn_r _ [111, 112, 113, 114, 115, 15, 116, 107, 22, 25, 117, 118, 119, 120, 121, 122, 123, 124, 125, 23, 27, 24, 249, 250, 251, 252, 253, 254, 255, 256, 257] (by decide +kernel) (by decide +kernel)
set_option maxRecDepth 20000 in
theorem gX12_query_X11_takeRole : GoodIn wsX12_query (wsV RX12 318 RX11 yX11_takeRole wsX11_takeRole) := goodIn_app (goodIn_of _ (by decide +kernel)) ggX12_query_X11_takeRole
set_option maxRecDepth 20000 in
theorem ggX12_query_X6_readTest : GoodIn wsX12_query wsX6_readTest := goodIn_r _ [129, 130, 131, 132, 133, 134, 127, 135, 136, 137, 15, 138, 107, 22, 139, 140, 141, 142, 25, 143, 144, 145, 146, 147, 148, 149, 150, 151, 152, 153, 154, 155, 156, 157, 158, 159, 160, 161, 162, 163, 164, 165, 166, 114, 115, 116, 112, 117, 118, 119, 120, 121, 167, 168, 169, 170, 33, 37, 122, 123, 124, 125, 23, 27, 24, 171, 172, 173, 174, 175, 176, 177, 178, 179, 180, 181, 182, 183, 184, 185, 186, 187, 188, 189, 190, 191, 192, 193, 194, 195, 196, 197, 198, 109, 110, 111, 113, 199, 200, 201, 202, 203, 204, 205, 126, 128, 206, 207, 208, 209, 262, 263, 264, 265, 249, 250, 251, 252, 253, 254, 255, 256, 257, 266, 267, 268, 269, 270, 271, 272, 273, 274, 275, 276, 277, 278, 279, 280, 281, 282, 283, 284, 285, 286, 287, 288, 289, 290, 291, 292, 293, 294, 295, 296, 297] (by decide +kernel) (by decide +kernel)
set_option maxRecDepth 20000 in
theorem gX12_query_X6_readTest_n322 : GoodIn wsX12_query (wsX6_readTest) := ggX12_query_X6_readTest
set_option maxRecDepth 20000 in
theorem ggX12_query_X4_engineMask : GoodIn wsX12_query wsX4_engineMask := goodIn_r _ [214, 215, 216, 298, 299, 300, 301, 302, 303, 304, 305, 306, 307, 308, 309, 310, 311, 312, 313, 314, 315, 316, 317, 318, 319, 320, 321, 322] (by decide +kernel) (by decide +kernel)
set_option maxRecDepth 20000 in
theorem gX12_query_X4_engineMask : GoodIn wsX12_query (wsV RX12 127 RX4 yX4_engineMask wsX4_engineMask) := goodIn_app (goodIn_of _ (by decide +kernel)) ggX12_query_X4_engineMask
set_option maxRecDepth 20000 in
theorem ggX12_query_X11_expectEnd : GoodIn wsX12_query wsX11_expectEnd := goodIn_r _ [220, 26, 139, 140, 141, 15, 142, 25, 107, 122, 123, 124, 125, 23, 27, 24, 22, 249, 250, 251, 252, 253, 254, 255, 256, 257] (by decide +kernel) (by decide +kernel)
set_option maxRecDepth 20000 in
theorem gX12_query_X11_expectEnd : GoodIn wsX12_query (wsV RX12 325 RX11 yX11_expectEnd wsX11_expectEnd) := goodIn_app (goodIn_of _ (by decide +kernel)) ggX12_query_X11_expectEnd
set_option maxRecDepth 20000 in
theorem ggX12_query_J6_bitCount_0f7a4 : GoodIn wsX12_query wsJ6_bitCount_0f7a4 := goodIn_r _ [224, 225, 226, 227] (by decide +kernel) (by decide +kernel)
set_option maxRecDepth 20000 in
theorem gX12_query_J6_bitCount_0f7a4 : GoodIn wsX12_query (va_wsS RX12 335 yJ6_bitCount_0f7a4 wsJ6_bitCount_0f7a4) := goodIn_app (goodIn_of _ (by decide +kernel)) ggX12_query_J6_bitCount_0f7a4
set_option maxRecDepth 20000 in
theorem ggX12_query_X12_firstEngine : GoodIn wsX12_query wsX12_firstEngine := goodIn_r _ [231] (by decide +kernel) (by decide +kernel)
set_option maxRecDepth 20000 in
theorem gX12_query_X12_firstEngine : GoodIn wsX12_query (va_wsS RX12 340 yX12_firstEngine wsX12_firstEngine) := goodIn_app (goodIn_of _ (by decide +kernel)) ggX12_query_X12_firstEngine
theorem dX12_query_0 : decode cX12_query 0 = .ok (.iload_n 1, 1) := by decide +kernel
theorem dX12_query_1 : decode cX12_query 1 = .ok (.ifCond .lt 18, 3) := by decide +kernel
theorem dX12_query_4 : decode cX12_query 4 = .ok (.iload_n 1, 1) := by decide +kernel
theorem dX12_query_5 : decode cX12_query 5 = .ok (.sipush 200, 3) := by decide +kernel
theorem dX12_query_8 : decode cX12_query 8 = .ok (.if_icmp .gt 11, 3) := by decide +kernel
theorem dX12_query_11 : decode cX12_query 11 = .ok (.iload_n 1, 1) := by decide +kernel
theorem dX12_query_12 : decode cX12_query 12 = .ok (.aload_n 0, 1) := by decide +kernel
theorem dX12_query_13 : decode cX12_query 13 = .ok (.getfield 13, 3) := by decide +kernel
theorem dX12_query_16 : decode cX12_query 16 = .ok (.if_icmp .le 11, 3) := by decide +kernel
theorem dX12_query_19 : decode cX12_query 19 = .ok (.new 108, 3) := by decide +kernel
theorem dX12_query_22 : decode cX12_query 22 = .ok (.dup, 1) := by decide +kernel
theorem dX12_query_23 : decode cX12_query 23 = .ok (.invokespecial 110, 3) := by decide +kernel
theorem dX12_query_26 : decode cX12_query 26 = .ok (.athrow, 1) := by decide +kernel
theorem dX12_query_27 : decode cX12_query 27 = .ok (.aload_n 0, 1) := by decide +kernel
theorem dX12_query_28 : decode cX12_query 28 = .ok (.iconst 0, 1) := by decide +kernel
theorem dX12_query_29 : decode cX12_query 29 = .ok (.putfield 13, 3) := by decide +kernel
theorem dX12_query_32 : decode cX12_query 32 = .ok (.aload_n 0, 1) := by decide +kernel
theorem dX12_query_33 : decode cX12_query 33 = .ok (.getfield 25, 3) := by decide +kernel
theorem dX12_query_36 : decode cX12_query 36 = .ok (.iload_n 1, 1) := by decide +kernel
theorem dX12_query_37 : decode cX12_query 37 = .ok (.invokevirtual 111, 3) := by decide +kernel
theorem dX12_query_40 : decode cX12_query 40 = .ok (.aload_n 0, 1) := by decide +kernel
theorem dX12_query_41 : decode cX12_query 41 = .ok (.getfield 25, 3) := by decide +kernel
theorem dX12_query_44 : decode cX12_query 44 = .ok (.sipush 8192, 3) := by decide +kernel
theorem dX12_query_47 : decode cX12_query 47 = .ok (.invokevirtual 318, 3) := by decide +kernel
theorem dX12_query_50 : decode cX12_query 50 = .ok (.astore_n 2, 1) := by decide +kernel
theorem dX12_query_51 : decode cX12_query 51 = .ok (.aload_n 0, 1) := by decide +kernel
theorem dX12_query_52 : decode cX12_query 52 = .ok (.getfield 72, 3) := by decide +kernel
theorem dX12_query_55 : decode cX12_query 55 = .ok (.iconst 0, 1) := by decide +kernel
theorem dX12_query_56 : decode cX12_query 56 = .ok (.invokevirtual 322, 3) := by decide +kernel
theorem dX12_query_59 : decode cX12_query 59 = .ok (.aload_n 0, 1) := by decide +kernel
theorem dX12_query_60 : decode cX12_query 60 = .ok (.getfield 32, 3) := by decide +kernel
theorem dX12_query_63 : decode cX12_query 63 = .ok (.invokevirtual 127, 3) := by decide +kernel
theorem dX12_query_66 : decode cX12_query 66 = .ok (.iand, 1) := by decide +kernel
theorem dX12_query_67 : decode cX12_query 67 = .ok (.istore_n 3, 1) := by decide +kernel
theorem dX12_query_68 : decode cX12_query 68 = .ok (.aload_n 0, 1) := by decide +kernel
theorem dX12_query_69 : decode cX12_query 69 = .ok (.getfield 25, 3) := by decide +kernel
theorem dX12_query_72 : decode cX12_query 72 = .ok (.invokevirtual 325, 3) := by decide +kernel
theorem dX12_query_75 : decode cX12_query 75 = .ok (.aload_n 0, 1) := by decide +kernel
theorem dX12_query_76 : decode cX12_query 76 = .ok (.aload_n 0, 1) := by decide +kernel
theorem dX12_query_77 : decode cX12_query 77 = .ok (.getfield 25, 3) := by decide +kernel
theorem dX12_query_80 : decode cX12_query 80 = .ok (.getfield 117, 3) := by decide +kernel
theorem dX12_query_83 : decode cX12_query 83 = .ok (.putfield 17, 3) := by decide +kernel
theorem dX12_query_86 : decode cX12_query 86 = .ok (.aload_n 0, 1) := by decide +kernel
theorem dX12_query_87 : decode cX12_query 87 = .ok (.getfield 25, 3) := by decide +kernel
theorem dX12_query_90 : decode cX12_query 90 = .ok (.getfield 120, 3) := by decide +kernel
theorem dX12_query_93 : decode cX12_query 93 = .ok (.ifCond .eq 15, 3) := by decide +kernel
theorem dX12_query_96 : decode cX12_query 96 = .ok (.ldc_w 328, 3) := by decide +kernel
theorem dX12_query_99 : decode cX12_query 99 = .ok (.aload_n 0, 1) := by decide +kernel
theorem dX12_query_100 : decode cX12_query 100 = .ok (.getfield 25, 3) := by decide +kernel
theorem dX12_query_103 : decode cX12_query 103 = .ok (.getfield 120, 3) := by decide +kernel
theorem dX12_query_106 : decode cX12_query 106 = .ok (.isub, 1) := by decide +kernel
theorem dX12_query_107 : decode cX12_query 107 = .ok (.ireturn, 1) := by decide +kernel
theorem dX12_query_108 : decode cX12_query 108 = .ok (.aload_n 2, 1) := by decide +kernel
theorem dX12_query_109 : decode cX12_query 109 = .ok (.getstatic 329, 3) := by decide +kernel
theorem dX12_query_112 : decode cX12_query 112 = .ok (.if_acmp .ne 10, 3) := by decide +kernel
theorem dX12_query_115 : decode cX12_query 115 = .ok (.iload_n 3, 1) := by decide +kernel
theorem dX12_query_116 : decode cX12_query 116 = .ok (.invokestatic 335, 3) := by decide +kernel
theorem dX12_query_119 : decode cX12_query 119 = .ok (.goto 7, 3) := by decide +kernel
theorem dX12_query_122 : decode cX12_query 122 = .ok (.iload_n 3, 1) := by decide +kernel
theorem dX12_query_123 : decode cX12_query 123 = .ok (.invokestatic 340, 3) := by decide +kernel
theorem dX12_query_126 : decode cX12_query 126 = .ok (.ireturn, 1) := by decide +kernel
theorem dX12_appendBytes_0 : decode cX12_appendBytes 0 = .ok (.bipush 24, 2) := by decide +kernel
theorem dX12_appendBytes_2 : decode cX12_appendBytes 2 = .ok (.istore_n 2, 1) := by decide +kernel
theorem dX12_appendBytes_3 : decode cX12_appendBytes 3 = .ok (.iload_n 2, 1) := by decide +kernel
theorem dX12_appendBytes_4 : decode cX12_appendBytes 4 = .ok (.ifCond .lt 42, 3) := by decide +kernel
theorem dX12_appendBytes_7 : decode cX12_appendBytes 7 = .ok (.aload_n 0, 1) := by decide +kernel
theorem dX12_appendBytes_8 : decode cX12_appendBytes 8 = .ok (.getfield 13, 3) := by decide +kernel
theorem dX12_appendBytes_11 : decode cX12_appendBytes 11 = .ok (.sipush 1000, 3) := by decide +kernel
theorem dX12_appendBytes_14 : decode cX12_appendBytes 14 = .ok (.if_icmp .ge 26, 3) := by decide +kernel
theorem dX12_appendBytes_17 : decode cX12_appendBytes 17 = .ok (.aload_n 0, 1) := by decide +kernel
theorem dX12_appendBytes_18 : decode cX12_appendBytes 18 = .ok (.getfield 9, 3) := by decide +kernel
theorem dX12_appendBytes_21 : decode cX12_appendBytes 21 = .ok (.aload_n 0, 1) := by decide +kernel
theorem dX12_appendBytes_22 : decode cX12_appendBytes 22 = .ok (.getfield 13, 3) := by decide +kernel
theorem dX12_appendBytes_25 : decode cX12_appendBytes 25 = .ok (.iload_n 1, 1) := by decide +kernel
theorem dX12_appendBytes_26 : decode cX12_appendBytes 26 = .ok (.iload_n 2, 1) := by decide +kernel
theorem dX12_appendBytes_27 : decode cX12_appendBytes 27 = .ok (.ishr, 1) := by decide +kernel
theorem dX12_appendBytes_28 : decode cX12_appendBytes 28 = .ok (.i2b, 1) := by decide +kernel
theorem dX12_appendBytes_29 : decode cX12_appendBytes 29 = .ok (.bastore, 1) := by decide +kernel
theorem dX12_appendBytes_30 : decode cX12_appendBytes 30 = .ok (.aload_n 0, 1) := by decide +kernel
theorem dX12_appendBytes_31 : decode cX12_appendBytes 31 = .ok (.dup, 1) := by decide +kernel
theorem dX12_appendBytes_32 : decode cX12_appendBytes 32 = .ok (.getfield 13, 3) := by decide +kernel
theorem dX12_appendBytes_35 : decode cX12_appendBytes 35 = .ok (.iconst 1, 1) := by decide +kernel
theorem dX12_appendBytes_36 : decode cX12_appendBytes 36 = .ok (.iadd, 1) := by decide +kernel
theorem dX12_appendBytes_37 : decode cX12_appendBytes 37 = .ok (.putfield 13, 3) := by decide +kernel
theorem dX12_appendBytes_40 : decode cX12_appendBytes 40 = .ok (.iinc 2 (-8), 3) := by decide +kernel
theorem dX12_appendBytes_43 : decode cX12_appendBytes 43 = .ok (.goto (-40), 3) := by decide +kernel
theorem dX12_appendBytes_46 : decode cX12_appendBytes 46 = .ok (.return_, 1) := by decide +kernel
set_option maxRecDepth 20000 in
theorem ggX12_remember_X3_copyFrom : GoodIn wsX12_remember wsX3_copyFrom := goodIn_r _ [13, 14, 15, 16, 17, 18, 19, 20, 21, 22, 23, 24, 25, 26, 27, 28, 29, 30, 31, 32, 33, 34, 35, 36, 37, 38, 39, 40, 41, 42, 43, 44, 45, 46, 47, 48, 49, 50, 51, 52, 53, 54, 55, 56, 57, 58, 59, 60, 61, 79, 80, 81, 82, 83, 84, 85, 86, 87, 88, 89, 90, 91, 92, 93, 94, 95, 96, 97, 98, 99, 100, 101, 102, 103, 104, 105, 106, 107, 108, 109, 110] (by decide +kernel) (by decide +kernel)
set_option maxRecDepth 20000 in
theorem gX12_remember_X3_copyFrom : GoodIn wsX12_remember (wsV RX12 274 RX3 yX3_copyFrom wsX3_copyFrom) := goodIn_app (goodIn_of _ (by decide +kernel)) ggX12_remember_X3_copyFrom
theorem dX12_remember_0 : decode cX12_remember 0 = .ok (.aload_n 0, 1) := by decide +kernel
theorem dX12_remember_1 : decode cX12_remember 1 = .ok (.getfield 83, 3) := by decide +kernel
theorem dX12_remember_4 : decode cX12_remember 4 = .ok (.aload_n 0, 1) := by decide +kernel
theorem dX12_remember_5 : decode cX12_remember 5 = .ok (.getfield 87, 3) := by decide +kernel
theorem dX12_remember_8 : decode cX12_remember 8 = .ok (.aaload, 1) := by decide +kernel
theorem dX12_remember_9 : decode cX12_remember 9 = .ok (.aload_n 0, 1) := by decide +kernel
theorem dX12_remember_10 : decode cX12_remember 10 = .ok (.getfield 51, 3) := by decide +kernel
theorem dX12_remember_13 : decode cX12_remember 13 = .ok (.invokevirtual 274, 3) := by decide +kernel
theorem dX12_remember_16 : decode cX12_remember 16 = .ok (.aload_n 0, 1) := by decide +kernel
theorem dX12_remember_17 : decode cX12_remember 17 = .ok (.aload_n 0, 1) := by decide +kernel
theorem dX12_remember_18 : decode cX12_remember 18 = .ok (.getfield 87, 3) := by decide +kernel
theorem dX12_remember_21 : decode cX12_remember 21 = .ok (.iconst 1, 1) := by decide +kernel
theorem dX12_remember_22 : decode cX12_remember 22 = .ok (.iadd, 1) := by decide +kernel
theorem dX12_remember_23 : decode cX12_remember 23 = .ok (.bipush 10, 2) := by decide +kernel
theorem dX12_remember_25 : decode cX12_remember 25 = .ok (.irem, 1) := by decide +kernel
theorem dX12_remember_26 : decode cX12_remember 26 = .ok (.putfield 87, 3) := by decide +kernel
theorem dX12_remember_29 : decode cX12_remember 29 = .ok (.aload_n 0, 1) := by decide +kernel
theorem dX12_remember_30 : decode cX12_remember 30 = .ok (.aload_n 0, 1) := by decide +kernel
theorem dX12_remember_31 : decode cX12_remember 31 = .ok (.getfield 90, 3) := by decide +kernel
theorem dX12_remember_34 : decode cX12_remember 34 = .ok (.iconst 1, 1) := by decide +kernel
theorem dX12_remember_35 : decode cX12_remember 35 = .ok (.iadd, 1) := by decide +kernel
theorem dX12_remember_36 : decode cX12_remember 36 = .ok (.bipush 10, 2) := by decide +kernel
theorem dX12_remember_38 : decode cX12_remember 38 = .ok (.invokestatic 289, 3) := by decide +kernel
theorem dX12_remember_41 : decode cX12_remember 41 = .ok (.putfield 90, 3) := by decide +kernel
theorem dX12_remember_44 : decode cX12_remember 44 = .ok (.return_, 1) := by decide +kernel
set_option maxRecDepth 20000 in
theorem ggX12_idleEngines_X4_hasEngine : GoodIn wsX12_idleEngines wsX4_hasEngine := goodIn_r _ [11, 12, 13, 59, 60, 61, 62, 63, 64, 65, 66, 67, 68, 69, 70, 71, 72, 73, 74, 75, 76, 77, 78, 79, 80, 81, 82, 83] (by decide +kernel) (by decide +kernel)
set_option maxRecDepth 20000 in
theorem gX12_idleEngines_X4_hasEngine : GoodIn wsX12_idleEngines (wsV RX12 343 RX4 yX4_hasEngine wsX4_hasEngine) := goodIn_app (goodIn_of _ (by decide +kernel)) ggX12_idleEngines_X4_hasEngine
theorem dX12_idleEngines_0 : decode cX12_idleEngines 0 = .ok (.iconst 0, 1) := by decide +kernel
theorem dX12_idleEngines_1 : decode cX12_idleEngines 1 = .ok (.istore_n 1, 1) := by decide +kernel
theorem dX12_idleEngines_2 : decode cX12_idleEngines 2 = .ok (.iconst 0, 1) := by decide +kernel
theorem dX12_idleEngines_3 : decode cX12_idleEngines 3 = .ok (.istore_n 2, 1) := by decide +kernel
theorem dX12_idleEngines_4 : decode cX12_idleEngines 4 = .ok (.iload_n 2, 1) := by decide +kernel
theorem dX12_idleEngines_5 : decode cX12_idleEngines 5 = .ok (.iconst 4, 1) := by decide +kernel
theorem dX12_idleEngines_6 : decode cX12_idleEngines 6 = .ok (.if_icmp .ge 78, 3) := by decide +kernel
theorem dX12_idleEngines_9 : decode cX12_idleEngines 9 = .ok (.aload_n 0, 1) := by decide +kernel
theorem dX12_idleEngines_10 : decode cX12_idleEngines 10 = .ok (.getfield 51, 3) := by decide +kernel
theorem dX12_idleEngines_13 : decode cX12_idleEngines 13 = .ok (.getfield 281, 3) := by decide +kernel
theorem dX12_idleEngines_16 : decode cX12_idleEngines 16 = .ok (.iload_n 2, 1) := by decide +kernel
theorem dX12_idleEngines_17 : decode cX12_idleEngines 17 = .ok (.aaload, 1) := by decide +kernel
theorem dX12_idleEngines_18 : decode cX12_idleEngines 18 = .ok (.astore_n 3, 1) := by decide +kernel
theorem dX12_idleEngines_19 : decode cX12_idleEngines 19 = .ok (.aload_n 0, 1) := by decide +kernel
theorem dX12_idleEngines_20 : decode cX12_idleEngines 20 = .ok (.getfield 32, 3) := by decide +kernel
theorem dX12_idleEngines_23 : decode cX12_idleEngines 23 = .ok (.iload_n 2, 1) := by decide +kernel
theorem dX12_idleEngines_24 : decode cX12_idleEngines 24 = .ok (.invokevirtual 343, 3) := by decide +kernel
theorem dX12_idleEngines_27 : decode cX12_idleEngines 27 = .ok (.ifCond .eq 14, 3) := by decide +kernel
theorem dX12_idleEngines_30 : decode cX12_idleEngines 30 = .ok (.aload_n 3, 1) := by decide +kernel
theorem dX12_idleEngines_31 : decode cX12_idleEngines 31 = .ok (.getfield 195, 3) := by decide +kernel
theorem dX12_idleEngines_34 : decode cX12_idleEngines 34 = .ok (.ifCond .eq 7, 3) := by decide +kernel
theorem dX12_idleEngines_37 : decode cX12_idleEngines 37 = .ok (.iconst 1, 1) := by decide +kernel
theorem dX12_idleEngines_38 : decode cX12_idleEngines 38 = .ok (.goto 4, 3) := by decide +kernel
theorem dX12_idleEngines_41 : decode cX12_idleEngines 41 = .ok (.iconst 0, 1) := by decide +kernel
theorem dX12_idleEngines_42 : decode cX12_idleEngines 42 = .ok (.istore 4, 2) := by decide +kernel
theorem dX12_idleEngines_44 : decode cX12_idleEngines 44 = .ok (.iload 4, 2) := by decide +kernel
theorem dX12_idleEngines_46 : decode cX12_idleEngines 46 = .ok (.ifCond .eq 32, 3) := by decide +kernel
theorem dX12_idleEngines_49 : decode cX12_idleEngines 49 = .ok (.aload_n 0, 1) := by decide +kernel
theorem dX12_idleEngines_50 : decode cX12_idleEngines 50 = .ok (.getfield 55, 3) := by decide +kernel
theorem dX12_idleEngines_53 : decode cX12_idleEngines 53 = .ok (.getfield 281, 3) := by decide +kernel
theorem dX12_idleEngines_56 : decode cX12_idleEngines 56 = .ok (.iload_n 2, 1) := by decide +kernel
theorem dX12_idleEngines_57 : decode cX12_idleEngines 57 = .ok (.aaload, 1) := by decide +kernel
theorem dX12_idleEngines_58 : decode cX12_idleEngines 58 = .ok (.getfield 217, 3) := by decide +kernel
theorem dX12_idleEngines_61 : decode cX12_idleEngines 61 = .ok (.iconst 0, 1) := by decide +kernel
theorem dX12_idleEngines_62 : decode cX12_idleEngines 62 = .ok (.iaload, 1) := by decide +kernel
theorem dX12_idleEngines_63 : decode cX12_idleEngines 63 = .ok (.aload_n 3, 1) := by decide +kernel
theorem dX12_idleEngines_64 : decode cX12_idleEngines 64 = .ok (.getfield 217, 3) := by decide +kernel
theorem dX12_idleEngines_67 : decode cX12_idleEngines 67 = .ok (.iconst 0, 1) := by decide +kernel
theorem dX12_idleEngines_68 : decode cX12_idleEngines 68 = .ok (.iaload, 1) := by decide +kernel
theorem dX12_idleEngines_69 : decode cX12_idleEngines 69 = .ok (.if_icmp .ne 9, 3) := by decide +kernel
theorem dX12_idleEngines_72 : decode cX12_idleEngines 72 = .ok (.iload_n 1, 1) := by decide +kernel
theorem dX12_idleEngines_73 : decode cX12_idleEngines 73 = .ok (.iconst 1, 1) := by decide +kernel
theorem dX12_idleEngines_74 : decode cX12_idleEngines 74 = .ok (.iload_n 2, 1) := by decide +kernel
theorem dX12_idleEngines_75 : decode cX12_idleEngines 75 = .ok (.ishl, 1) := by decide +kernel
theorem dX12_idleEngines_76 : decode cX12_idleEngines 76 = .ok (.ior, 1) := by decide +kernel
theorem dX12_idleEngines_77 : decode cX12_idleEngines 77 = .ok (.istore_n 1, 1) := by decide +kernel
theorem dX12_idleEngines_78 : decode cX12_idleEngines 78 = .ok (.iinc 2 1, 3) := by decide +kernel
theorem dX12_idleEngines_81 : decode cX12_idleEngines 81 = .ok (.goto (-77), 3) := by decide +kernel
theorem dX12_idleEngines_84 : decode cX12_idleEngines 84 = .ok (.iload_n 1, 1) := by decide +kernel
theorem dX12_idleEngines_85 : decode cX12_idleEngines 85 = .ok (.ireturn, 1) := by decide +kernel
theorem dX12_firstEngine_0 : decode cX12_firstEngine 0 = .ok (.iconst 0, 1) := by decide +kernel
theorem dX12_firstEngine_1 : decode cX12_firstEngine 1 = .ok (.istore_n 1, 1) := by decide +kernel
theorem dX12_firstEngine_2 : decode cX12_firstEngine 2 = .ok (.iload_n 1, 1) := by decide +kernel
theorem dX12_firstEngine_3 : decode cX12_firstEngine 3 = .ok (.iconst 4, 1) := by decide +kernel
theorem dX12_firstEngine_4 : decode cX12_firstEngine 4 = .ok (.if_icmp .ge 20, 3) := by decide +kernel
theorem dX12_firstEngine_7 : decode cX12_firstEngine 7 = .ok (.iload_n 0, 1) := by decide +kernel
theorem dX12_firstEngine_8 : decode cX12_firstEngine 8 = .ok (.iload_n 1, 1) := by decide +kernel
theorem dX12_firstEngine_9 : decode cX12_firstEngine 9 = .ok (.ishr, 1) := by decide +kernel
theorem dX12_firstEngine_10 : decode cX12_firstEngine 10 = .ok (.iconst 1, 1) := by decide +kernel
theorem dX12_firstEngine_11 : decode cX12_firstEngine 11 = .ok (.iand, 1) := by decide +kernel
theorem dX12_firstEngine_12 : decode cX12_firstEngine 12 = .ok (.iconst 1, 1) := by decide +kernel
theorem dX12_firstEngine_13 : decode cX12_firstEngine 13 = .ok (.if_icmp .ne 5, 3) := by decide +kernel
theorem dX12_firstEngine_16 : decode cX12_firstEngine 16 = .ok (.iload_n 1, 1) := by decide +kernel
theorem dX12_firstEngine_17 : decode cX12_firstEngine 17 = .ok (.ireturn, 1) := by decide +kernel
theorem dX12_firstEngine_18 : decode cX12_firstEngine 18 = .ok (.iinc 1 1, 3) := by decide +kernel
theorem dX12_firstEngine_21 : decode cX12_firstEngine 21 = .ok (.goto (-19), 3) := by decide +kernel
theorem dX12_firstEngine_24 : decode cX12_firstEngine 24 = .ok (.iconst (-1), 1) := by decide +kernel
theorem dX12_firstEngine_25 : decode cX12_firstEngine 25 = .ok (.ireturn, 1) := by decide +kernel
set_option maxRecDepth 20000 in
theorem ggX12_existingEngine_X4_hasEngine : GoodIn wsX12_existingEngine wsX4_hasEngine := goodIn_r _ [10, 11, 12, 44, 45, 46, 47, 48, 49, 50, 51, 52, 53, 54, 55, 56, 57, 58, 59, 60, 61, 62, 63, 64, 65, 66, 67, 68] (by decide +kernel) (by decide +kernel)
set_option maxRecDepth 20000 in
theorem gX12_existingEngine_X4_hasEngine : GoodIn wsX12_existingEngine (wsV RX12 343 RX4 yX4_hasEngine wsX4_hasEngine) := goodIn_app (goodIn_of _ (by decide +kernel)) ggX12_existingEngine_X4_hasEngine
theorem dX12_existingEngine_0 : decode cX12_existingEngine 0 = .ok (.aload_n 0, 1) := by decide +kernel
theorem dX12_existingEngine_1 : decode cX12_existingEngine 1 = .ok (.getfield 32, 3) := by decide +kernel
theorem dX12_existingEngine_4 : decode cX12_existingEngine 4 = .ok (.iload_n 1, 1) := by decide +kernel
theorem dX12_existingEngine_5 : decode cX12_existingEngine 5 = .ok (.invokevirtual 343, 3) := by decide +kernel
theorem dX12_existingEngine_8 : decode cX12_existingEngine 8 = .ok (.ifCond .ne 11, 3) := by decide +kernel
theorem dX12_existingEngine_11 : decode cX12_existingEngine 11 = .ok (.new 146, 3) := by decide +kernel
theorem dX12_existingEngine_14 : decode cX12_existingEngine 14 = .ok (.dup, 1) := by decide +kernel
theorem dX12_existingEngine_15 : decode cX12_existingEngine 15 = .ok (.invokespecial 148, 3) := by decide +kernel
theorem dX12_existingEngine_18 : decode cX12_existingEngine 18 = .ok (.athrow, 1) := by decide +kernel
theorem dX12_existingEngine_19 : decode cX12_existingEngine 19 = .ok (.aload_n 0, 1) := by decide +kernel
theorem dX12_existingEngine_20 : decode cX12_existingEngine 20 = .ok (.getfield 51, 3) := by decide +kernel
theorem dX12_existingEngine_23 : decode cX12_existingEngine 23 = .ok (.getfield 281, 3) := by decide +kernel
theorem dX12_existingEngine_26 : decode cX12_existingEngine 26 = .ok (.iload_n 1, 1) := by decide +kernel
theorem dX12_existingEngine_27 : decode cX12_existingEngine 27 = .ok (.aaload, 1) := by decide +kernel
theorem dX12_existingEngine_28 : decode cX12_existingEngine 28 = .ok (.areturn, 1) := by decide +kernel
set_option maxRecDepth 20000 in
theorem ggX12_existingQueue_X12_existingEngine : GoodIn wsX12_existingQueue wsX12_existingEngine := goodIn_ca (goodIn_r _ [7, 8, 9, 10, 11, 12, 13, 14, 15, 16, 17, 18, 19, 34, 35, 36, 37, 38, 39, 40, 41, 42, 43, 44, 45, 46, 47, 48, 49, 50, 51, 52, 53, 54, 55, 56, 57, 58, 59, 60, 61, 62, 63, 64, 65, 66, 67, 68, 69, 70, 71, 72, 73, 74, 75, 76, 77, 78, 79, 80, 81, 82, 83, 84, 85, 86, 87, 88, 89] (by decide +kernel) (by decide +kernel)) (goodIn_sub (fun _ h => List.mem_cons_of_mem _ (List.mem_append_right _ h)) (by decide +kernel))
set_option maxRecDepth 20000 in
theorem gX12_existingQueue_X12_existingEngine : GoodIn wsX12_existingQueue (wsV RX12 162 RX12 yX12_existingEngine wsX12_existingEngine) := goodIn_app (goodIn_of _ (by decide +kernel)) ggX12_existingQueue_X12_existingEngine
theorem dX12_existingQueue_0 : decode cX12_existingQueue 0 = .ok (.aload_n 0, 1) := by decide +kernel
theorem dX12_existingQueue_1 : decode cX12_existingQueue 1 = .ok (.iload_n 1, 1) := by decide +kernel
theorem dX12_existingQueue_2 : decode cX12_existingQueue 2 = .ok (.invokevirtual 162, 3) := by decide +kernel
theorem dX12_existingQueue_5 : decode cX12_existingQueue 5 = .ok (.astore_n 3, 1) := by decide +kernel
theorem dX12_existingQueue_6 : decode cX12_existingQueue 6 = .ok (.iload_n 2, 1) := by decide +kernel
theorem dX12_existingQueue_7 : decode cX12_existingQueue 7 = .ok (.ifCond .eq 10, 3) := by decide +kernel
theorem dX12_existingQueue_10 : decode cX12_existingQueue 10 = .ok (.aload_n 3, 1) := by decide +kernel
theorem dX12_existingQueue_11 : decode cX12_existingQueue 11 = .ok (.getfield 347, 3) := by decide +kernel
theorem dX12_existingQueue_14 : decode cX12_existingQueue 14 = .ok (.goto 7, 3) := by decide +kernel
theorem dX12_existingQueue_17 : decode cX12_existingQueue 17 = .ok (.aload_n 3, 1) := by decide +kernel
theorem dX12_existingQueue_18 : decode cX12_existingQueue 18 = .ok (.getfield 351, 3) := by decide +kernel
theorem dX12_existingQueue_21 : decode cX12_existingQueue 21 = .ok (.areturn, 1) := by decide +kernel
theorem dX12_checkAddress_0 : decode cX12_checkAddress 0 = .ok (.iload_n 1, 1) := by decide +kernel
theorem dX12_checkAddress_1 : decode cX12_checkAddress 1 = .ok (.ifCond .lt 14, 3) := by decide +kernel
theorem dX12_checkAddress_4 : decode cX12_checkAddress 4 = .ok (.iload_n 1, 1) := by decide +kernel
theorem dX12_checkAddress_5 : decode cX12_checkAddress 5 = .ok (.aload_n 0, 1) := by decide +kernel
theorem dX12_checkAddress_6 : decode cX12_checkAddress 6 = .ok (.getfield 32, 3) := by decide +kernel
theorem dX12_checkAddress_9 : decode cX12_checkAddress 9 = .ok (.getfield 124, 3) := by decide +kernel
theorem dX12_checkAddress_12 : decode cX12_checkAddress 12 = .ok (.if_icmp .lt 11, 3) := by decide +kernel
theorem dX12_checkAddress_15 : decode cX12_checkAddress 15 = .ok (.new 146, 3) := by decide +kernel
theorem dX12_checkAddress_18 : decode cX12_checkAddress 18 = .ok (.dup, 1) := by decide +kernel
theorem dX12_checkAddress_19 : decode cX12_checkAddress 19 = .ok (.invokespecial 148, 3) := by decide +kernel
theorem dX12_checkAddress_22 : decode cX12_checkAddress 22 = .ok (.athrow, 1) := by decide +kernel
theorem dX12_checkAddress_23 : decode cX12_checkAddress 23 = .ok (.return_, 1) := by decide +kernel
theorem dX12_checkPin_0 : decode cX12_checkPin 0 = .ok (.iload_n 0, 1) := by decide +kernel
theorem dX12_checkPin_1 : decode cX12_checkPin 1 = .ok (.ifCond .lt 9, 3) := by decide +kernel
theorem dX12_checkPin_4 : decode cX12_checkPin 4 = .ok (.iload_n 0, 1) := by decide +kernel
theorem dX12_checkPin_5 : decode cX12_checkPin 5 = .ok (.bipush 16, 2) := by decide +kernel
theorem dX12_checkPin_7 : decode cX12_checkPin 7 = .ok (.if_icmp .lt 11, 3) := by decide +kernel
theorem dX12_checkPin_10 : decode cX12_checkPin 10 = .ok (.new 146, 3) := by decide +kernel
theorem dX12_checkPin_13 : decode cX12_checkPin 13 = .ok (.dup, 1) := by decide +kernel
theorem dX12_checkPin_14 : decode cX12_checkPin 14 = .ok (.invokespecial 148, 3) := by decide +kernel
theorem dX12_checkPin_17 : decode cX12_checkPin 17 = .ok (.athrow, 1) := by decide +kernel
theorem dX12_checkPin_18 : decode cX12_checkPin 18 = .ok (.return_, 1) := by decide +kernel
theorem dX12_checkMemory_0 : decode cX12_checkMemory 0 = .ok (.iload_n 0, 1) := by decide +kernel
theorem dX12_checkMemory_1 : decode cX12_checkMemory 1 = .ok (.ifCond .lt 9, 3) := by decide +kernel
theorem dX12_checkMemory_4 : decode cX12_checkMemory 4 = .ok (.iload_n 0, 1) := by decide +kernel
theorem dX12_checkMemory_5 : decode cX12_checkMemory 5 = .ok (.bipush 16, 2) := by decide +kernel
theorem dX12_checkMemory_7 : decode cX12_checkMemory 7 = .ok (.if_icmp .lt 11, 3) := by decide +kernel
theorem dX12_checkMemory_10 : decode cX12_checkMemory 10 = .ok (.new 146, 3) := by decide +kernel
theorem dX12_checkMemory_13 : decode cX12_checkMemory 13 = .ok (.dup, 1) := by decide +kernel
theorem dX12_checkMemory_14 : decode cX12_checkMemory 14 = .ok (.invokespecial 148, 3) := by decide +kernel
theorem dX12_checkMemory_17 : decode cX12_checkMemory 17 = .ok (.athrow, 1) := by decide +kernel
theorem dX12_checkMemory_18 : decode cX12_checkMemory 18 = .ok (.return_, 1) := by decide +kernel
theorem dX12_checkLevel_0 : decode cX12_checkLevel 0 = .ok (.iload_n 0, 1) := by decide +kernel
theorem dX12_checkLevel_1 : decode cX12_checkLevel 1 = .ok (.ifCond .lt 8, 3) := by decide +kernel
theorem dX12_checkLevel_4 : decode cX12_checkLevel 4 = .ok (.iload_n 0, 1) := by decide +kernel
theorem dX12_checkLevel_5 : decode cX12_checkLevel 5 = .ok (.iconst 1, 1) := by decide +kernel
theorem dX12_checkLevel_6 : decode cX12_checkLevel 6 = .ok (.if_icmp .le 11, 3) := by decide +kernel
theorem dX12_checkLevel_9 : decode cX12_checkLevel 9 = .ok (.new 108, 3) := by decide +kernel
theorem dX12_checkLevel_12 : decode cX12_checkLevel 12 = .ok (.dup, 1) := by decide +kernel
theorem dX12_checkLevel_13 : decode cX12_checkLevel 13 = .ok (.invokespecial 110, 3) := by decide +kernel
theorem dX12_checkLevel_16 : decode cX12_checkLevel 16 = .ok (.athrow, 1) := by decide +kernel
theorem dX12_checkLevel_17 : decode cX12_checkLevel 17 = .ok (.return_, 1) := by decide +kernel
theorem dX12_checkLimit_0 : decode cX12_checkLimit 0 = .ok (.iload_n 0, 1) := by decide +kernel
theorem dX12_checkLimit_1 : decode cX12_checkLimit 1 = .ok (.ifCond .lt 10, 3) := by decide +kernel
theorem dX12_checkLimit_4 : decode cX12_checkLimit 4 = .ok (.iload_n 0, 1) := by decide +kernel
theorem dX12_checkLimit_5 : decode cX12_checkLimit 5 = .ok (.sipush 2000, 3) := by decide +kernel
theorem dX12_checkLimit_8 : decode cX12_checkLimit 8 = .ok (.if_icmp .le 11, 3) := by decide +kernel
theorem dX12_checkLimit_11 : decode cX12_checkLimit 11 = .ok (.new 108, 3) := by decide +kernel
theorem dX12_checkLimit_14 : decode cX12_checkLimit 14 = .ok (.dup, 1) := by decide +kernel
theorem dX12_checkLimit_15 : decode cX12_checkLimit 15 = .ok (.invokespecial 110, 3) := by decide +kernel
theorem dX12_checkLimit_18 : decode cX12_checkLimit 18 = .ok (.athrow, 1) := by decide +kernel
theorem dX12_checkLimit_19 : decode cX12_checkLimit 19 = .ok (.return_, 1) := by decide +kernel
theorem dX12_unsigned_0 : decode cX12_unsigned 0 = .ok (.iload_n 0, 1) := by decide +kernel
theorem dX12_unsigned_1 : decode cX12_unsigned 1 = .ok (.i2l, 1) := by decide +kernel
theorem dX12_unsigned_2 : decode cX12_unsigned 2 = .ok (.ldc2_w 354, 3) := by decide +kernel
theorem dX12_unsigned_5 : decode cX12_unsigned 5 = .ok (.land, 1) := by decide +kernel
theorem dX12_unsigned_6 : decode cX12_unsigned 6 = .ok (.lreturn, 1) := by decide +kernel
theorem dX12_rotatedPins_0 : decode cX12_rotatedPins 0 = .ok (.iload_n 0, 1) := by decide +kernel
theorem dX12_rotatedPins_1 : decode cX12_rotatedPins 1 = .ok (.ldc_w 288, 3) := by decide +kernel
theorem dX12_rotatedPins_4 : decode cX12_rotatedPins 4 = .ok (.iand, 1) := by decide +kernel
theorem dX12_rotatedPins_5 : decode cX12_rotatedPins 5 = .ok (.istore_n 2, 1) := by decide +kernel
theorem dX12_rotatedPins_6 : decode cX12_rotatedPins 6 = .ok (.iload_n 2, 1) := by decide +kernel
theorem dX12_rotatedPins_7 : decode cX12_rotatedPins 7 = .ok (.iload_n 1, 1) := by decide +kernel
theorem dX12_rotatedPins_8 : decode cX12_rotatedPins 8 = .ok (.ishl, 1) := by decide +kernel
theorem dX12_rotatedPins_9 : decode cX12_rotatedPins 9 = .ok (.iload_n 2, 1) := by decide +kernel
theorem dX12_rotatedPins_10 : decode cX12_rotatedPins 10 = .ok (.bipush 16, 2) := by decide +kernel
theorem dX12_rotatedPins_12 : decode cX12_rotatedPins 12 = .ok (.iload_n 1, 1) := by decide +kernel
theorem dX12_rotatedPins_13 : decode cX12_rotatedPins 13 = .ok (.isub, 1) := by decide +kernel
theorem dX12_rotatedPins_14 : decode cX12_rotatedPins 14 = .ok (.iushr, 1) := by decide +kernel
theorem dX12_rotatedPins_15 : decode cX12_rotatedPins 15 = .ok (.ior, 1) := by decide +kernel
theorem dX12_rotatedPins_16 : decode cX12_rotatedPins 16 = .ok (.ldc_w 288, 3) := by decide +kernel
theorem dX12_rotatedPins_19 : decode cX12_rotatedPins 19 = .ok (.iand, 1) := by decide +kernel
theorem dX12_rotatedPins_20 : decode cX12_rotatedPins 20 = .ok (.ireturn, 1) := by decide +kernel
set_option maxRecDepth 20000 in
theorem ggX13_init_X13_clear : GoodIn wsX13_init wsX13_clear := goodIn_r _ [39] (by decide +kernel) (by decide +kernel)
set_option maxRecDepth 20000 in
theorem gX13_init_X13_clear : GoodIn wsX13_init (va_wsS RX13 228 yX13_clear wsX13_clear) := goodIn_app (goodIn_of _ (by decide +kernel)) ggX13_init_X13_clear
theorem dX13_init_0 : decode cX13_init 0 = .ok (.aload_n 0, 1) := by decide +kernel
theorem dX13_init_1 : decode cX13_init 1 = .ok (.invokespecial 1, 3) := by decide +kernel
theorem dX13_init_4 : decode cX13_init 4 = .ok (.aload_n 0, 1) := by decide +kernel
theorem dX13_init_5 : decode cX13_init 5 = .ok (.sipush 700, 3) := by decide +kernel
theorem dX13_init_8 : decode cX13_init 8 = .ok (.newarray .int, 2) := by decide +kernel
theorem dX13_init_10 : decode cX13_init 10 = .ok (.putfield 9, 3) := by decide +kernel
theorem dX13_init_13 : decode cX13_init 13 = .ok (.aload_n 0, 1) := by decide +kernel
theorem dX13_init_14 : decode cX13_init 14 = .ok (.sipush 700, 3) := by decide +kernel
theorem dX13_init_17 : decode cX13_init 17 = .ok (.newarray .int, 2) := by decide +kernel
theorem dX13_init_19 : decode cX13_init 19 = .ok (.putfield 13, 3) := by decide +kernel
theorem dX13_init_22 : decode cX13_init 22 = .ok (.aload_n 0, 1) := by decide +kernel
theorem dX13_init_23 : decode cX13_init 23 = .ok (.sipush 700, 3) := by decide +kernel
theorem dX13_init_26 : decode cX13_init 26 = .ok (.newarray .int, 2) := by decide +kernel
theorem dX13_init_28 : decode cX13_init 28 = .ok (.putfield 16, 3) := by decide +kernel
theorem dX13_init_31 : decode cX13_init 31 = .ok (.aload_n 0, 1) := by decide +kernel
theorem dX13_init_32 : decode cX13_init 32 = .ok (.sipush 700, 3) := by decide +kernel
theorem dX13_init_35 : decode cX13_init 35 = .ok (.newarray .int, 2) := by decide +kernel
theorem dX13_init_37 : decode cX13_init 37 = .ok (.putfield 19, 3) := by decide +kernel
theorem dX13_init_40 : decode cX13_init 40 = .ok (.aload_n 0, 1) := by decide +kernel
theorem dX13_init_41 : decode cX13_init 41 = .ok (.sipush 7000, 3) := by decide +kernel
theorem dX13_init_44 : decode cX13_init 44 = .ok (.newarray .int, 2) := by decide +kernel
theorem dX13_init_46 : decode cX13_init 46 = .ok (.putfield 22, 3) := by decide +kernel
theorem dX13_init_49 : decode cX13_init 49 = .ok (.aload_n 0, 1) := by decide +kernel
theorem dX13_init_50 : decode cX13_init 50 = .ok (.bipush 16, 2) := by decide +kernel
theorem dX13_init_52 : decode cX13_init 52 = .ok (.newarray .int, 2) := by decide +kernel
theorem dX13_init_54 : decode cX13_init 54 = .ok (.putfield 25, 3) := by decide +kernel
theorem dX13_init_57 : decode cX13_init 57 = .ok (.aload_n 0, 1) := by decide +kernel
theorem dX13_init_58 : decode cX13_init 58 = .ok (.bipush 8, 2) := by decide +kernel
theorem dX13_init_60 : decode cX13_init 60 = .ok (.newarray .int, 2) := by decide +kernel
theorem dX13_init_62 : decode cX13_init 62 = .ok (.putfield 28, 3) := by decide +kernel
theorem dX13_init_65 : decode cX13_init 65 = .ok (.aload_n 0, 1) := by decide +kernel
theorem dX13_init_66 : decode cX13_init 66 = .ok (.iconst 4, 1) := by decide +kernel
theorem dX13_init_67 : decode cX13_init 67 = .ok (.newarray .boolean, 2) := by decide +kernel
theorem dX13_init_69 : decode cX13_init 69 = .ok (.putfield 31, 3) := by decide +kernel
theorem dX13_init_72 : decode cX13_init 72 = .ok (.aload_n 0, 1) := by decide +kernel
theorem dX13_init_73 : decode cX13_init 73 = .ok (.iconst 4, 1) := by decide +kernel
theorem dX13_init_74 : decode cX13_init 74 = .ok (.newarray .int, 2) := by decide +kernel
theorem dX13_init_76 : decode cX13_init 76 = .ok (.putfield 35, 3) := by decide +kernel
theorem dX13_init_79 : decode cX13_init 79 = .ok (.aload_n 0, 1) := by decide +kernel
theorem dX13_init_80 : decode cX13_init 80 = .ok (.iconst 4, 1) := by decide +kernel
theorem dX13_init_81 : decode cX13_init 81 = .ok (.newarray .int, 2) := by decide +kernel
theorem dX13_init_83 : decode cX13_init 83 = .ok (.putfield 38, 3) := by decide +kernel
theorem dX13_init_86 : decode cX13_init 86 = .ok (.aload_n 0, 1) := by decide +kernel
theorem dX13_init_87 : decode cX13_init 87 = .ok (.iconst 4, 1) := by decide +kernel
theorem dX13_init_88 : decode cX13_init 88 = .ok (.newarray .int, 2) := by decide +kernel
theorem dX13_init_90 : decode cX13_init 90 = .ok (.putfield 41, 3) := by decide +kernel
theorem dX13_init_93 : decode cX13_init 93 = .ok (.aload_n 0, 1) := by decide +kernel
theorem dX13_init_94 : decode cX13_init 94 = .ok (.iconst 4, 1) := by decide +kernel
theorem dX13_init_95 : decode cX13_init 95 = .ok (.newarray .int, 2) := by decide +kernel
theorem dX13_init_97 : decode cX13_init 97 = .ok (.putfield 44, 3) := by decide +kernel
theorem dX13_init_100 : decode cX13_init 100 = .ok (.aload_n 0, 1) := by decide +kernel
theorem dX13_init_101 : decode cX13_init 101 = .ok (.iconst 4, 1) := by decide +kernel
theorem dX13_init_102 : decode cX13_init 102 = .ok (.newarray .int, 2) := by decide +kernel
theorem dX13_init_104 : decode cX13_init 104 = .ok (.putfield 47, 3) := by decide +kernel
theorem dX13_init_107 : decode cX13_init 107 = .ok (.aload_n 0, 1) := by decide +kernel
theorem dX13_init_108 : decode cX13_init 108 = .ok (.sipush 1000, 3) := by decide +kernel
theorem dX13_init_111 : decode cX13_init 111 = .ok (.newarray .int, 2) := by decide +kernel
theorem dX13_init_113 : decode cX13_init 113 = .ok (.putfield 50, 3) := by decide +kernel
theorem dX13_init_116 : decode cX13_init 116 = .ok (.aload_n 0, 1) := by decide +kernel
theorem dX13_init_117 : decode cX13_init 117 = .ok (.iconst (-1), 1) := by decide +kernel
theorem dX13_init_118 : decode cX13_init 118 = .ok (.putfield 53, 3) := by decide +kernel
theorem dX13_init_121 : decode cX13_init 121 = .ok (.aload_n 0, 1) := by decide +kernel
theorem dX13_init_122 : decode cX13_init 122 = .ok (.bipush 13, 2) := by decide +kernel
theorem dX13_init_124 : decode cX13_init 124 = .ok (.anewarray 57, 3) := by decide +kernel
theorem dX13_init_127 : decode cX13_init 127 = .ok (.dup, 1) := by decide +kernel
theorem dX13_init_128 : decode cX13_init 128 = .ok (.iconst 0, 1) := by decide +kernel
theorem dX13_init_129 : decode cX13_init 129 = .ok (.ldc 59, 2) := by decide +kernel
theorem dX13_init_131 : decode cX13_init 131 = .ok (.aastore, 1) := by decide +kernel
theorem dX13_init_132 : decode cX13_init 132 = .ok (.dup, 1) := by decide +kernel
theorem dX13_init_133 : decode cX13_init 133 = .ok (.iconst 1, 1) := by decide +kernel
theorem dX13_init_134 : decode cX13_init 134 = .ok (.ldc 61, 2) := by decide +kernel
theorem dX13_init_136 : decode cX13_init 136 = .ok (.aastore, 1) := by decide +kernel
theorem dX13_init_137 : decode cX13_init 137 = .ok (.dup, 1) := by decide +kernel
theorem dX13_init_138 : decode cX13_init 138 = .ok (.iconst 2, 1) := by decide +kernel
theorem dX13_init_139 : decode cX13_init 139 = .ok (.ldc 63, 2) := by decide +kernel
theorem dX13_init_141 : decode cX13_init 141 = .ok (.aastore, 1) := by decide +kernel
theorem dX13_init_142 : decode cX13_init 142 = .ok (.dup, 1) := by decide +kernel
theorem dX13_init_143 : decode cX13_init 143 = .ok (.iconst 3, 1) := by decide +kernel
theorem dX13_init_144 : decode cX13_init 144 = .ok (.ldc 65, 2) := by decide +kernel
theorem dX13_init_146 : decode cX13_init 146 = .ok (.aastore, 1) := by decide +kernel
theorem dX13_init_147 : decode cX13_init 147 = .ok (.dup, 1) := by decide +kernel
theorem dX13_init_148 : decode cX13_init 148 = .ok (.iconst 4, 1) := by decide +kernel
theorem dX13_init_149 : decode cX13_init 149 = .ok (.ldc 67, 2) := by decide +kernel
theorem dX13_init_151 : decode cX13_init 151 = .ok (.aastore, 1) := by decide +kernel
theorem dX13_init_152 : decode cX13_init 152 = .ok (.dup, 1) := by decide +kernel
theorem dX13_init_153 : decode cX13_init 153 = .ok (.iconst 5, 1) := by decide +kernel
theorem dX13_init_154 : decode cX13_init 154 = .ok (.ldc 69, 2) := by decide +kernel
theorem dX13_init_156 : decode cX13_init 156 = .ok (.aastore, 1) := by decide +kernel
theorem dX13_init_157 : decode cX13_init 157 = .ok (.dup, 1) := by decide +kernel
theorem dX13_init_158 : decode cX13_init 158 = .ok (.bipush 6, 2) := by decide +kernel
theorem dX13_init_160 : decode cX13_init 160 = .ok (.ldc 71, 2) := by decide +kernel
theorem dX13_init_162 : decode cX13_init 162 = .ok (.aastore, 1) := by decide +kernel
theorem dX13_init_163 : decode cX13_init 163 = .ok (.dup, 1) := by decide +kernel
theorem dX13_init_164 : decode cX13_init 164 = .ok (.bipush 7, 2) := by decide +kernel
theorem dX13_init_166 : decode cX13_init 166 = .ok (.ldc 73, 2) := by decide +kernel
theorem dX13_init_168 : decode cX13_init 168 = .ok (.aastore, 1) := by decide +kernel
theorem dX13_init_169 : decode cX13_init 169 = .ok (.dup, 1) := by decide +kernel
theorem dX13_init_170 : decode cX13_init 170 = .ok (.bipush 8, 2) := by decide +kernel
theorem dX13_init_172 : decode cX13_init 172 = .ok (.ldc 75, 2) := by decide +kernel
theorem dX13_init_174 : decode cX13_init 174 = .ok (.aastore, 1) := by decide +kernel
theorem dX13_init_175 : decode cX13_init 175 = .ok (.dup, 1) := by decide +kernel
theorem dX13_init_176 : decode cX13_init 176 = .ok (.bipush 9, 2) := by decide +kernel
theorem dX13_init_178 : decode cX13_init 178 = .ok (.ldc 77, 2) := by decide +kernel
theorem dX13_init_180 : decode cX13_init 180 = .ok (.aastore, 1) := by decide +kernel
theorem dX13_init_181 : decode cX13_init 181 = .ok (.dup, 1) := by decide +kernel
theorem dX13_init_182 : decode cX13_init 182 = .ok (.bipush 10, 2) := by decide +kernel
theorem dX13_init_184 : decode cX13_init 184 = .ok (.ldc 79, 2) := by decide +kernel
theorem dX13_init_186 : decode cX13_init 186 = .ok (.aastore, 1) := by decide +kernel
theorem dX13_init_187 : decode cX13_init 187 = .ok (.dup, 1) := by decide +kernel
theorem dX13_init_188 : decode cX13_init 188 = .ok (.bipush 11, 2) := by decide +kernel
theorem dX13_init_190 : decode cX13_init 190 = .ok (.ldc 81, 2) := by decide +kernel
theorem dX13_init_192 : decode cX13_init 192 = .ok (.aastore, 1) := by decide +kernel
theorem dX13_init_193 : decode cX13_init 193 = .ok (.dup, 1) := by decide +kernel
theorem dX13_init_194 : decode cX13_init 194 = .ok (.bipush 12, 2) := by decide +kernel
theorem dX13_init_196 : decode cX13_init 196 = .ok (.ldc 83, 2) := by decide +kernel
theorem dX13_init_198 : decode cX13_init 198 = .ok (.aastore, 1) := by decide +kernel
theorem dX13_init_199 : decode cX13_init 199 = .ok (.putfield 85, 3) := by decide +kernel
theorem dX13_init_202 : decode cX13_init 202 = .ok (.aload_n 0, 1) := by decide +kernel
theorem dX13_init_203 : decode cX13_init 203 = .ok (.bipush 8, 2) := by decide +kernel
theorem dX13_init_205 : decode cX13_init 205 = .ok (.anewarray 57, 3) := by decide +kernel
theorem dX13_init_208 : decode cX13_init 208 = .ok (.dup, 1) := by decide +kernel
theorem dX13_init_209 : decode cX13_init 209 = .ok (.iconst 0, 1) := by decide +kernel
theorem dX13_init_210 : decode cX13_init 210 = .ok (.ldc 89, 2) := by decide +kernel
theorem dX13_init_212 : decode cX13_init 212 = .ok (.aastore, 1) := by decide +kernel
theorem dX13_init_213 : decode cX13_init 213 = .ok (.dup, 1) := by decide +kernel
theorem dX13_init_214 : decode cX13_init 214 = .ok (.iconst 1, 1) := by decide +kernel
theorem dX13_init_215 : decode cX13_init 215 = .ok (.ldc 91, 2) := by decide +kernel
theorem dX13_init_217 : decode cX13_init 217 = .ok (.aastore, 1) := by decide +kernel
theorem dX13_init_218 : decode cX13_init 218 = .ok (.dup, 1) := by decide +kernel
theorem dX13_init_219 : decode cX13_init 219 = .ok (.iconst 2, 1) := by decide +kernel
theorem dX13_init_220 : decode cX13_init 220 = .ok (.ldc 93, 2) := by decide +kernel
theorem dX13_init_222 : decode cX13_init 222 = .ok (.aastore, 1) := by decide +kernel
theorem dX13_init_223 : decode cX13_init 223 = .ok (.dup, 1) := by decide +kernel
theorem dX13_init_224 : decode cX13_init 224 = .ok (.iconst 3, 1) := by decide +kernel
theorem dX13_init_225 : decode cX13_init 225 = .ok (.ldc 95, 2) := by decide +kernel
theorem dX13_init_227 : decode cX13_init 227 = .ok (.aastore, 1) := by decide +kernel
theorem dX13_init_228 : decode cX13_init 228 = .ok (.dup, 1) := by decide +kernel
theorem dX13_init_229 : decode cX13_init 229 = .ok (.iconst 4, 1) := by decide +kernel
theorem dX13_init_230 : decode cX13_init 230 = .ok (.ldc 97, 2) := by decide +kernel
theorem dX13_init_232 : decode cX13_init 232 = .ok (.aastore, 1) := by decide +kernel
theorem dX13_init_233 : decode cX13_init 233 = .ok (.dup, 1) := by decide +kernel
theorem dX13_init_234 : decode cX13_init 234 = .ok (.iconst 5, 1) := by decide +kernel
theorem dX13_init_235 : decode cX13_init 235 = .ok (.ldc 99, 2) := by decide +kernel
theorem dX13_init_237 : decode cX13_init 237 = .ok (.aastore, 1) := by decide +kernel
theorem dX13_init_238 : decode cX13_init 238 = .ok (.dup, 1) := by decide +kernel
theorem dX13_init_239 : decode cX13_init 239 = .ok (.bipush 6, 2) := by decide +kernel
theorem dX13_init_241 : decode cX13_init 241 = .ok (.ldc 101, 2) := by decide +kernel
theorem dX13_init_243 : decode cX13_init 243 = .ok (.aastore, 1) := by decide +kernel
theorem dX13_init_244 : decode cX13_init 244 = .ok (.dup, 1) := by decide +kernel
theorem dX13_init_245 : decode cX13_init 245 = .ok (.bipush 7, 2) := by decide +kernel
theorem dX13_init_247 : decode cX13_init 247 = .ok (.ldc 103, 2) := by decide +kernel
theorem dX13_init_249 : decode cX13_init 249 = .ok (.aastore, 1) := by decide +kernel
theorem dX13_init_250 : decode cX13_init 250 = .ok (.putfield 105, 3) := by decide +kernel
theorem dX13_init_253 : decode cX13_init 253 = .ok (.aload_n 0, 1) := by decide +kernel
theorem dX13_init_254 : decode cX13_init 254 = .ok (.bipush 9, 2) := by decide +kernel
theorem dX13_init_256 : decode cX13_init 256 = .ok (.anewarray 57, 3) := by decide +kernel
theorem dX13_init_259 : decode cX13_init 259 = .ok (.dup, 1) := by decide +kernel
theorem dX13_init_260 : decode cX13_init 260 = .ok (.iconst 0, 1) := by decide +kernel
theorem dX13_init_261 : decode cX13_init 261 = .ok (.ldc 108, 2) := by decide +kernel
theorem dX13_init_263 : decode cX13_init 263 = .ok (.aastore, 1) := by decide +kernel
theorem dX13_init_264 : decode cX13_init 264 = .ok (.dup, 1) := by decide +kernel
theorem dX13_init_265 : decode cX13_init 265 = .ok (.iconst 1, 1) := by decide +kernel
theorem dX13_init_266 : decode cX13_init 266 = .ok (.ldc 110, 2) := by decide +kernel
theorem dX13_init_268 : decode cX13_init 268 = .ok (.aastore, 1) := by decide +kernel
theorem dX13_init_269 : decode cX13_init 269 = .ok (.dup, 1) := by decide +kernel
theorem dX13_init_270 : decode cX13_init 270 = .ok (.iconst 2, 1) := by decide +kernel
theorem dX13_init_271 : decode cX13_init 271 = .ok (.ldc 112, 2) := by decide +kernel
theorem dX13_init_273 : decode cX13_init 273 = .ok (.aastore, 1) := by decide +kernel
theorem dX13_init_274 : decode cX13_init 274 = .ok (.dup, 1) := by decide +kernel
theorem dX13_init_275 : decode cX13_init 275 = .ok (.iconst 3, 1) := by decide +kernel
theorem dX13_init_276 : decode cX13_init 276 = .ok (.ldc 114, 2) := by decide +kernel
theorem dX13_init_278 : decode cX13_init 278 = .ok (.aastore, 1) := by decide +kernel
theorem dX13_init_279 : decode cX13_init 279 = .ok (.dup, 1) := by decide +kernel
theorem dX13_init_280 : decode cX13_init 280 = .ok (.iconst 4, 1) := by decide +kernel
theorem dX13_init_281 : decode cX13_init 281 = .ok (.ldc 116, 2) := by decide +kernel
theorem dX13_init_283 : decode cX13_init 283 = .ok (.aastore, 1) := by decide +kernel
theorem dX13_init_284 : decode cX13_init 284 = .ok (.dup, 1) := by decide +kernel
theorem dX13_init_285 : decode cX13_init 285 = .ok (.iconst 5, 1) := by decide +kernel
theorem dX13_init_286 : decode cX13_init 286 = .ok (.ldc 118, 2) := by decide +kernel
theorem dX13_init_288 : decode cX13_init 288 = .ok (.aastore, 1) := by decide +kernel
theorem dX13_init_289 : decode cX13_init 289 = .ok (.dup, 1) := by decide +kernel
theorem dX13_init_290 : decode cX13_init 290 = .ok (.bipush 6, 2) := by decide +kernel
theorem dX13_init_292 : decode cX13_init 292 = .ok (.ldc 120, 2) := by decide +kernel
theorem dX13_init_294 : decode cX13_init 294 = .ok (.aastore, 1) := by decide +kernel
theorem dX13_init_295 : decode cX13_init 295 = .ok (.dup, 1) := by decide +kernel
theorem dX13_init_296 : decode cX13_init 296 = .ok (.bipush 7, 2) := by decide +kernel
theorem dX13_init_298 : decode cX13_init 298 = .ok (.ldc 122, 2) := by decide +kernel
theorem dX13_init_300 : decode cX13_init 300 = .ok (.aastore, 1) := by decide +kernel
theorem dX13_init_301 : decode cX13_init 301 = .ok (.dup, 1) := by decide +kernel
theorem dX13_init_302 : decode cX13_init 302 = .ok (.bipush 8, 2) := by decide +kernel
theorem dX13_init_304 : decode cX13_init 304 = .ok (.ldc 124, 2) := by decide +kernel
theorem dX13_init_306 : decode cX13_init 306 = .ok (.aastore, 1) := by decide +kernel
theorem dX13_init_307 : decode cX13_init 307 = .ok (.putfield 126, 3) := by decide +kernel
theorem dX13_init_310 : decode cX13_init 310 = .ok (.aload_n 0, 1) := by decide +kernel
theorem dX13_init_311 : decode cX13_init 311 = .ok (.bipush 33, 2) := by decide +kernel
theorem dX13_init_313 : decode cX13_init 313 = .ok (.anewarray 57, 3) := by decide +kernel
theorem dX13_init_316 : decode cX13_init 316 = .ok (.dup, 1) := by decide +kernel
theorem dX13_init_317 : decode cX13_init 317 = .ok (.iconst 0, 1) := by decide +kernel
theorem dX13_init_318 : decode cX13_init 318 = .ok (.ldc 129, 2) := by decide +kernel
theorem dX13_init_320 : decode cX13_init 320 = .ok (.aastore, 1) := by decide +kernel
theorem dX13_init_321 : decode cX13_init 321 = .ok (.dup, 1) := by decide +kernel
theorem dX13_init_322 : decode cX13_init 322 = .ok (.iconst 1, 1) := by decide +kernel
theorem dX13_init_323 : decode cX13_init 323 = .ok (.ldc 131, 2) := by decide +kernel
theorem dX13_init_325 : decode cX13_init 325 = .ok (.aastore, 1) := by decide +kernel
theorem dX13_init_326 : decode cX13_init 326 = .ok (.dup, 1) := by decide +kernel
theorem dX13_init_327 : decode cX13_init 327 = .ok (.iconst 2, 1) := by decide +kernel
theorem dX13_init_328 : decode cX13_init 328 = .ok (.ldc 133, 2) := by decide +kernel
theorem dX13_init_330 : decode cX13_init 330 = .ok (.aastore, 1) := by decide +kernel
theorem dX13_init_331 : decode cX13_init 331 = .ok (.dup, 1) := by decide +kernel
theorem dX13_init_332 : decode cX13_init 332 = .ok (.iconst 3, 1) := by decide +kernel
theorem dX13_init_333 : decode cX13_init 333 = .ok (.ldc 135, 2) := by decide +kernel
theorem dX13_init_335 : decode cX13_init 335 = .ok (.aastore, 1) := by decide +kernel
theorem dX13_init_336 : decode cX13_init 336 = .ok (.dup, 1) := by decide +kernel
theorem dX13_init_337 : decode cX13_init 337 = .ok (.iconst 4, 1) := by decide +kernel
theorem dX13_init_338 : decode cX13_init 338 = .ok (.ldc 137, 2) := by decide +kernel
theorem dX13_init_340 : decode cX13_init 340 = .ok (.aastore, 1) := by decide +kernel
theorem dX13_init_341 : decode cX13_init 341 = .ok (.dup, 1) := by decide +kernel
theorem dX13_init_342 : decode cX13_init 342 = .ok (.iconst 5, 1) := by decide +kernel
theorem dX13_init_343 : decode cX13_init 343 = .ok (.ldc 139, 2) := by decide +kernel
theorem dX13_init_345 : decode cX13_init 345 = .ok (.aastore, 1) := by decide +kernel
theorem dX13_init_346 : decode cX13_init 346 = .ok (.dup, 1) := by decide +kernel
theorem dX13_init_347 : decode cX13_init 347 = .ok (.bipush 6, 2) := by decide +kernel
theorem dX13_init_349 : decode cX13_init 349 = .ok (.ldc 141, 2) := by decide +kernel
theorem dX13_init_351 : decode cX13_init 351 = .ok (.aastore, 1) := by decide +kernel
theorem dX13_init_352 : decode cX13_init 352 = .ok (.dup, 1) := by decide +kernel
theorem dX13_init_353 : decode cX13_init 353 = .ok (.bipush 7, 2) := by decide +kernel
theorem dX13_init_355 : decode cX13_init 355 = .ok (.ldc 143, 2) := by decide +kernel
theorem dX13_init_357 : decode cX13_init 357 = .ok (.aastore, 1) := by decide +kernel
theorem dX13_init_358 : decode cX13_init 358 = .ok (.dup, 1) := by decide +kernel
theorem dX13_init_359 : decode cX13_init 359 = .ok (.bipush 8, 2) := by decide +kernel
theorem dX13_init_361 : decode cX13_init 361 = .ok (.ldc 145, 2) := by decide +kernel
theorem dX13_init_363 : decode cX13_init 363 = .ok (.aastore, 1) := by decide +kernel
theorem dX13_init_364 : decode cX13_init 364 = .ok (.dup, 1) := by decide +kernel
theorem dX13_init_365 : decode cX13_init 365 = .ok (.bipush 9, 2) := by decide +kernel
theorem dX13_init_367 : decode cX13_init 367 = .ok (.ldc 147, 2) := by decide +kernel
theorem dX13_init_369 : decode cX13_init 369 = .ok (.aastore, 1) := by decide +kernel
theorem dX13_init_370 : decode cX13_init 370 = .ok (.dup, 1) := by decide +kernel
theorem dX13_init_371 : decode cX13_init 371 = .ok (.bipush 10, 2) := by decide +kernel
theorem dX13_init_373 : decode cX13_init 373 = .ok (.ldc 149, 2) := by decide +kernel
theorem dX13_init_375 : decode cX13_init 375 = .ok (.aastore, 1) := by decide +kernel
theorem dX13_init_376 : decode cX13_init 376 = .ok (.dup, 1) := by decide +kernel
theorem dX13_init_377 : decode cX13_init 377 = .ok (.bipush 11, 2) := by decide +kernel
theorem dX13_init_379 : decode cX13_init 379 = .ok (.ldc 151, 2) := by decide +kernel
theorem dX13_init_381 : decode cX13_init 381 = .ok (.aastore, 1) := by decide +kernel
theorem dX13_init_382 : decode cX13_init 382 = .ok (.dup, 1) := by decide +kernel
theorem dX13_init_383 : decode cX13_init 383 = .ok (.bipush 12, 2) := by decide +kernel
theorem dX13_init_385 : decode cX13_init 385 = .ok (.ldc 153, 2) := by decide +kernel
theorem dX13_init_387 : decode cX13_init 387 = .ok (.aastore, 1) := by decide +kernel
theorem dX13_init_388 : decode cX13_init 388 = .ok (.dup, 1) := by decide +kernel
theorem dX13_init_389 : decode cX13_init 389 = .ok (.bipush 13, 2) := by decide +kernel
theorem dX13_init_391 : decode cX13_init 391 = .ok (.ldc 155, 2) := by decide +kernel
theorem dX13_init_393 : decode cX13_init 393 = .ok (.aastore, 1) := by decide +kernel
theorem dX13_init_394 : decode cX13_init 394 = .ok (.dup, 1) := by decide +kernel
theorem dX13_init_395 : decode cX13_init 395 = .ok (.bipush 14, 2) := by decide +kernel
theorem dX13_init_397 : decode cX13_init 397 = .ok (.ldc 157, 2) := by decide +kernel
theorem dX13_init_399 : decode cX13_init 399 = .ok (.aastore, 1) := by decide +kernel
theorem dX13_init_400 : decode cX13_init 400 = .ok (.dup, 1) := by decide +kernel
theorem dX13_init_401 : decode cX13_init 401 = .ok (.bipush 15, 2) := by decide +kernel
theorem dX13_init_403 : decode cX13_init 403 = .ok (.ldc 159, 2) := by decide +kernel
theorem dX13_init_405 : decode cX13_init 405 = .ok (.aastore, 1) := by decide +kernel
theorem dX13_init_406 : decode cX13_init 406 = .ok (.dup, 1) := by decide +kernel
theorem dX13_init_407 : decode cX13_init 407 = .ok (.bipush 16, 2) := by decide +kernel
theorem dX13_init_409 : decode cX13_init 409 = .ok (.ldc 161, 2) := by decide +kernel
theorem dX13_init_411 : decode cX13_init 411 = .ok (.aastore, 1) := by decide +kernel
theorem dX13_init_412 : decode cX13_init 412 = .ok (.dup, 1) := by decide +kernel
theorem dX13_init_413 : decode cX13_init 413 = .ok (.bipush 17, 2) := by decide +kernel
theorem dX13_init_415 : decode cX13_init 415 = .ok (.ldc 163, 2) := by decide +kernel
theorem dX13_init_417 : decode cX13_init 417 = .ok (.aastore, 1) := by decide +kernel
theorem dX13_init_418 : decode cX13_init 418 = .ok (.dup, 1) := by decide +kernel
theorem dX13_init_419 : decode cX13_init 419 = .ok (.bipush 18, 2) := by decide +kernel
theorem dX13_init_421 : decode cX13_init 421 = .ok (.ldc 165, 2) := by decide +kernel
theorem dX13_init_423 : decode cX13_init 423 = .ok (.aastore, 1) := by decide +kernel
theorem dX13_init_424 : decode cX13_init 424 = .ok (.dup, 1) := by decide +kernel
theorem dX13_init_425 : decode cX13_init 425 = .ok (.bipush 19, 2) := by decide +kernel
theorem dX13_init_427 : decode cX13_init 427 = .ok (.ldc 167, 2) := by decide +kernel
theorem dX13_init_429 : decode cX13_init 429 = .ok (.aastore, 1) := by decide +kernel
theorem dX13_init_430 : decode cX13_init 430 = .ok (.dup, 1) := by decide +kernel
theorem dX13_init_431 : decode cX13_init 431 = .ok (.bipush 20, 2) := by decide +kernel
theorem dX13_init_433 : decode cX13_init 433 = .ok (.ldc 169, 2) := by decide +kernel
theorem dX13_init_435 : decode cX13_init 435 = .ok (.aastore, 1) := by decide +kernel
theorem dX13_init_436 : decode cX13_init 436 = .ok (.dup, 1) := by decide +kernel
theorem dX13_init_437 : decode cX13_init 437 = .ok (.bipush 21, 2) := by decide +kernel
theorem dX13_init_439 : decode cX13_init 439 = .ok (.ldc 171, 2) := by decide +kernel
theorem dX13_init_441 : decode cX13_init 441 = .ok (.aastore, 1) := by decide +kernel
theorem dX13_init_442 : decode cX13_init 442 = .ok (.dup, 1) := by decide +kernel
theorem dX13_init_443 : decode cX13_init 443 = .ok (.bipush 22, 2) := by decide +kernel
theorem dX13_init_445 : decode cX13_init 445 = .ok (.ldc 173, 2) := by decide +kernel
theorem dX13_init_447 : decode cX13_init 447 = .ok (.aastore, 1) := by decide +kernel
theorem dX13_init_448 : decode cX13_init 448 = .ok (.dup, 1) := by decide +kernel
theorem dX13_init_449 : decode cX13_init 449 = .ok (.bipush 23, 2) := by decide +kernel
theorem dX13_init_451 : decode cX13_init 451 = .ok (.ldc 175, 2) := by decide +kernel
theorem dX13_init_453 : decode cX13_init 453 = .ok (.aastore, 1) := by decide +kernel
theorem dX13_init_454 : decode cX13_init 454 = .ok (.dup, 1) := by decide +kernel
theorem dX13_init_455 : decode cX13_init 455 = .ok (.bipush 24, 2) := by decide +kernel
theorem dX13_init_457 : decode cX13_init 457 = .ok (.ldc 177, 2) := by decide +kernel
theorem dX13_init_459 : decode cX13_init 459 = .ok (.aastore, 1) := by decide +kernel
theorem dX13_init_460 : decode cX13_init 460 = .ok (.dup, 1) := by decide +kernel
theorem dX13_init_461 : decode cX13_init 461 = .ok (.bipush 25, 2) := by decide +kernel
theorem dX13_init_463 : decode cX13_init 463 = .ok (.ldc 179, 2) := by decide +kernel
theorem dX13_init_465 : decode cX13_init 465 = .ok (.aastore, 1) := by decide +kernel
theorem dX13_init_466 : decode cX13_init 466 = .ok (.dup, 1) := by decide +kernel
theorem dX13_init_467 : decode cX13_init 467 = .ok (.bipush 26, 2) := by decide +kernel
theorem dX13_init_469 : decode cX13_init 469 = .ok (.ldc 181, 2) := by decide +kernel
theorem dX13_init_471 : decode cX13_init 471 = .ok (.aastore, 1) := by decide +kernel
theorem dX13_init_472 : decode cX13_init 472 = .ok (.dup, 1) := by decide +kernel
theorem dX13_init_473 : decode cX13_init 473 = .ok (.bipush 27, 2) := by decide +kernel
theorem dX13_init_475 : decode cX13_init 475 = .ok (.ldc 183, 2) := by decide +kernel
theorem dX13_init_477 : decode cX13_init 477 = .ok (.aastore, 1) := by decide +kernel
theorem dX13_init_478 : decode cX13_init 478 = .ok (.dup, 1) := by decide +kernel
theorem dX13_init_479 : decode cX13_init 479 = .ok (.bipush 28, 2) := by decide +kernel
theorem dX13_init_481 : decode cX13_init 481 = .ok (.ldc 185, 2) := by decide +kernel
theorem dX13_init_483 : decode cX13_init 483 = .ok (.aastore, 1) := by decide +kernel
theorem dX13_init_484 : decode cX13_init 484 = .ok (.dup, 1) := by decide +kernel
theorem dX13_init_485 : decode cX13_init 485 = .ok (.bipush 29, 2) := by decide +kernel
theorem dX13_init_487 : decode cX13_init 487 = .ok (.ldc 187, 2) := by decide +kernel
theorem dX13_init_489 : decode cX13_init 489 = .ok (.aastore, 1) := by decide +kernel
theorem dX13_init_490 : decode cX13_init 490 = .ok (.dup, 1) := by decide +kernel
theorem dX13_init_491 : decode cX13_init 491 = .ok (.bipush 30, 2) := by decide +kernel
theorem dX13_init_493 : decode cX13_init 493 = .ok (.ldc 189, 2) := by decide +kernel
theorem dX13_init_495 : decode cX13_init 495 = .ok (.aastore, 1) := by decide +kernel
theorem dX13_init_496 : decode cX13_init 496 = .ok (.dup, 1) := by decide +kernel
theorem dX13_init_497 : decode cX13_init 497 = .ok (.bipush 31, 2) := by decide +kernel
theorem dX13_init_499 : decode cX13_init 499 = .ok (.ldc 191, 2) := by decide +kernel
theorem dX13_init_501 : decode cX13_init 501 = .ok (.aastore, 1) := by decide +kernel
theorem dX13_init_502 : decode cX13_init 502 = .ok (.dup, 1) := by decide +kernel
theorem dX13_init_503 : decode cX13_init 503 = .ok (.bipush 32, 2) := by decide +kernel
theorem dX13_init_505 : decode cX13_init 505 = .ok (.ldc 193, 2) := by decide +kernel
theorem dX13_init_507 : decode cX13_init 507 = .ok (.aastore, 1) := by decide +kernel
theorem dX13_init_508 : decode cX13_init 508 = .ok (.putfield 195, 3) := by decide +kernel
theorem dX13_init_511 : decode cX13_init 511 = .ok (.aload_n 0, 1) := by decide +kernel
theorem dX13_init_512 : decode cX13_init 512 = .ok (.bipush 32, 2) := by decide +kernel
theorem dX13_init_514 : decode cX13_init 514 = .ok (.newarray .int, 2) := by decide +kernel
theorem dX13_init_516 : decode cX13_init 516 = .ok (.putfield 198, 3) := by decide +kernel
theorem dX13_init_519 : decode cX13_init 519 = .ok (.aload_n 0, 1) := by decide +kernel
theorem dX13_init_520 : decode cX13_init 520 = .ok (.bipush 32, 2) := by decide +kernel
theorem dX13_init_522 : decode cX13_init 522 = .ok (.newarray .int, 2) := by decide +kernel
theorem dX13_init_524 : decode cX13_init 524 = .ok (.putfield 201, 3) := by decide +kernel
theorem dX13_init_527 : decode cX13_init 527 = .ok (.aload_n 0, 1) := by decide +kernel
theorem dX13_init_528 : decode cX13_init 528 = .ok (.sipush 400, 3) := by decide +kernel
theorem dX13_init_531 : decode cX13_init 531 = .ok (.newarray .int, 2) := by decide +kernel
theorem dX13_init_533 : decode cX13_init 533 = .ok (.putfield 204, 3) := by decide +kernel
theorem dX13_init_536 : decode cX13_init 536 = .ok (.aload_n 0, 1) := by decide +kernel
theorem dX13_init_537 : decode cX13_init 537 = .ok (.sipush 400, 3) := by decide +kernel
theorem dX13_init_540 : decode cX13_init 540 = .ok (.newarray .int, 2) := by decide +kernel
theorem dX13_init_542 : decode cX13_init 542 = .ok (.putfield 207, 3) := by decide +kernel
theorem dX13_init_545 : decode cX13_init 545 = .ok (.aload_n 0, 1) := by decide +kernel
theorem dX13_init_546 : decode cX13_init 546 = .ok (.sipush 400, 3) := by decide +kernel
theorem dX13_init_549 : decode cX13_init 549 = .ok (.newarray .int, 2) := by decide +kernel
theorem dX13_init_551 : decode cX13_init 551 = .ok (.putfield 210, 3) := by decide +kernel
theorem dX13_init_554 : decode cX13_init 554 = .ok (.aload_n 0, 1) := by decide +kernel
theorem dX13_init_555 : decode cX13_init 555 = .ok (.bipush 80, 2) := by decide +kernel
theorem dX13_init_557 : decode cX13_init 557 = .ok (.newarray .int, 2) := by decide +kernel
theorem dX13_init_559 : decode cX13_init 559 = .ok (.putfield 213, 3) := by decide +kernel
theorem dX13_init_562 : decode cX13_init 562 = .ok (.aload_n 0, 1) := by decide +kernel
theorem dX13_init_563 : decode cX13_init 563 = .ok (.bipush 12, 2) := by decide +kernel
theorem dX13_init_565 : decode cX13_init 565 = .ok (.anewarray 57, 3) := by decide +kernel
theorem dX13_init_568 : decode cX13_init 568 = .ok (.dup, 1) := by decide +kernel
theorem dX13_init_569 : decode cX13_init 569 = .ok (.iconst 0, 1) := by decide +kernel
theorem dX13_init_570 : decode cX13_init 570 = .ok (.ldc 129, 2) := by decide +kernel
theorem dX13_init_572 : decode cX13_init 572 = .ok (.aastore, 1) := by decide +kernel
theorem dX13_init_573 : decode cX13_init 573 = .ok (.dup, 1) := by decide +kernel
theorem dX13_init_574 : decode cX13_init 574 = .ok (.iconst 1, 1) := by decide +kernel
theorem dX13_init_575 : decode cX13_init 575 = .ok (.ldc 124, 2) := by decide +kernel
theorem dX13_init_577 : decode cX13_init 577 = .ok (.aastore, 1) := by decide +kernel
theorem dX13_init_578 : decode cX13_init 578 = .ok (.dup, 1) := by decide +kernel
theorem dX13_init_579 : decode cX13_init 579 = .ok (.iconst 2, 1) := by decide +kernel
theorem dX13_init_580 : decode cX13_init 580 = .ok (.ldc 110, 2) := by decide +kernel
theorem dX13_init_582 : decode cX13_init 582 = .ok (.aastore, 1) := by decide +kernel
theorem dX13_init_583 : decode cX13_init 583 = .ok (.dup, 1) := by decide +kernel
theorem dX13_init_584 : decode cX13_init 584 = .ok (.iconst 3, 1) := by decide +kernel
theorem dX13_init_585 : decode cX13_init 585 = .ok (.ldc 112, 2) := by decide +kernel
theorem dX13_init_587 : decode cX13_init 587 = .ok (.aastore, 1) := by decide +kernel
theorem dX13_init_588 : decode cX13_init 588 = .ok (.dup, 1) := by decide +kernel
theorem dX13_init_589 : decode cX13_init 589 = .ok (.iconst 4, 1) := by decide +kernel
theorem dX13_init_590 : decode cX13_init 590 = .ok (.ldc 116, 2) := by decide +kernel
theorem dX13_init_592 : decode cX13_init 592 = .ok (.aastore, 1) := by decide +kernel
theorem dX13_init_593 : decode cX13_init 593 = .ok (.dup, 1) := by decide +kernel
theorem dX13_init_594 : decode cX13_init 594 = .ok (.iconst 5, 1) := by decide +kernel
theorem dX13_init_595 : decode cX13_init 595 = .ok (.ldc 118, 2) := by decide +kernel
theorem dX13_init_597 : decode cX13_init 597 = .ok (.aastore, 1) := by decide +kernel
theorem dX13_init_598 : decode cX13_init 598 = .ok (.dup, 1) := by decide +kernel
theorem dX13_init_599 : decode cX13_init 599 = .ok (.bipush 6, 2) := by decide +kernel
theorem dX13_init_601 : decode cX13_init 601 = .ok (.ldc 185, 2) := by decide +kernel
theorem dX13_init_603 : decode cX13_init 603 = .ok (.aastore, 1) := by decide +kernel
theorem dX13_init_604 : decode cX13_init 604 = .ok (.dup, 1) := by decide +kernel
theorem dX13_init_605 : decode cX13_init 605 = .ok (.bipush 7, 2) := by decide +kernel
theorem dX13_init_607 : decode cX13_init 607 = .ok (.ldc 187, 2) := by decide +kernel
theorem dX13_init_609 : decode cX13_init 609 = .ok (.aastore, 1) := by decide +kernel
theorem dX13_init_610 : decode cX13_init 610 = .ok (.dup, 1) := by decide +kernel
theorem dX13_init_611 : decode cX13_init 611 = .ok (.bipush 8, 2) := by decide +kernel
theorem dX13_init_613 : decode cX13_init 613 = .ok (.ldc 137, 2) := by decide +kernel
theorem dX13_init_615 : decode cX13_init 615 = .ok (.aastore, 1) := by decide +kernel
theorem dX13_init_616 : decode cX13_init 616 = .ok (.dup, 1) := by decide +kernel
theorem dX13_init_617 : decode cX13_init 617 = .ok (.bipush 9, 2) := by decide +kernel
theorem dX13_init_619 : decode cX13_init 619 = .ok (.ldc 189, 2) := by decide +kernel
theorem dX13_init_621 : decode cX13_init 621 = .ok (.aastore, 1) := by decide +kernel
theorem dX13_init_622 : decode cX13_init 622 = .ok (.dup, 1) := by decide +kernel
theorem dX13_init_623 : decode cX13_init 623 = .ok (.bipush 10, 2) := by decide +kernel
theorem dX13_init_625 : decode cX13_init 625 = .ok (.ldc 191, 2) := by decide +kernel
theorem dX13_init_627 : decode cX13_init 627 = .ok (.aastore, 1) := by decide +kernel
theorem dX13_init_628 : decode cX13_init 628 = .ok (.dup, 1) := by decide +kernel
theorem dX13_init_629 : decode cX13_init 629 = .ok (.bipush 11, 2) := by decide +kernel
theorem dX13_init_631 : decode cX13_init 631 = .ok (.ldc 193, 2) := by decide +kernel
theorem dX13_init_633 : decode cX13_init 633 = .ok (.aastore, 1) := by decide +kernel
theorem dX13_init_634 : decode cX13_init 634 = .ok (.putfield 216, 3) := by decide +kernel
theorem dX13_init_637 : decode cX13_init 637 = .ok (.aload_n 0, 1) := by decide +kernel
theorem dX13_init_638 : decode cX13_init 638 = .ok (.bipush 12, 2) := by decide +kernel
theorem dX13_init_640 : decode cX13_init 640 = .ok (.newarray .int, 2) := by decide +kernel
theorem dX13_init_642 : decode cX13_init 642 = .ok (.dup, 1) := by decide +kernel
theorem dX13_init_643 : decode cX13_init 643 = .ok (.iconst 0, 1) := by decide +kernel
theorem dX13_init_644 : decode cX13_init 644 = .ok (.iconst (-1), 1) := by decide +kernel
theorem dX13_init_645 : decode cX13_init 645 = .ok (.iastore, 1) := by decide +kernel
theorem dX13_init_646 : decode cX13_init 646 = .ok (.dup, 1) := by decide +kernel
theorem dX13_init_647 : decode cX13_init 647 = .ok (.iconst 1, 1) := by decide +kernel
theorem dX13_init_648 : decode cX13_init 648 = .ok (.iconst 1, 1) := by decide +kernel
theorem dX13_init_649 : decode cX13_init 649 = .ok (.iastore, 1) := by decide +kernel
theorem dX13_init_650 : decode cX13_init 650 = .ok (.dup, 1) := by decide +kernel
theorem dX13_init_651 : decode cX13_init 651 = .ok (.iconst 2, 1) := by decide +kernel
theorem dX13_init_652 : decode cX13_init 652 = .ok (.iconst 2, 1) := by decide +kernel
theorem dX13_init_653 : decode cX13_init 653 = .ok (.iastore, 1) := by decide +kernel
theorem dX13_init_654 : decode cX13_init 654 = .ok (.dup, 1) := by decide +kernel
theorem dX13_init_655 : decode cX13_init 655 = .ok (.iconst 3, 1) := by decide +kernel
theorem dX13_init_656 : decode cX13_init 656 = .ok (.iconst 3, 1) := by decide +kernel
theorem dX13_init_657 : decode cX13_init 657 = .ok (.iastore, 1) := by decide +kernel
theorem dX13_init_658 : decode cX13_init 658 = .ok (.dup, 1) := by decide +kernel
theorem dX13_init_659 : decode cX13_init 659 = .ok (.iconst 4, 1) := by decide +kernel
theorem dX13_init_660 : decode cX13_init 660 = .ok (.iconst 4, 1) := by decide +kernel
theorem dX13_init_661 : decode cX13_init 661 = .ok (.iastore, 1) := by decide +kernel
theorem dX13_init_662 : decode cX13_init 662 = .ok (.dup, 1) := by decide +kernel
theorem dX13_init_663 : decode cX13_init 663 = .ok (.iconst 5, 1) := by decide +kernel
theorem dX13_init_664 : decode cX13_init 664 = .ok (.iconst 5, 1) := by decide +kernel
theorem dX13_init_665 : decode cX13_init 665 = .ok (.iastore, 1) := by decide +kernel
theorem dX13_init_666 : decode cX13_init 666 = .ok (.dup, 1) := by decide +kernel
theorem dX13_init_667 : decode cX13_init 667 = .ok (.bipush 6, 2) := by decide +kernel
theorem dX13_init_669 : decode cX13_init 669 = .ok (.bipush 6, 2) := by decide +kernel
theorem dX13_init_671 : decode cX13_init 671 = .ok (.iastore, 1) := by decide +kernel
theorem dX13_init_672 : decode cX13_init 672 = .ok (.dup, 1) := by decide +kernel
theorem dX13_init_673 : decode cX13_init 673 = .ok (.bipush 7, 2) := by decide +kernel
theorem dX13_init_675 : decode cX13_init 675 = .ok (.bipush 7, 2) := by decide +kernel
theorem dX13_init_677 : decode cX13_init 677 = .ok (.iastore, 1) := by decide +kernel
theorem dX13_init_678 : decode cX13_init 678 = .ok (.dup, 1) := by decide +kernel
theorem dX13_init_679 : decode cX13_init 679 = .ok (.bipush 8, 2) := by decide +kernel
theorem dX13_init_681 : decode cX13_init 681 = .ok (.bipush 8, 2) := by decide +kernel
theorem dX13_init_683 : decode cX13_init 683 = .ok (.iastore, 1) := by decide +kernel
theorem dX13_init_684 : decode cX13_init 684 = .ok (.dup, 1) := by decide +kernel
theorem dX13_init_685 : decode cX13_init 685 = .ok (.bipush 9, 2) := by decide +kernel
theorem dX13_init_687 : decode cX13_init 687 = .ok (.bipush 9, 2) := by decide +kernel
theorem dX13_init_689 : decode cX13_init 689 = .ok (.iastore, 1) := by decide +kernel
theorem dX13_init_690 : decode cX13_init 690 = .ok (.dup, 1) := by decide +kernel
theorem dX13_init_691 : decode cX13_init 691 = .ok (.bipush 10, 2) := by decide +kernel
theorem dX13_init_693 : decode cX13_init 693 = .ok (.bipush 11, 2) := by decide +kernel
theorem dX13_init_695 : decode cX13_init 695 = .ok (.iastore, 1) := by decide +kernel
theorem dX13_init_696 : decode cX13_init 696 = .ok (.dup, 1) := by decide +kernel
theorem dX13_init_697 : decode cX13_init 697 = .ok (.bipush 11, 2) := by decide +kernel
theorem dX13_init_699 : decode cX13_init 699 = .ok (.bipush 12, 2) := by decide +kernel
theorem dX13_init_701 : decode cX13_init 701 = .ok (.iastore, 1) := by decide +kernel
theorem dX13_init_702 : decode cX13_init 702 = .ok (.putfield 219, 3) := by decide +kernel
theorem dX13_init_705 : decode cX13_init 705 = .ok (.aload_n 0, 1) := by decide +kernel
theorem dX13_init_706 : decode cX13_init 706 = .ok (.sipush 200, 3) := by decide +kernel
theorem dX13_init_709 : decode cX13_init 709 = .ok (.newarray .int, 2) := by decide +kernel
theorem dX13_init_711 : decode cX13_init 711 = .ok (.putfield 222, 3) := by decide +kernel
theorem dX13_init_714 : decode cX13_init 714 = .ok (.aload_n 0, 1) := by decide +kernel
theorem dX13_init_715 : decode cX13_init 715 = .ok (.sipush 200, 3) := by decide +kernel
theorem dX13_init_718 : decode cX13_init 718 = .ok (.newarray .int, 2) := by decide +kernel
theorem dX13_init_720 : decode cX13_init 720 = .ok (.putfield 225, 3) := by decide +kernel
theorem dX13_init_723 : decode cX13_init 723 = .ok (.aload_n 0, 1) := by decide +kernel
theorem dX13_init_724 : decode cX13_init 724 = .ok (.getfield 9, 3) := by decide +kernel
theorem dX13_init_727 : decode cX13_init 727 = .ok (.invokestatic 228, 3) := by decide +kernel
theorem dX13_init_730 : decode cX13_init 730 = .ok (.return_, 1) := by decide +kernel
theorem dX13_thrown_0 : decode cX13_thrown 0 = .ok (.aload_n 0, 1) := by decide +kernel
theorem dX13_thrown_1 : decode cX13_thrown 1 = .ok (.getfield 231, 3) := by decide +kernel
theorem dX13_thrown_4 : decode cX13_thrown 4 = .ok (.ireturn, 1) := by decide +kernel
theorem dX13_raise_0 : decode cX13_raise 0 = .ok (.aload_n 0, 1) := by decide +kernel
theorem dX13_raise_1 : decode cX13_raise 1 = .ok (.iload_n 1, 1) := by decide +kernel
theorem dX13_raise_2 : decode cX13_raise 2 = .ok (.putfield 231, 3) := by decide +kernel
theorem dX13_raise_5 : decode cX13_raise 5 = .ok (.iconst 0, 1) := by decide +kernel
theorem dX13_raise_6 : decode cX13_raise 6 = .ok (.ireturn, 1) := by decide +kernel
theorem dX13_inRange_0 : decode cX13_inRange 0 = .ok (.iload_n 0, 1) := by decide +kernel
theorem dX13_inRange_1 : decode cX13_inRange 1 = .ok (.iload_n 1, 1) := by decide +kernel
theorem dX13_inRange_2 : decode cX13_inRange 2 = .ok (.if_icmp .lt 12, 3) := by decide +kernel
theorem dX13_inRange_5 : decode cX13_inRange 5 = .ok (.iload_n 0, 1) := by decide +kernel
theorem dX13_inRange_6 : decode cX13_inRange 6 = .ok (.iload_n 2, 1) := by decide +kernel
theorem dX13_inRange_7 : decode cX13_inRange 7 = .ok (.if_icmp .gt 7, 3) := by decide +kernel
theorem dX13_inRange_10 : decode cX13_inRange 10 = .ok (.iconst 1, 1) := by decide +kernel
theorem dX13_inRange_11 : decode cX13_inRange 11 = .ok (.goto 4, 3) := by decide +kernel
theorem dX13_inRange_14 : decode cX13_inRange 14 = .ok (.iconst 0, 1) := by decide +kernel
theorem dX13_inRange_15 : decode cX13_inRange 15 = .ok (.ireturn, 1) := by decide +kernel
theorem dX13_clear_0 : decode cX13_clear 0 = .ok (.iconst 0, 1) := by decide +kernel
theorem dX13_clear_1 : decode cX13_clear 1 = .ok (.istore_n 1, 1) := by decide +kernel
theorem dX13_clear_2 : decode cX13_clear 2 = .ok (.iload_n 1, 1) := by decide +kernel
theorem dX13_clear_3 : decode cX13_clear 3 = .ok (.sipush 700, 3) := by decide +kernel
theorem dX13_clear_6 : decode cX13_clear 6 = .ok (.if_icmp .ge 13, 3) := by decide +kernel
theorem dX13_clear_9 : decode cX13_clear 9 = .ok (.aload_n 0, 1) := by decide +kernel
theorem dX13_clear_10 : decode cX13_clear 10 = .ok (.iload_n 1, 1) := by decide +kernel
theorem dX13_clear_11 : decode cX13_clear 11 = .ok (.iconst 0, 1) := by decide +kernel
theorem dX13_clear_12 : decode cX13_clear 12 = .ok (.iastore, 1) := by decide +kernel
theorem dX13_clear_13 : decode cX13_clear 13 = .ok (.iinc 1 1, 3) := by decide +kernel
theorem dX13_clear_16 : decode cX13_clear 16 = .ok (.goto (-14), 3) := by decide +kernel
theorem dX13_clear_19 : decode cX13_clear 19 = .ok (.aload_n 0, 1) := by decide +kernel
theorem dX13_clear_20 : decode cX13_clear 20 = .ok (.iconst 2, 1) := by decide +kernel
theorem dX13_clear_21 : decode cX13_clear 21 = .ok (.iconst (-1), 1) := by decide +kernel
theorem dX13_clear_22 : decode cX13_clear 22 = .ok (.iastore, 1) := by decide +kernel
theorem dX13_clear_23 : decode cX13_clear 23 = .ok (.return_, 1) := by decide +kernel
theorem dX13_ofPin_0 : decode cX13_ofPin 0 = .ok (.aload_n 0, 1) := by decide +kernel
theorem dX13_ofPin_1 : decode cX13_ofPin 1 = .ok (.getfield 9, 3) := by decide +kernel
theorem dX13_ofPin_4 : decode cX13_ofPin 4 = .ok (.iconst 4, 1) := by decide +kernel
theorem dX13_ofPin_5 : decode cX13_ofPin 5 = .ok (.bipush 6, 2) := by decide +kernel
theorem dX13_ofPin_7 : decode cX13_ofPin 7 = .ok (.iload_n 1, 1) := by decide +kernel
theorem dX13_ofPin_8 : decode cX13_ofPin 8 = .ok (.imul, 1) := by decide +kernel
theorem dX13_ofPin_9 : decode cX13_ofPin 9 = .ok (.iadd, 1) := by decide +kernel
theorem dX13_ofPin_10 : decode cX13_ofPin 10 = .ok (.iload_n 2, 1) := by decide +kernel
theorem dX13_ofPin_11 : decode cX13_ofPin 11 = .ok (.iadd, 1) := by decide +kernel
theorem dX13_ofPin_12 : decode cX13_ofPin 12 = .ok (.iaload, 1) := by decide +kernel
theorem dX13_ofPin_13 : decode cX13_ofPin 13 = .ok (.ireturn, 1) := by decide +kernel
theorem dX13_putPin_0 : decode cX13_putPin 0 = .ok (.aload_n 0, 1) := by decide +kernel
theorem dX13_putPin_1 : decode cX13_putPin 1 = .ok (.getfield 9, 3) := by decide +kernel
theorem dX13_putPin_4 : decode cX13_putPin 4 = .ok (.iconst 4, 1) := by decide +kernel
theorem dX13_putPin_5 : decode cX13_putPin 5 = .ok (.bipush 6, 2) := by decide +kernel
theorem dX13_putPin_7 : decode cX13_putPin 7 = .ok (.iload_n 1, 1) := by decide +kernel
theorem dX13_putPin_8 : decode cX13_putPin 8 = .ok (.imul, 1) := by decide +kernel
theorem dX13_putPin_9 : decode cX13_putPin 9 = .ok (.iadd, 1) := by decide +kernel
theorem dX13_putPin_10 : decode cX13_putPin 10 = .ok (.iload_n 2, 1) := by decide +kernel
theorem dX13_putPin_11 : decode cX13_putPin 11 = .ok (.iadd, 1) := by decide +kernel
theorem dX13_putPin_12 : decode cX13_putPin 12 = .ok (.iload_n 3, 1) := by decide +kernel
theorem dX13_putPin_13 : decode cX13_putPin 13 = .ok (.iastore, 1) := by decide +kernel
theorem dX13_putPin_14 : decode cX13_putPin 14 = .ok (.return_, 1) := by decide +kernel
theorem dX13_of_0 : decode cX13_of 0 = .ok (.aload_n 0, 1) := by decide +kernel
theorem dX13_of_1 : decode cX13_of 1 = .ok (.getfield 9, 3) := by decide +kernel
theorem dX13_of_4 : decode cX13_of 4 = .ok (.sipush 560, 3) := by decide +kernel
theorem dX13_of_7 : decode cX13_of 7 = .ok (.bipush 35, 2) := by decide +kernel
theorem dX13_of_9 : decode cX13_of 9 = .ok (.iload_n 1, 1) := by decide +kernel
theorem dX13_of_10 : decode cX13_of 10 = .ok (.imul, 1) := by decide +kernel
theorem dX13_of_11 : decode cX13_of 11 = .ok (.iadd, 1) := by decide +kernel
theorem dX13_of_12 : decode cX13_of 12 = .ok (.iload_n 2, 1) := by decide +kernel
theorem dX13_of_13 : decode cX13_of 13 = .ok (.iadd, 1) := by decide +kernel
theorem dX13_of_14 : decode cX13_of 14 = .ok (.iaload, 1) := by decide +kernel
theorem dX13_of_15 : decode cX13_of 15 = .ok (.ireturn, 1) := by decide +kernel
theorem dX13_set_0 : decode cX13_set 0 = .ok (.aload_n 0, 1) := by decide +kernel
theorem dX13_set_1 : decode cX13_set 1 = .ok (.getfield 9, 3) := by decide +kernel
theorem dX13_set_4 : decode cX13_set 4 = .ok (.sipush 560, 3) := by decide +kernel
theorem dX13_set_7 : decode cX13_set 7 = .ok (.bipush 35, 2) := by decide +kernel
theorem dX13_set_9 : decode cX13_set 9 = .ok (.iload_n 1, 1) := by decide +kernel
theorem dX13_set_10 : decode cX13_set 10 = .ok (.imul, 1) := by decide +kernel
theorem dX13_set_11 : decode cX13_set 11 = .ok (.iadd, 1) := by decide +kernel
theorem dX13_set_12 : decode cX13_set 12 = .ok (.iload_n 2, 1) := by decide +kernel
theorem dX13_set_13 : decode cX13_set 13 = .ok (.iadd, 1) := by decide +kernel
theorem dX13_set_14 : decode cX13_set 14 = .ok (.iload_n 3, 1) := by decide +kernel
theorem dX13_set_15 : decode cX13_set 15 = .ok (.iastore, 1) := by decide +kernel
theorem dX13_set_16 : decode cX13_set 16 = .ok (.return_, 1) := by decide +kernel
theorem dX13_add_0 : decode cX13_add 0 = .ok (.aload_n 0, 1) := by decide +kernel
theorem dX13_add_1 : decode cX13_add 1 = .ok (.getfield 9, 3) := by decide +kernel
theorem dX13_add_4 : decode cX13_add 4 = .ok (.sipush 560, 3) := by decide +kernel
theorem dX13_add_7 : decode cX13_add 7 = .ok (.bipush 35, 2) := by decide +kernel
theorem dX13_add_9 : decode cX13_add 9 = .ok (.iload_n 1, 1) := by decide +kernel
theorem dX13_add_10 : decode cX13_add 10 = .ok (.imul, 1) := by decide +kernel
theorem dX13_add_11 : decode cX13_add 11 = .ok (.iadd, 1) := by decide +kernel
theorem dX13_add_12 : decode cX13_add 12 = .ok (.iload_n 2, 1) := by decide +kernel
theorem dX13_add_13 : decode cX13_add 13 = .ok (.iadd, 1) := by decide +kernel
theorem dX13_add_14 : decode cX13_add 14 = .ok (.dup2, 1) := by decide +kernel
theorem dX13_add_15 : decode cX13_add 15 = .ok (.iaload, 1) := by decide +kernel
theorem dX13_add_16 : decode cX13_add 16 = .ok (.iload_n 3, 1) := by decide +kernel
theorem dX13_add_17 : decode cX13_add 17 = .ok (.iadd, 1) := by decide +kernel
theorem dX13_add_18 : decode cX13_add 18 = .ok (.iastore, 1) := by decide +kernel
theorem dX13_add_19 : decode cX13_add 19 = .ok (.return_, 1) := by decide +kernel
set_option maxRecDepth 20000 in
theorem ggX13_note_X13_add : GoodIn wsX13_note wsX13_add := goodIn_r _ [5, 6, 7, 8, 9, 10, 11, 12, 13, 14, 15, 16, 17, 18, 19, 20, 21, 22, 23, 24, 25, 26, 27, 28, 29, 30, 31, 32, 33, 34, 35, 36, 37, 38, 39, 40, 41, 42, 43, 44, 45, 46, 47, 48, 49, 50, 51, 52, 53] (by decide +kernel) (by decide +kernel)
set_option maxRecDepth 20000 in
theorem gX13_note_X13_add : GoodIn wsX13_note (wsV RX13 234 RX13 yX13_add wsX13_add) := goodIn_app (goodIn_of _ (by decide +kernel)) ggX13_note_X13_add
theorem dX13_note_0 : decode cX13_note 0 = .ok (.aload_n 0, 1) := by decide +kernel
theorem dX13_note_1 : decode cX13_note 1 = .ok (.iload_n 1, 1) := by decide +kernel
theorem dX13_note_2 : decode cX13_note 2 = .ok (.bipush 29, 2) := by decide +kernel
theorem dX13_note_4 : decode cX13_note 4 = .ok (.iload_n 2, 1) := by decide +kernel
theorem dX13_note_5 : decode cX13_note 5 = .ok (.iadd, 1) := by decide +kernel
theorem dX13_note_6 : decode cX13_note 6 = .ok (.iconst 1, 1) := by decide +kernel
theorem dX13_note_7 : decode cX13_note 7 = .ok (.invokevirtual 234, 3) := by decide +kernel
theorem dX13_note_10 : decode cX13_note 10 = .ok (.return_, 1) := by decide +kernel
theorem dX13_setting_0 : decode cX13_setting 0 = .ok (.aload_n 0, 1) := by decide +kernel
theorem dX13_setting_1 : decode cX13_setting 1 = .ok (.getfield 9, 3) := by decide +kernel
theorem dX13_setting_4 : decode cX13_setting 4 = .ok (.sipush 476, 3) := by decide +kernel
theorem dX13_setting_7 : decode cX13_setting 7 = .ok (.bipush 21, 2) := by decide +kernel
theorem dX13_setting_9 : decode cX13_setting 9 = .ok (.iload_n 1, 1) := by decide +kernel
theorem dX13_setting_10 : decode cX13_setting 10 = .ok (.imul, 1) := by decide +kernel
theorem dX13_setting_11 : decode cX13_setting 11 = .ok (.iadd, 1) := by decide +kernel
theorem dX13_setting_12 : decode cX13_setting 12 = .ok (.iload_n 2, 1) := by decide +kernel
theorem dX13_setting_13 : decode cX13_setting 13 = .ok (.iadd, 1) := by decide +kernel
theorem dX13_setting_14 : decode cX13_setting 14 = .ok (.iaload, 1) := by decide +kernel
theorem dX13_setting_15 : decode cX13_setting 15 = .ok (.ireturn, 1) := by decide +kernel
theorem dX13_code_0 : decode cX13_code 0 = .ok (.aload_n 0, 1) := by decide +kernel
theorem dX13_code_1 : decode cX13_code 1 = .ok (.getfield 9, 3) := by decide +kernel
theorem dX13_code_4 : decode cX13_code 4 = .ok (.sipush 284, 3) := by decide +kernel
theorem dX13_code_7 : decode cX13_code 7 = .ok (.bipush 6, 2) := by decide +kernel
theorem dX13_code_9 : decode cX13_code 9 = .ok (.iload_n 1, 1) := by decide +kernel
theorem dX13_code_10 : decode cX13_code 10 = .ok (.imul, 1) := by decide +kernel
theorem dX13_code_11 : decode cX13_code 11 = .ok (.iadd, 1) := by decide +kernel
theorem dX13_code_12 : decode cX13_code 12 = .ok (.iload_n 2, 1) := by decide +kernel
theorem dX13_code_13 : decode cX13_code 13 = .ok (.iadd, 1) := by decide +kernel
theorem dX13_code_14 : decode cX13_code 14 = .ok (.iaload, 1) := by decide +kernel
theorem dX13_code_15 : decode cX13_code 15 = .ok (.ireturn, 1) := by decide +kernel
set_option maxRecDepth 20000 in
theorem ggX13_codeOf_X13_of : GoodIn wsX13_codeOf wsX13_of := goodIn_r _ [5, 6, 11, 12, 13, 14, 15, 16, 17, 18, 19, 20, 21, 22, 23, 24, 25, 26, 27, 28, 29, 30, 31, 32, 33, 34, 35, 36, 37, 38, 39, 40, 41, 42, 43, 44, 45, 46, 47, 48, 49, 50, 51, 52, 53, 54, 55, 56, 57] (by decide +kernel) (by decide +kernel)
set_option maxRecDepth 20000 in
theorem gX13_codeOf_X13_of : GoodIn wsX13_codeOf (wsV RX13 238 RX13 yX13_of wsX13_of) := goodIn_app (goodIn_of _ (by decide +kernel)) ggX13_codeOf_X13_of
set_option maxRecDepth 20000 in
theorem ggX13_codeOf_X13_code : GoodIn wsX13_codeOf wsX13_code := goodIn_r _ [10, 6, 11, 12, 13, 14, 15, 16, 17, 18, 19, 20, 21, 22, 23, 24, 25, 26, 27, 28, 29, 30, 31, 32, 33, 34, 35, 36, 37, 38, 39, 40, 41, 42, 43, 44, 45, 46, 47, 48, 49, 50, 51, 52, 53, 54, 55, 56, 57] (by decide +kernel) (by decide +kernel)
set_option maxRecDepth 20000 in
theorem gX13_codeOf_X13_code : GoodIn wsX13_codeOf (wsV RX13 242 RX13 yX13_code wsX13_code) := goodIn_app (goodIn_of _ (by decide +kernel)) ggX13_codeOf_X13_code
theorem dX13_codeOf_0 : decode cX13_codeOf 0 = .ok (.aload_n 0, 1) := by decide +kernel
theorem dX13_codeOf_1 : decode cX13_codeOf 1 = .ok (.aload_n 0, 1) := by decide +kernel
theorem dX13_codeOf_2 : decode cX13_codeOf 2 = .ok (.iload_n 1, 1) := by decide +kernel
theorem dX13_codeOf_3 : decode cX13_codeOf 3 = .ok (.iconst 1, 1) := by decide +kernel
theorem dX13_codeOf_4 : decode cX13_codeOf 4 = .ok (.invokevirtual 238, 3) := by decide +kernel
theorem dX13_codeOf_7 : decode cX13_codeOf 7 = .ok (.iload_n 2, 1) := by decide +kernel
theorem dX13_codeOf_8 : decode cX13_codeOf 8 = .ok (.invokevirtual 242, 3) := by decide +kernel
theorem dX13_codeOf_11 : decode cX13_codeOf 11 = .ok (.ireturn, 1) := by decide +kernel
set_option maxRecDepth 20000 in
theorem ggX13_exists_X13_inRange : GoodIn wsX13_exists wsX13_inRange := goodIn_r _ [4] (by decide +kernel) (by decide +kernel)
set_option maxRecDepth 20000 in
theorem gX13_exists_X13_inRange : GoodIn wsX13_exists (va_wsS RX13 245 yX13_inRange wsX13_inRange) := goodIn_app (goodIn_of _ (by decide +kernel)) ggX13_exists_X13_inRange
set_option maxRecDepth 20000 in
theorem ggX13_exists_X13_setting : GoodIn wsX13_exists wsX13_setting := goodIn_r _ [8, 9, 10, 11, 12, 13, 14, 15, 16, 17, 18, 19, 20, 21, 22, 23, 24, 25, 26, 27, 28, 29, 30, 31, 32, 33, 34, 35, 36, 37, 38, 39, 40, 41, 42, 43, 44, 45, 46, 47, 48, 49, 50, 51, 52, 53, 54, 55, 56] (by decide +kernel) (by decide +kernel)
set_option maxRecDepth 20000 in
theorem gX13_exists_X13_setting : GoodIn wsX13_exists (wsV RX13 249 RX13 yX13_setting wsX13_setting) := goodIn_app (goodIn_of _ (by decide +kernel)) ggX13_exists_X13_setting
theorem dX13_exists_0 : decode cX13_exists 0 = .ok (.iload_n 1, 1) := by decide +kernel
theorem dX13_exists_1 : decode cX13_exists 1 = .ok (.iconst 0, 1) := by decide +kernel
theorem dX13_exists_2 : decode cX13_exists 2 = .ok (.iconst 3, 1) := by decide +kernel
theorem dX13_exists_3 : decode cX13_exists 3 = .ok (.invokestatic 245, 3) := by decide +kernel
theorem dX13_exists_6 : decode cX13_exists 6 = .ok (.ifCond .eq 17, 3) := by decide +kernel
theorem dX13_exists_9 : decode cX13_exists 9 = .ok (.aload_n 0, 1) := by decide +kernel
theorem dX13_exists_10 : decode cX13_exists 10 = .ok (.iload_n 1, 1) := by decide +kernel
theorem dX13_exists_11 : decode cX13_exists 11 = .ok (.iconst 0, 1) := by decide +kernel
theorem dX13_exists_12 : decode cX13_exists 12 = .ok (.invokevirtual 249, 3) := by decide +kernel
theorem dX13_exists_15 : decode cX13_exists 15 = .ok (.iconst 1, 1) := by decide +kernel
theorem dX13_exists_16 : decode cX13_exists 16 = .ok (.if_icmp .ne 7, 3) := by decide +kernel
theorem dX13_exists_19 : decode cX13_exists 19 = .ok (.iconst 1, 1) := by decide +kernel
theorem dX13_exists_20 : decode cX13_exists 20 = .ok (.goto 4, 3) := by decide +kernel
theorem dX13_exists_23 : decode cX13_exists 23 = .ok (.iconst 0, 1) := by decide +kernel
theorem dX13_exists_24 : decode cX13_exists 24 = .ok (.ireturn, 1) := by decide +kernel
set_option maxRecDepth 20000 in
theorem ggX13_isPin_X13_inRange : GoodIn wsX13_isPin wsX13_inRange := goodIn_r _ [4] (by decide +kernel) (by decide +kernel)
set_option maxRecDepth 20000 in
theorem gX13_isPin_X13_inRange : GoodIn wsX13_isPin (va_wsS RX13 245 yX13_inRange wsX13_inRange) := goodIn_app (goodIn_of _ (by decide +kernel)) ggX13_isPin_X13_inRange
theorem dX13_isPin_0 : decode cX13_isPin 0 = .ok (.iload_n 0, 1) := by decide +kernel
theorem dX13_isPin_1 : decode cX13_isPin 1 = .ok (.iconst 0, 1) := by decide +kernel
theorem dX13_isPin_2 : decode cX13_isPin 2 = .ok (.bipush 15, 2) := by decide +kernel
theorem dX13_isPin_4 : decode cX13_isPin 4 = .ok (.invokestatic 245, 3) := by decide +kernel
theorem dX13_isPin_7 : decode cX13_isPin 7 = .ok (.ireturn, 1) := by decide +kernel
theorem dX13_instructionCount_0 : decode cX13_instructionCount 0 = .ok (.aload_n 0, 1) := by decide +kernel
theorem dX13_instructionCount_1 : decode cX13_instructionCount 1 = .ok (.iconst 0, 1) := by decide +kernel
theorem dX13_instructionCount_2 : decode cX13_instructionCount 2 = .ok (.putfield 231, 3) := by decide +kernel
theorem dX13_instructionCount_5 : decode cX13_instructionCount 5 = .ok (.aload_n 0, 1) := by decide +kernel
theorem dX13_instructionCount_6 : decode cX13_instructionCount 6 = .ok (.getfield 9, 3) := by decide +kernel
theorem dX13_instructionCount_9 : decode cX13_instructionCount 9 = .ok (.iconst 0, 1) := by decide +kernel
theorem dX13_instructionCount_10 : decode cX13_instructionCount 10 = .ok (.iaload, 1) := by decide +kernel
theorem dX13_instructionCount_11 : decode cX13_instructionCount 11 = .ok (.ireturn, 1) := by decide +kernel
set_option maxRecDepth 20000 in
theorem ggX13_engines_X13_setting : GoodIn wsX13_engines wsX13_setting := goodIn_r _ [6, 7, 8, 9, 10, 11, 12, 13, 14, 15, 16, 17, 18, 19, 20, 21, 22, 23, 24, 25, 26, 27, 28, 29, 30, 31, 32, 33, 34, 35, 36, 37, 38, 39, 40, 41, 42, 43, 44, 45, 46, 47, 48, 49, 50, 51, 52, 53, 54] (by decide +kernel) (by decide +kernel)
set_option maxRecDepth 20000 in
theorem gX13_engines_X13_setting : GoodIn wsX13_engines (wsV RX13 249 RX13 yX13_setting wsX13_setting) := goodIn_app (goodIn_of _ (by decide +kernel)) ggX13_engines_X13_setting
theorem dX13_engines_0 : decode cX13_engines 0 = .ok (.aload_n 0, 1) := by decide +kernel
theorem dX13_engines_1 : decode cX13_engines 1 = .ok (.iconst 0, 1) := by decide +kernel
theorem dX13_engines_2 : decode cX13_engines 2 = .ok (.putfield 231, 3) := by decide +kernel
theorem dX13_engines_5 : decode cX13_engines 5 = .ok (.iconst 0, 1) := by decide +kernel
theorem dX13_engines_6 : decode cX13_engines 6 = .ok (.istore_n 1, 1) := by decide +kernel
theorem dX13_engines_7 : decode cX13_engines 7 = .ok (.iconst 0, 1) := by decide +kernel
theorem dX13_engines_8 : decode cX13_engines 8 = .ok (.istore_n 2, 1) := by decide +kernel
theorem dX13_engines_9 : decode cX13_engines 9 = .ok (.iload_n 2, 1) := by decide +kernel
theorem dX13_engines_10 : decode cX13_engines 10 = .ok (.iconst 4, 1) := by decide +kernel
theorem dX13_engines_11 : decode cX13_engines 11 = .ok (.if_icmp .ge 20, 3) := by decide +kernel
theorem dX13_engines_14 : decode cX13_engines 14 = .ok (.iload_n 1, 1) := by decide +kernel
theorem dX13_engines_15 : decode cX13_engines 15 = .ok (.aload_n 0, 1) := by decide +kernel
theorem dX13_engines_16 : decode cX13_engines 16 = .ok (.iload_n 2, 1) := by decide +kernel
theorem dX13_engines_17 : decode cX13_engines 17 = .ok (.iconst 0, 1) := by decide +kernel
theorem dX13_engines_18 : decode cX13_engines 18 = .ok (.invokevirtual 249, 3) := by decide +kernel
theorem dX13_engines_21 : decode cX13_engines 21 = .ok (.iload_n 2, 1) := by decide +kernel
theorem dX13_engines_22 : decode cX13_engines 22 = .ok (.ishl, 1) := by decide +kernel
theorem dX13_engines_23 : decode cX13_engines 23 = .ok (.ior, 1) := by decide +kernel
theorem dX13_engines_24 : decode cX13_engines 24 = .ok (.istore_n 1, 1) := by decide +kernel
theorem dX13_engines_25 : decode cX13_engines 25 = .ok (.iinc 2 1, 3) := by decide +kernel
theorem dX13_engines_28 : decode cX13_engines 28 = .ok (.goto (-19), 3) := by decide +kernel
theorem dX13_engines_31 : decode cX13_engines 31 = .ok (.iload_n 1, 1) := by decide +kernel
theorem dX13_engines_32 : decode cX13_engines 32 = .ok (.ireturn, 1) := by decide +kernel
theorem dX13_clock_0 : decode cX13_clock 0 = .ok (.aload_n 0, 1) := by decide +kernel
theorem dX13_clock_1 : decode cX13_clock 1 = .ok (.iconst 0, 1) := by decide +kernel
theorem dX13_clock_2 : decode cX13_clock 2 = .ok (.putfield 231, 3) := by decide +kernel
theorem dX13_clock_5 : decode cX13_clock 5 = .ok (.aload_n 0, 1) := by decide +kernel
theorem dX13_clock_6 : decode cX13_clock 6 = .ok (.getfield 9, 3) := by decide +kernel
theorem dX13_clock_9 : decode cX13_clock 9 = .ok (.iconst 1, 1) := by decide +kernel
theorem dX13_clock_10 : decode cX13_clock 10 = .ok (.iaload, 1) := by decide +kernel
theorem dX13_clock_11 : decode cX13_clock 11 = .ok (.ireturn, 1) := by decide +kernel
set_option maxRecDepth 20000 in
theorem ggX13_levelOf_X13_ofPin : GoodIn wsX13_levelOf wsX13_ofPin := goodIn_r _ [5, 6, 7, 8, 9, 10, 11, 12, 13, 14, 15, 16, 17, 18, 19, 20, 21, 22, 23, 24, 25, 26, 27, 28, 29, 30, 31, 32, 33, 34, 35, 36, 37, 38, 39, 40, 41, 42, 43, 44, 45, 46, 47, 48, 49, 50, 51, 52, 53] (by decide +kernel) (by decide +kernel)
set_option maxRecDepth 20000 in
theorem gX13_levelOf_X13_ofPin : GoodIn wsX13_levelOf (wsV RX13 252 RX13 yX13_ofPin wsX13_ofPin) := goodIn_app (goodIn_of _ (by decide +kernel)) ggX13_levelOf_X13_ofPin
theorem dX13_levelOf_0 : decode cX13_levelOf 0 = .ok (.aload_n 0, 1) := by decide +kernel
theorem dX13_levelOf_1 : decode cX13_levelOf 1 = .ok (.iload_n 1, 1) := by decide +kernel
theorem dX13_levelOf_2 : decode cX13_levelOf 2 = .ok (.aload_n 0, 1) := by decide +kernel
theorem dX13_levelOf_3 : decode cX13_levelOf 3 = .ok (.iload_n 1, 1) := by decide +kernel
theorem dX13_levelOf_4 : decode cX13_levelOf 4 = .ok (.iconst 1, 1) := by decide +kernel
theorem dX13_levelOf_5 : decode cX13_levelOf 5 = .ok (.invokevirtual 252, 3) := by decide +kernel
theorem dX13_levelOf_8 : decode cX13_levelOf 8 = .ok (.iconst 1, 1) := by decide +kernel
theorem dX13_levelOf_9 : decode cX13_levelOf 9 = .ok (.if_icmp .ne 7, 3) := by decide +kernel
theorem dX13_levelOf_12 : decode cX13_levelOf 12 = .ok (.iconst 0, 1) := by decide +kernel
theorem dX13_levelOf_13 : decode cX13_levelOf 13 = .ok (.goto 4, 3) := by decide +kernel
theorem dX13_levelOf_16 : decode cX13_levelOf 16 = .ok (.iconst 2, 1) := by decide +kernel
theorem dX13_levelOf_17 : decode cX13_levelOf 17 = .ok (.invokevirtual 252, 3) := by decide +kernel
theorem dX13_levelOf_20 : decode cX13_levelOf 20 = .ok (.ireturn, 1) := by decide +kernel
set_option maxRecDepth 20000 in
theorem ggX13_level_X13_isPin : GoodIn wsX13_level wsX13_isPin := goodIn_r _ [5, 6, 7, 4, 8] (by decide +kernel) (by decide +kernel)
set_option maxRecDepth 20000 in
theorem gX13_level_X13_isPin : GoodIn wsX13_level (va_wsS RX13 255 yX13_isPin wsX13_isPin) := goodIn_app (goodIn_of _ (by decide +kernel)) ggX13_level_X13_isPin
set_option maxRecDepth 20000 in
theorem ggX13_level_X13_raise : GoodIn wsX13_level wsX13_raise := goodIn_r _ [12, 1, 22, 23, 24, 25, 26, 27, 28, 29, 30, 31, 32, 33, 34, 35, 36, 37, 38, 39, 40, 41, 42, 43, 44, 45, 46, 47, 48, 49, 50, 51, 52, 53, 54, 55, 56, 57, 58, 59, 60, 61, 62, 63, 64, 65, 66, 67, 68] (by decide +kernel) (by decide +kernel)
set_option maxRecDepth 20000 in
theorem gX13_level_X13_raise : GoodIn wsX13_level (wsV RX13 259 RX13 yX13_raise wsX13_raise) := goodIn_app (goodIn_of _ (by decide +kernel)) ggX13_level_X13_raise
set_option maxRecDepth 20000 in
theorem ggX13_level_X13_levelOf : GoodIn wsX13_level wsX13_levelOf := goodIn_r _ [16, 17, 18, 19, 4, 20, 21, 22, 23, 24, 25, 26, 27, 28, 29, 30, 31, 32, 33, 34, 35, 36, 37, 38, 39, 40, 41, 42, 43, 44, 45, 46, 47, 48, 49, 50, 51, 52, 53, 54, 55, 56, 57, 58, 59, 60, 61, 62, 63, 64, 65, 66, 67, 68] (by decide +kernel) (by decide +kernel)
set_option maxRecDepth 20000 in
theorem gX13_level_X13_levelOf : GoodIn wsX13_level (wsV RX13 262 RX13 yX13_levelOf wsX13_levelOf) := goodIn_app (goodIn_of _ (by decide +kernel)) ggX13_level_X13_levelOf
theorem dX13_level_0 : decode cX13_level 0 = .ok (.aload_n 0, 1) := by decide +kernel
theorem dX13_level_1 : decode cX13_level 1 = .ok (.iconst 0, 1) := by decide +kernel
theorem dX13_level_2 : decode cX13_level 2 = .ok (.putfield 231, 3) := by decide +kernel
theorem dX13_level_5 : decode cX13_level 5 = .ok (.iload_n 1, 1) := by decide +kernel
theorem dX13_level_6 : decode cX13_level 6 = .ok (.invokestatic 255, 3) := by decide +kernel
theorem dX13_level_9 : decode cX13_level 9 = .ok (.ifCond .ne 9, 3) := by decide +kernel
theorem dX13_level_12 : decode cX13_level 12 = .ok (.aload_n 0, 1) := by decide +kernel
theorem dX13_level_13 : decode cX13_level 13 = .ok (.iconst 1, 1) := by decide +kernel
theorem dX13_level_14 : decode cX13_level 14 = .ok (.invokevirtual 259, 3) := by decide +kernel
theorem dX13_level_17 : decode cX13_level 17 = .ok (.ireturn, 1) := by decide +kernel
theorem dX13_level_18 : decode cX13_level 18 = .ok (.aload_n 0, 1) := by decide +kernel
theorem dX13_level_19 : decode cX13_level 19 = .ok (.iload_n 1, 1) := by decide +kernel
theorem dX13_level_20 : decode cX13_level 20 = .ok (.invokevirtual 262, 3) := by decide +kernel
theorem dX13_level_23 : decode cX13_level 23 = .ok (.ireturn, 1) := by decide +kernel
set_option maxRecDepth 20000 in
theorem ggX13_tellPin_X13_isPin : GoodIn wsX13_tellPin wsX13_isPin := goodIn_r _ [5, 6, 7, 4, 8] (by decide +kernel) (by decide +kernel)
set_option maxRecDepth 20000 in
theorem gX13_tellPin_X13_isPin : GoodIn wsX13_tellPin (va_wsS RX13 255 yX13_isPin wsX13_isPin) := goodIn_app (goodIn_of _ (by decide +kernel)) ggX13_tellPin_X13_isPin
set_option maxRecDepth 20000 in
theorem ggX13_tellPin_X13_raise : GoodIn wsX13_tellPin wsX13_raise := goodIn_r _ [12, 1, 18, 19, 20, 21, 22, 23, 24, 25, 26, 27, 28, 29, 30, 31, 32, 33, 34, 35, 36, 37, 38, 39, 40, 41, 42, 43, 44, 45, 46, 47, 48, 49, 50, 51, 52, 53, 54, 55, 56, 57, 58, 59, 60, 61, 62, 63, 64] (by decide +kernel) (by decide +kernel)
set_option maxRecDepth 20000 in
theorem gX13_tellPin_X13_raise : GoodIn wsX13_tellPin (wsV RX13 259 RX13 yX13_raise wsX13_raise) := goodIn_app (goodIn_of _ (by decide +kernel)) ggX13_tellPin_X13_raise
set_option maxRecDepth 20000 in
theorem ggX13_tellPin_X13_ofPin : GoodIn wsX13_tellPin wsX13_ofPin := goodIn_r _ [16, 17, 18, 19, 20, 21, 22, 23, 24, 25, 26, 27, 28, 29, 30, 31, 32, 33, 34, 35, 36, 37, 38, 39, 40, 41, 42, 43, 44, 45, 46, 47, 48, 49, 50, 51, 52, 53, 54, 55, 56, 57, 58, 59, 60, 61, 62, 63, 64] (by decide +kernel) (by decide +kernel)
set_option maxRecDepth 20000 in
theorem gX13_tellPin_X13_ofPin : GoodIn wsX13_tellPin (wsV RX13 252 RX13 yX13_ofPin wsX13_ofPin) := goodIn_app (goodIn_of _ (by decide +kernel)) ggX13_tellPin_X13_ofPin
theorem dX13_tellPin_0 : decode cX13_tellPin 0 = .ok (.aload_n 0, 1) := by decide +kernel
theorem dX13_tellPin_1 : decode cX13_tellPin 1 = .ok (.iconst 0, 1) := by decide +kernel
theorem dX13_tellPin_2 : decode cX13_tellPin 2 = .ok (.putfield 231, 3) := by decide +kernel
theorem dX13_tellPin_5 : decode cX13_tellPin 5 = .ok (.iload_n 1, 1) := by decide +kernel
theorem dX13_tellPin_6 : decode cX13_tellPin 6 = .ok (.invokestatic 255, 3) := by decide +kernel
theorem dX13_tellPin_9 : decode cX13_tellPin 9 = .ok (.ifCond .ne 9, 3) := by decide +kernel
theorem dX13_tellPin_12 : decode cX13_tellPin 12 = .ok (.aload_n 0, 1) := by decide +kernel
theorem dX13_tellPin_13 : decode cX13_tellPin 13 = .ok (.iconst 1, 1) := by decide +kernel
theorem dX13_tellPin_14 : decode cX13_tellPin 14 = .ok (.invokevirtual 259, 3) := by decide +kernel
theorem dX13_tellPin_17 : decode cX13_tellPin 17 = .ok (.ireturn, 1) := by decide +kernel
theorem dX13_tellPin_18 : decode cX13_tellPin 18 = .ok (.aload_n 0, 1) := by decide +kernel
theorem dX13_tellPin_19 : decode cX13_tellPin 19 = .ok (.iload_n 1, 1) := by decide +kernel
theorem dX13_tellPin_20 : decode cX13_tellPin 20 = .ok (.iload_n 2, 1) := by decide +kernel
theorem dX13_tellPin_21 : decode cX13_tellPin 21 = .ok (.invokevirtual 252, 3) := by decide +kernel
theorem dX13_tellPin_24 : decode cX13_tellPin 24 = .ok (.ireturn, 1) := by decide +kernel
set_option maxRecDepth 20000 in
theorem ggX13_latch_X13_tellPin : GoodIn wsX13_latch wsX13_tellPin := goodIn_r _ [5, 6, 7, 8, 4, 9, 10, 11, 12, 13, 14, 15, 16, 17, 18, 19, 20, 21, 22, 23, 24, 25, 26, 27, 28, 29, 30, 31, 32, 33, 34, 35, 36, 37, 38, 39, 40, 41, 42, 43, 44, 45, 46, 47, 48, 49, 50, 51, 52, 53, 54, 55, 56, 57, 58, 59, 60, 61, 62, 63, 64, 65, 66, 67, 68] (by decide +kernel) (by decide +kernel)
set_option maxRecDepth 20000 in
theorem gX13_latch_X13_tellPin : GoodIn wsX13_latch (wsV RX13 265 RX13 yX13_tellPin wsX13_tellPin) := goodIn_app (goodIn_of _ (by decide +kernel)) ggX13_latch_X13_tellPin
theorem dX13_latch_0 : decode cX13_latch 0 = .ok (.aload_n 0, 1) := by decide +kernel
theorem dX13_latch_1 : decode cX13_latch 1 = .ok (.iload_n 1, 1) := by decide +kernel
theorem dX13_latch_2 : decode cX13_latch 2 = .ok (.iconst 0, 1) := by decide +kernel
theorem dX13_latch_3 : decode cX13_latch 3 = .ok (.invokevirtual 265, 3) := by decide +kernel
theorem dX13_latch_6 : decode cX13_latch 6 = .ok (.ireturn, 1) := by decide +kernel
set_option maxRecDepth 20000 in
theorem ggX13_isOutput_X13_tellPin : GoodIn wsX13_isOutput wsX13_tellPin := goodIn_r _ [5, 6, 7, 8, 4, 9, 10, 11, 12, 13, 14, 15, 16, 17, 18, 19, 20, 21, 22, 23, 24, 25, 26, 27, 28, 29, 30, 31, 32, 33, 34, 35, 36, 37, 38, 39, 40, 41, 42, 43, 44, 45, 46, 47, 48, 49, 50, 51, 52, 53, 54, 55, 56, 57, 58, 59, 60, 61, 62, 63, 64, 65, 66, 67, 68] (by decide +kernel) (by decide +kernel)
set_option maxRecDepth 20000 in
theorem gX13_isOutput_X13_tellPin : GoodIn wsX13_isOutput (wsV RX13 265 RX13 yX13_tellPin wsX13_tellPin) := goodIn_app (goodIn_of _ (by decide +kernel)) ggX13_isOutput_X13_tellPin
theorem dX13_isOutput_0 : decode cX13_isOutput 0 = .ok (.aload_n 0, 1) := by decide +kernel
theorem dX13_isOutput_1 : decode cX13_isOutput 1 = .ok (.iload_n 1, 1) := by decide +kernel
theorem dX13_isOutput_2 : decode cX13_isOutput 2 = .ok (.iconst 1, 1) := by decide +kernel
theorem dX13_isOutput_3 : decode cX13_isOutput 3 = .ok (.invokevirtual 265, 3) := by decide +kernel
theorem dX13_isOutput_6 : decode cX13_isOutput 6 = .ok (.iconst 1, 1) := by decide +kernel
theorem dX13_isOutput_7 : decode cX13_isOutput 7 = .ok (.if_icmp .ne 7, 3) := by decide +kernel
theorem dX13_isOutput_10 : decode cX13_isOutput 10 = .ok (.iconst 1, 1) := by decide +kernel
theorem dX13_isOutput_11 : decode cX13_isOutput 11 = .ok (.goto 4, 3) := by decide +kernel
theorem dX13_isOutput_14 : decode cX13_isOutput 14 = .ok (.iconst 0, 1) := by decide +kernel
theorem dX13_isOutput_15 : decode cX13_isOutput 15 = .ok (.ireturn, 1) := by decide +kernel
set_option maxRecDepth 20000 in
theorem ggX13_flag_X13_inRange : GoodIn wsX13_flag wsX13_inRange := goodIn_r _ [6] (by decide +kernel) (by decide +kernel)
set_option maxRecDepth 20000 in
theorem gX13_flag_X13_inRange : GoodIn wsX13_flag (va_wsS RX13 245 yX13_inRange wsX13_inRange) := goodIn_app (goodIn_of _ (by decide +kernel)) ggX13_flag_X13_inRange
set_option maxRecDepth 20000 in
theorem ggX13_flag_X13_raise : GoodIn wsX13_flag wsX13_raise := goodIn_r _ [10, 1, 11, 12, 13, 14, 15, 16, 17, 18, 19, 20, 21, 22, 23, 24, 25, 26, 27, 28, 29, 30, 31, 32, 33, 34, 35, 36, 37, 38, 39, 40, 41, 42, 43, 44, 45, 46, 47, 48, 49, 50, 51, 52, 53, 54, 55, 56, 57] (by decide +kernel) (by decide +kernel)
set_option maxRecDepth 20000 in
theorem gX13_flag_X13_raise : GoodIn wsX13_flag (wsV RX13 259 RX13 yX13_raise wsX13_raise) := goodIn_app (goodIn_of _ (by decide +kernel)) ggX13_flag_X13_raise
theorem dX13_flag_0 : decode cX13_flag 0 = .ok (.aload_n 0, 1) := by decide +kernel
theorem dX13_flag_1 : decode cX13_flag 1 = .ok (.iconst 0, 1) := by decide +kernel
theorem dX13_flag_2 : decode cX13_flag 2 = .ok (.putfield 231, 3) := by decide +kernel
theorem dX13_flag_5 : decode cX13_flag 5 = .ok (.iload_n 1, 1) := by decide +kernel
theorem dX13_flag_6 : decode cX13_flag 6 = .ok (.iconst 0, 1) := by decide +kernel
theorem dX13_flag_7 : decode cX13_flag 7 = .ok (.bipush 7, 2) := by decide +kernel
theorem dX13_flag_9 : decode cX13_flag 9 = .ok (.invokestatic 245, 3) := by decide +kernel
theorem dX13_flag_12 : decode cX13_flag 12 = .ok (.ifCond .ne 9, 3) := by decide +kernel
theorem dX13_flag_15 : decode cX13_flag 15 = .ok (.aload_n 0, 1) := by decide +kernel
theorem dX13_flag_16 : decode cX13_flag 16 = .ok (.iconst 1, 1) := by decide +kernel
theorem dX13_flag_17 : decode cX13_flag 17 = .ok (.invokevirtual 259, 3) := by decide +kernel
theorem dX13_flag_20 : decode cX13_flag 20 = .ok (.ireturn, 1) := by decide +kernel
theorem dX13_flag_21 : decode cX13_flag 21 = .ok (.aload_n 0, 1) := by decide +kernel
theorem dX13_flag_22 : decode cX13_flag 22 = .ok (.getfield 9, 3) := by decide +kernel
theorem dX13_flag_25 : decode cX13_flag 25 = .ok (.bipush 100, 2) := by decide +kernel
theorem dX13_flag_27 : decode cX13_flag 27 = .ok (.iload_n 1, 1) := by decide +kernel
theorem dX13_flag_28 : decode cX13_flag 28 = .ok (.iadd, 1) := by decide +kernel
theorem dX13_flag_29 : decode cX13_flag 29 = .ok (.iaload, 1) := by decide +kernel
theorem dX13_flag_30 : decode cX13_flag 30 = .ok (.ireturn, 1) := by decide +kernel
set_option maxRecDepth 20000 in
theorem ggX13_memory_X13_inRange : GoodIn wsX13_memory wsX13_inRange := goodIn_r _ [6] (by decide +kernel) (by decide +kernel)
set_option maxRecDepth 20000 in
theorem gX13_memory_X13_inRange : GoodIn wsX13_memory (va_wsS RX13 245 yX13_inRange wsX13_inRange) := goodIn_app (goodIn_of _ (by decide +kernel)) ggX13_memory_X13_inRange
set_option maxRecDepth 20000 in
theorem ggX13_memory_X13_raise : GoodIn wsX13_memory wsX13_raise := goodIn_r _ [10, 1, 11, 12, 13, 14, 15, 16, 17, 18, 19, 20, 21, 22, 23, 24, 25, 26, 27, 28, 29, 30, 31, 32, 33, 34, 35, 36, 37, 38, 39, 40, 41, 42, 43, 44, 45, 46, 47, 48, 49, 50, 51, 52, 53, 54, 55, 56, 57] (by decide +kernel) (by decide +kernel)
set_option maxRecDepth 20000 in
theorem gX13_memory_X13_raise : GoodIn wsX13_memory (wsV RX13 259 RX13 yX13_raise wsX13_raise) := goodIn_app (goodIn_of _ (by decide +kernel)) ggX13_memory_X13_raise
theorem dX13_memory_0 : decode cX13_memory 0 = .ok (.aload_n 0, 1) := by decide +kernel
theorem dX13_memory_1 : decode cX13_memory 1 = .ok (.iconst 0, 1) := by decide +kernel
theorem dX13_memory_2 : decode cX13_memory 2 = .ok (.putfield 231, 3) := by decide +kernel
theorem dX13_memory_5 : decode cX13_memory 5 = .ok (.iload_n 1, 1) := by decide +kernel
theorem dX13_memory_6 : decode cX13_memory 6 = .ok (.iconst 0, 1) := by decide +kernel
theorem dX13_memory_7 : decode cX13_memory 7 = .ok (.bipush 15, 2) := by decide +kernel
theorem dX13_memory_9 : decode cX13_memory 9 = .ok (.invokestatic 245, 3) := by decide +kernel
theorem dX13_memory_12 : decode cX13_memory 12 = .ok (.ifCond .ne 9, 3) := by decide +kernel
theorem dX13_memory_15 : decode cX13_memory 15 = .ok (.aload_n 0, 1) := by decide +kernel
theorem dX13_memory_16 : decode cX13_memory 16 = .ok (.iconst 1, 1) := by decide +kernel
theorem dX13_memory_17 : decode cX13_memory 17 = .ok (.invokevirtual 259, 3) := by decide +kernel
theorem dX13_memory_20 : decode cX13_memory 20 = .ok (.ireturn, 1) := by decide +kernel
theorem dX13_memory_21 : decode cX13_memory 21 = .ok (.aload_n 0, 1) := by decide +kernel
theorem dX13_memory_22 : decode cX13_memory 22 = .ok (.getfield 9, 3) := by decide +kernel
theorem dX13_memory_25 : decode cX13_memory 25 = .ok (.bipush 108, 2) := by decide +kernel
theorem dX13_memory_27 : decode cX13_memory 27 = .ok (.iload_n 1, 1) := by decide +kernel
theorem dX13_memory_28 : decode cX13_memory 28 = .ok (.iadd, 1) := by decide +kernel
theorem dX13_memory_29 : decode cX13_memory 29 = .ok (.iaload, 1) := by decide +kernel
theorem dX13_memory_30 : decode cX13_memory 30 = .ok (.ireturn, 1) := by decide +kernel
theorem dX13_portOwner_0 : decode cX13_portOwner 0 = .ok (.aload_n 0, 1) := by decide +kernel
theorem dX13_portOwner_1 : decode cX13_portOwner 1 = .ok (.iconst 0, 1) := by decide +kernel
theorem dX13_portOwner_2 : decode cX13_portOwner 2 = .ok (.putfield 231, 3) := by decide +kernel
theorem dX13_portOwner_5 : decode cX13_portOwner 5 = .ok (.aload_n 0, 1) := by decide +kernel
theorem dX13_portOwner_6 : decode cX13_portOwner 6 = .ok (.getfield 9, 3) := by decide +kernel
theorem dX13_portOwner_9 : decode cX13_portOwner 9 = .ok (.iconst 2, 1) := by decide +kernel
theorem dX13_portOwner_10 : decode cX13_portOwner 10 = .ok (.iaload, 1) := by decide +kernel
theorem dX13_portOwner_11 : decode cX13_portOwner 11 = .ok (.ireturn, 1) := by decide +kernel
set_option maxRecDepth 20000 in
theorem ggX13_tell_X13_exists : GoodIn wsX13_tell wsX13_exists := goodIn_r _ [6, 7, 8, 5, 9, 10, 11, 12, 13, 14, 23, 24, 25, 26, 27, 28, 29, 30, 31, 32, 33, 34, 35, 36, 37, 38, 39, 40, 41, 42, 43, 44, 45, 46, 47, 48, 49, 50, 51, 52, 53, 54, 55, 56, 57, 58, 59, 60, 61, 62, 63, 64, 65, 66, 67, 68, 69] (by decide +kernel) (by decide +kernel)
set_option maxRecDepth 20000 in
theorem gX13_tell_X13_exists : GoodIn wsX13_tell (wsV RX13 268 RX13 yX13_exists wsX13_exists) := goodIn_app (goodIn_of _ (by decide +kernel)) ggX13_tell_X13_exists
set_option maxRecDepth 20000 in
theorem ggX13_tell_X13_raise : GoodIn wsX13_tell wsX13_raise := goodIn_r _ [18, 1, 23, 24, 25, 26, 27, 28, 29, 30, 31, 32, 33, 34, 35, 36, 37, 38, 39, 40, 41, 42, 43, 44, 45, 46, 47, 48, 49, 50, 51, 52, 53, 54, 55, 56, 57, 58, 59, 60, 61, 62, 63, 64, 65, 66, 67, 68, 69] (by decide +kernel) (by decide +kernel)
set_option maxRecDepth 20000 in
theorem gX13_tell_X13_raise : GoodIn wsX13_tell (wsV RX13 259 RX13 yX13_raise wsX13_raise) := goodIn_app (goodIn_of _ (by decide +kernel)) ggX13_tell_X13_raise
set_option maxRecDepth 20000 in
theorem ggX13_tell_X13_of : GoodIn wsX13_tell wsX13_of := goodIn_r _ [22, 14, 23, 24, 25, 26, 27, 28, 29, 30, 31, 32, 33, 34, 35, 36, 37, 38, 39, 40, 41, 42, 43, 44, 45, 46, 47, 48, 49, 50, 51, 52, 53, 54, 55, 56, 57, 58, 59, 60, 61, 62, 63, 64, 65, 66, 67, 68, 69] (by decide +kernel) (by decide +kernel)
set_option maxRecDepth 20000 in
theorem gX13_tell_X13_of : GoodIn wsX13_tell (wsV RX13 238 RX13 yX13_of wsX13_of) := goodIn_app (goodIn_of _ (by decide +kernel)) ggX13_tell_X13_of
theorem dX13_tell_0 : decode cX13_tell 0 = .ok (.aload_n 0, 1) := by decide +kernel
theorem dX13_tell_1 : decode cX13_tell 1 = .ok (.iconst 0, 1) := by decide +kernel
theorem dX13_tell_2 : decode cX13_tell 2 = .ok (.putfield 231, 3) := by decide +kernel
theorem dX13_tell_5 : decode cX13_tell 5 = .ok (.aload_n 0, 1) := by decide +kernel
theorem dX13_tell_6 : decode cX13_tell 6 = .ok (.iload_n 1, 1) := by decide +kernel
theorem dX13_tell_7 : decode cX13_tell 7 = .ok (.invokevirtual 268, 3) := by decide +kernel
theorem dX13_tell_10 : decode cX13_tell 10 = .ok (.ifCond .ne 9, 3) := by decide +kernel
theorem dX13_tell_13 : decode cX13_tell 13 = .ok (.aload_n 0, 1) := by decide +kernel
theorem dX13_tell_14 : decode cX13_tell 14 = .ok (.iconst 1, 1) := by decide +kernel
theorem dX13_tell_15 : decode cX13_tell 15 = .ok (.invokevirtual 259, 3) := by decide +kernel
theorem dX13_tell_18 : decode cX13_tell 18 = .ok (.ireturn, 1) := by decide +kernel
theorem dX13_tell_19 : decode cX13_tell 19 = .ok (.aload_n 0, 1) := by decide +kernel
theorem dX13_tell_20 : decode cX13_tell 20 = .ok (.iload_n 1, 1) := by decide +kernel
theorem dX13_tell_21 : decode cX13_tell 21 = .ok (.iload_n 2, 1) := by decide +kernel
theorem dX13_tell_22 : decode cX13_tell 22 = .ok (.invokevirtual 238, 3) := by decide +kernel
theorem dX13_tell_25 : decode cX13_tell 25 = .ok (.ireturn, 1) := by decide +kernel
set_option maxRecDepth 20000 in
theorem ggX13_pc_X13_tell : GoodIn wsX13_pc wsX13_tell := goodIn_r _ [5, 6, 7, 8, 9, 4, 10, 11, 12, 13, 14, 15, 16, 17, 18, 19, 20, 21, 22, 23, 24, 25, 26, 27, 28, 29, 30, 31, 32, 33, 34, 35, 36, 37, 38, 39, 40, 41, 42, 43, 44, 45, 46, 47, 48, 49, 50, 51, 52, 53, 54, 55, 56, 57, 58, 59, 60, 61, 62, 63, 64, 65, 66, 67, 68, 69, 70, 71, 72, 73] (by decide +kernel) (by decide +kernel)
set_option maxRecDepth 20000 in
theorem gX13_pc_X13_tell : GoodIn wsX13_pc (wsV RX13 271 RX13 yX13_tell wsX13_tell) := goodIn_app (goodIn_of _ (by decide +kernel)) ggX13_pc_X13_tell
theorem dX13_pc_0 : decode cX13_pc 0 = .ok (.aload_n 0, 1) := by decide +kernel
theorem dX13_pc_1 : decode cX13_pc 1 = .ok (.iload_n 1, 1) := by decide +kernel
theorem dX13_pc_2 : decode cX13_pc 2 = .ok (.iconst 1, 1) := by decide +kernel
theorem dX13_pc_3 : decode cX13_pc 3 = .ok (.invokevirtual 271, 3) := by decide +kernel
theorem dX13_pc_6 : decode cX13_pc 6 = .ok (.ireturn, 1) := by decide +kernel
set_option maxRecDepth 20000 in
theorem ggX13_register_X13_exists : GoodIn wsX13_register wsX13_exists := goodIn_r _ [6, 7, 8, 5, 9, 10, 11, 12, 13, 14, 23, 24, 25, 26, 27, 28, 29, 30, 31, 32, 33, 34, 35, 36, 37, 38, 39, 40, 41, 42, 43, 44, 45, 46, 47, 48, 49, 50, 51, 52, 53, 54, 55, 56, 57, 58, 59, 60, 61, 62, 63, 64, 65, 66, 67, 68, 69] (by decide +kernel) (by decide +kernel)
set_option maxRecDepth 20000 in
theorem gX13_register_X13_exists : GoodIn wsX13_register (wsV RX13 268 RX13 yX13_exists wsX13_exists) := goodIn_app (goodIn_of _ (by decide +kernel)) ggX13_register_X13_exists
set_option maxRecDepth 20000 in
theorem ggX13_register_X13_inRange : GoodIn wsX13_register wsX13_inRange := goodIn_r _ [9] (by decide +kernel) (by decide +kernel)
set_option maxRecDepth 20000 in
theorem gX13_register_X13_inRange : GoodIn wsX13_register (va_wsS RX13 245 yX13_inRange wsX13_inRange) := goodIn_app (goodIn_of _ (by decide +kernel)) ggX13_register_X13_inRange
set_option maxRecDepth 20000 in
theorem ggX13_register_X13_raise : GoodIn wsX13_register wsX13_raise := goodIn_r _ [18, 1, 23, 24, 25, 26, 27, 28, 29, 30, 31, 32, 33, 34, 35, 36, 37, 38, 39, 40, 41, 42, 43, 44, 45, 46, 47, 48, 49, 50, 51, 52, 53, 54, 55, 56, 57, 58, 59, 60, 61, 62, 63, 64, 65, 66, 67, 68, 69] (by decide +kernel) (by decide +kernel)
set_option maxRecDepth 20000 in
theorem gX13_register_X13_raise : GoodIn wsX13_register (wsV RX13 259 RX13 yX13_raise wsX13_raise) := goodIn_app (goodIn_of _ (by decide +kernel)) ggX13_register_X13_raise
set_option maxRecDepth 20000 in
theorem ggX13_register_X13_of : GoodIn wsX13_register wsX13_of := goodIn_r _ [22, 14, 23, 24, 25, 26, 27, 28, 29, 30, 31, 32, 33, 34, 35, 36, 37, 38, 39, 40, 41, 42, 43, 44, 45, 46, 47, 48, 49, 50, 51, 52, 53, 54, 55, 56, 57, 58, 59, 60, 61, 62, 63, 64, 65, 66, 67, 68, 69] (by decide +kernel) (by decide +kernel)
set_option maxRecDepth 20000 in
theorem gX13_register_X13_of : GoodIn wsX13_register (wsV RX13 238 RX13 yX13_of wsX13_of) := goodIn_app (goodIn_of _ (by decide +kernel)) ggX13_register_X13_of
theorem dX13_register_0 : decode cX13_register 0 = .ok (.aload_n 0, 1) := by decide +kernel
theorem dX13_register_1 : decode cX13_register 1 = .ok (.iconst 0, 1) := by decide +kernel
theorem dX13_register_2 : decode cX13_register 2 = .ok (.putfield 231, 3) := by decide +kernel
theorem dX13_register_5 : decode cX13_register 5 = .ok (.aload_n 0, 1) := by decide +kernel
theorem dX13_register_6 : decode cX13_register 6 = .ok (.iload_n 1, 1) := by decide +kernel
theorem dX13_register_7 : decode cX13_register 7 = .ok (.invokevirtual 268, 3) := by decide +kernel
theorem dX13_register_10 : decode cX13_register 10 = .ok (.ifCond .eq 12, 3) := by decide +kernel
theorem dX13_register_13 : decode cX13_register 13 = .ok (.iload_n 2, 1) := by decide +kernel
theorem dX13_register_14 : decode cX13_register 14 = .ok (.iconst 0, 1) := by decide +kernel
theorem dX13_register_15 : decode cX13_register 15 = .ok (.iconst 3, 1) := by decide +kernel
theorem dX13_register_16 : decode cX13_register 16 = .ok (.invokestatic 245, 3) := by decide +kernel
theorem dX13_register_19 : decode cX13_register 19 = .ok (.ifCond .ne 9, 3) := by decide +kernel
theorem dX13_register_22 : decode cX13_register 22 = .ok (.aload_n 0, 1) := by decide +kernel
theorem dX13_register_23 : decode cX13_register 23 = .ok (.iconst 1, 1) := by decide +kernel
theorem dX13_register_24 : decode cX13_register 24 = .ok (.invokevirtual 259, 3) := by decide +kernel
theorem dX13_register_27 : decode cX13_register 27 = .ok (.ireturn, 1) := by decide +kernel
theorem dX13_register_28 : decode cX13_register 28 = .ok (.aload_n 0, 1) := by decide +kernel
theorem dX13_register_29 : decode cX13_register 29 = .ok (.iload_n 1, 1) := by decide +kernel
theorem dX13_register_30 : decode cX13_register 30 = .ok (.iconst 2, 1) := by decide +kernel
theorem dX13_register_31 : decode cX13_register 31 = .ok (.iload_n 2, 1) := by decide +kernel
theorem dX13_register_32 : decode cX13_register 32 = .ok (.iadd, 1) := by decide +kernel
theorem dX13_register_33 : decode cX13_register 33 = .ok (.invokevirtual 238, 3) := by decide +kernel
theorem dX13_register_36 : decode cX13_register 36 = .ok (.ireturn, 1) := by decide +kernel
set_option maxRecDepth 20000 in
theorem ggX13_fill_X13_tell : GoodIn wsX13_fill wsX13_tell := goodIn_r _ [5, 6, 7, 8, 9, 4, 10, 11, 12, 13, 14, 15, 16, 17, 18, 19, 20, 21, 22, 23, 24, 25, 26, 27, 28, 29, 30, 31, 32, 33, 34, 35, 36, 37, 38, 39, 40, 41, 42, 43, 44, 45, 46, 47, 48, 49, 50, 51, 52, 53, 54, 55, 56, 57, 58, 59, 60, 61, 62, 63, 64, 65, 66, 67, 68, 69, 70, 71, 72, 73] (by decide +kernel) (by decide +kernel)
set_option maxRecDepth 20000 in
theorem gX13_fill_X13_tell : GoodIn wsX13_fill (wsV RX13 271 RX13 yX13_tell wsX13_tell) := goodIn_app (goodIn_of _ (by decide +kernel)) ggX13_fill_X13_tell
theorem dX13_fill_0 : decode cX13_fill 0 = .ok (.aload_n 0, 1) := by decide +kernel
theorem dX13_fill_1 : decode cX13_fill 1 = .ok (.iload_n 1, 1) := by decide +kernel
theorem dX13_fill_2 : decode cX13_fill 2 = .ok (.bipush 6, 2) := by decide +kernel
theorem dX13_fill_4 : decode cX13_fill 4 = .ok (.invokevirtual 271, 3) := by decide +kernel
theorem dX13_fill_7 : decode cX13_fill 7 = .ok (.ireturn, 1) := by decide +kernel
set_option maxRecDepth 20000 in
theorem ggX13_spent_X13_tell : GoodIn wsX13_spent wsX13_tell := goodIn_r _ [5, 6, 7, 8, 9, 4, 10, 11, 12, 13, 14, 15, 16, 17, 18, 19, 20, 21, 22, 23, 24, 25, 26, 27, 28, 29, 30, 31, 32, 33, 34, 35, 36, 37, 38, 39, 40, 41, 42, 43, 44, 45, 46, 47, 48, 49, 50, 51, 52, 53, 54, 55, 56, 57, 58, 59, 60, 61, 62, 63, 64, 65, 66, 67, 68, 69, 70, 71, 72, 73] (by decide +kernel) (by decide +kernel)
set_option maxRecDepth 20000 in
theorem gX13_spent_X13_tell : GoodIn wsX13_spent (wsV RX13 271 RX13 yX13_tell wsX13_tell) := goodIn_app (goodIn_of _ (by decide +kernel)) ggX13_spent_X13_tell
theorem dX13_spent_0 : decode cX13_spent 0 = .ok (.aload_n 0, 1) := by decide +kernel
theorem dX13_spent_1 : decode cX13_spent 1 = .ok (.iload_n 1, 1) := by decide +kernel
theorem dX13_spent_2 : decode cX13_spent 2 = .ok (.bipush 7, 2) := by decide +kernel
theorem dX13_spent_4 : decode cX13_spent 4 = .ok (.invokevirtual 271, 3) := by decide +kernel
theorem dX13_spent_7 : decode cX13_spent 7 = .ok (.ireturn, 1) := by decide +kernel
set_option maxRecDepth 20000 in
theorem ggX13_delayLeft_X13_tell : GoodIn wsX13_delayLeft wsX13_tell := goodIn_r _ [5, 6, 7, 8, 9, 4, 10, 11, 12, 13, 14, 15, 16, 17, 18, 19, 20, 21, 22, 23, 24, 25, 26, 27, 28, 29, 30, 31, 32, 33, 34, 35, 36, 37, 38, 39, 40, 41, 42, 43, 44, 45, 46, 47, 48, 49, 50, 51, 52, 53, 54, 55, 56, 57, 58, 59, 60, 61, 62, 63, 64, 65, 66, 67, 68, 69, 70, 71, 72, 73] (by decide +kernel) (by decide +kernel)
set_option maxRecDepth 20000 in
theorem gX13_delayLeft_X13_tell : GoodIn wsX13_delayLeft (wsV RX13 271 RX13 yX13_tell wsX13_tell) := goodIn_app (goodIn_of _ (by decide +kernel)) ggX13_delayLeft_X13_tell
theorem dX13_delayLeft_0 : decode cX13_delayLeft 0 = .ok (.aload_n 0, 1) := by decide +kernel
theorem dX13_delayLeft_1 : decode cX13_delayLeft 1 = .ok (.iload_n 1, 1) := by decide +kernel
theorem dX13_delayLeft_2 : decode cX13_delayLeft 2 = .ok (.bipush 8, 2) := by decide +kernel
theorem dX13_delayLeft_4 : decode cX13_delayLeft 4 = .ok (.invokevirtual 271, 3) := by decide +kernel
theorem dX13_delayLeft_7 : decode cX13_delayLeft 7 = .ok (.ireturn, 1) := by decide +kernel
set_option maxRecDepth 20000 in
theorem ggX13_stall_X13_tell : GoodIn wsX13_stall wsX13_tell := goodIn_r _ [5, 6, 7, 8, 9, 4, 10, 11, 12, 13, 14, 15, 16, 17, 18, 19, 20, 21, 22, 23, 24, 25, 26, 27, 28, 29, 30, 31, 32, 33, 34, 35, 36, 37, 38, 39, 40, 41, 42, 43, 44, 45, 46, 47, 48, 49, 50, 51, 52, 53, 54, 55, 56, 57, 58, 59, 60, 61, 62, 63, 64, 65, 66, 67, 68, 69, 70, 71, 72, 73] (by decide +kernel) (by decide +kernel)
set_option maxRecDepth 20000 in
theorem gX13_stall_X13_tell : GoodIn wsX13_stall (wsV RX13 271 RX13 yX13_tell wsX13_tell) := goodIn_app (goodIn_of _ (by decide +kernel)) ggX13_stall_X13_tell
theorem dX13_stall_0 : decode cX13_stall 0 = .ok (.aload_n 0, 1) := by decide +kernel
theorem dX13_stall_1 : decode cX13_stall 1 = .ok (.iload_n 1, 1) := by decide +kernel
theorem dX13_stall_2 : decode cX13_stall 2 = .ok (.bipush 9, 2) := by decide +kernel
theorem dX13_stall_4 : decode cX13_stall 4 = .ok (.invokevirtual 271, 3) := by decide +kernel
theorem dX13_stall_7 : decode cX13_stall 7 = .ok (.ireturn, 1) := by decide +kernel
set_option maxRecDepth 20000 in
theorem ggX13_isEnabled_X13_tell : GoodIn wsX13_isEnabled wsX13_tell := goodIn_r _ [5, 6, 7, 8, 9, 4, 10, 11, 12, 13, 14, 15, 16, 17, 18, 19, 20, 21, 22, 23, 24, 25, 26, 27, 28, 29, 30, 31, 32, 33, 34, 35, 36, 37, 38, 39, 40, 41, 42, 43, 44, 45, 46, 47, 48, 49, 50, 51, 52, 53, 54, 55, 56, 57, 58, 59, 60, 61, 62, 63, 64, 65, 66, 67, 68, 69, 70, 71, 72, 73] (by decide +kernel) (by decide +kernel)
set_option maxRecDepth 20000 in
theorem gX13_isEnabled_X13_tell : GoodIn wsX13_isEnabled (wsV RX13 271 RX13 yX13_tell wsX13_tell) := goodIn_app (goodIn_of _ (by decide +kernel)) ggX13_isEnabled_X13_tell
theorem dX13_isEnabled_0 : decode cX13_isEnabled 0 = .ok (.aload_n 0, 1) := by decide +kernel
theorem dX13_isEnabled_1 : decode cX13_isEnabled 1 = .ok (.iload_n 1, 1) := by decide +kernel
theorem dX13_isEnabled_2 : decode cX13_isEnabled 2 = .ok (.iconst 0, 1) := by decide +kernel
theorem dX13_isEnabled_3 : decode cX13_isEnabled 3 = .ok (.invokevirtual 271, 3) := by decide +kernel
theorem dX13_isEnabled_6 : decode cX13_isEnabled 6 = .ok (.iconst 1, 1) := by decide +kernel
theorem dX13_isEnabled_7 : decode cX13_isEnabled 7 = .ok (.if_icmp .ne 7, 3) := by decide +kernel
theorem dX13_isEnabled_10 : decode cX13_isEnabled 10 = .ok (.iconst 1, 1) := by decide +kernel
theorem dX13_isEnabled_11 : decode cX13_isEnabled 11 = .ok (.goto 4, 3) := by decide +kernel
theorem dX13_isEnabled_14 : decode cX13_isEnabled 14 = .ok (.iconst 0, 1) := by decide +kernel
theorem dX13_isEnabled_15 : decode cX13_isEnabled 15 = .ok (.ireturn, 1) := by decide +kernel
set_option maxRecDepth 20000 in
theorem ggX13_queueSize_X13_tell : GoodIn wsX13_queueSize wsX13_tell := goodIn_r _ [5, 6, 7, 8, 9, 4, 10, 11, 12, 13, 14, 15, 16, 17, 18, 19, 20, 21, 22, 23, 24, 25, 26, 27, 28, 29, 30, 31, 32, 33, 34, 35, 36, 37, 38, 39, 40, 41, 42, 43, 44, 45, 46, 47, 48, 49, 50, 51, 52, 53, 54, 55, 56, 57, 58, 59, 60, 61, 62, 63, 64, 65, 66, 67, 68, 69, 70, 71, 72, 73] (by decide +kernel) (by decide +kernel)
set_option maxRecDepth 20000 in
theorem gX13_queueSize_X13_tell : GoodIn wsX13_queueSize (wsV RX13 271 RX13 yX13_tell wsX13_tell) := goodIn_app (goodIn_of _ (by decide +kernel)) ggX13_queueSize_X13_tell
theorem dX13_queueSize_0 : decode cX13_queueSize 0 = .ok (.aload_n 0, 1) := by decide +kernel
theorem dX13_queueSize_1 : decode cX13_queueSize 1 = .ok (.iload_n 1, 1) := by decide +kernel
theorem dX13_queueSize_2 : decode cX13_queueSize 2 = .ok (.iload_n 2, 1) := by decide +kernel
theorem dX13_queueSize_3 : decode cX13_queueSize 3 = .ok (.ifCond .eq 8, 3) := by decide +kernel
theorem dX13_queueSize_6 : decode cX13_queueSize 6 = .ok (.bipush 12, 2) := by decide +kernel
theorem dX13_queueSize_8 : decode cX13_queueSize 8 = .ok (.goto 5, 3) := by decide +kernel
theorem dX13_queueSize_11 : decode cX13_queueSize 11 = .ok (.bipush 11, 2) := by decide +kernel
theorem dX13_queueSize_13 : decode cX13_queueSize 13 = .ok (.invokevirtual 271, 3) := by decide +kernel
theorem dX13_queueSize_16 : decode cX13_queueSize 16 = .ok (.ireturn, 1) := by decide +kernel
theorem dX13_unsigned_0 : decode cX13_unsigned 0 = .ok (.iload_n 0, 1) := by decide +kernel
theorem dX13_unsigned_1 : decode cX13_unsigned 1 = .ok (.i2l, 1) := by decide +kernel
theorem dX13_unsigned_2 : decode cX13_unsigned 2 = .ok (.ldc2_w 274, 3) := by decide +kernel
theorem dX13_unsigned_5 : decode cX13_unsigned 5 = .ok (.land, 1) := by decide +kernel
theorem dX13_unsigned_6 : decode cX13_unsigned 6 = .ok (.lreturn, 1) := by decide +kernel
set_option maxRecDepth 20000 in
theorem ggX13_queued_X13_exists : GoodIn wsX13_queued wsX13_exists := goodIn_r _ [7, 8, 9, 6, 10, 11, 12, 13, 14, 15, 28, 29, 30, 31, 32, 33, 34, 35, 36, 37, 38, 39, 40, 41, 42, 43, 44, 45, 46, 47, 48, 49, 50, 51, 52, 53, 54, 55, 56, 57, 58, 59, 60, 61, 62, 63, 64, 65, 66, 67, 68, 69, 70, 71, 72, 73, 74] (by decide +kernel) (by decide +kernel)
set_option maxRecDepth 20000 in
theorem gX13_queued_X13_exists : GoodIn wsX13_queued (wsV RX13 268 RX13 yX13_exists wsX13_exists) := goodIn_app (goodIn_of _ (by decide +kernel)) ggX13_queued_X13_exists
set_option maxRecDepth 20000 in
theorem ggX13_queued_X13_raise : GoodIn wsX13_queued wsX13_raise := goodIn_r _ [19, 1, 28, 29, 30, 31, 32, 33, 34, 35, 36, 37, 38, 39, 40, 41, 42, 43, 44, 45, 46, 47, 48, 49, 50, 51, 52, 53, 54, 55, 56, 57, 58, 59, 60, 61, 62, 63, 64, 65, 66, 67, 68, 69, 70, 71, 72, 73, 74] (by decide +kernel) (by decide +kernel)
set_option maxRecDepth 20000 in
theorem gX13_queued_X13_raise : GoodIn wsX13_queued (wsV RX13 259 RX13 yX13_raise wsX13_raise) := goodIn_app (goodIn_of _ (by decide +kernel)) ggX13_queued_X13_raise
set_option maxRecDepth 20000 in
theorem ggX13_queued_X13_of : GoodIn wsX13_queued wsX13_of := goodIn_r _ [23, 15, 28, 29, 30, 31, 32, 33, 34, 35, 36, 37, 38, 39, 40, 41, 42, 43, 44, 45, 46, 47, 48, 49, 50, 51, 52, 53, 54, 55, 56, 57, 58, 59, 60, 61, 62, 63, 64, 65, 66, 67, 68, 69, 70, 71, 72, 73, 74] (by decide +kernel) (by decide +kernel)
set_option maxRecDepth 20000 in
theorem gX13_queued_X13_of : GoodIn wsX13_queued (wsV RX13 238 RX13 yX13_of wsX13_of) := goodIn_app (goodIn_of _ (by decide +kernel)) ggX13_queued_X13_of
set_option maxRecDepth 20000 in
theorem ggX13_queued_X13_unsigned : GoodIn wsX13_queued wsX13_unsigned := goodIn_r _ [26, 27] (by decide +kernel) (by decide +kernel)
set_option maxRecDepth 20000 in
theorem gX13_queued_X13_unsigned : GoodIn wsX13_queued (va_wsS RX13 276 yX13_unsigned wsX13_unsigned) := goodIn_app (goodIn_of _ (by decide +kernel)) ggX13_queued_X13_unsigned
theorem dX13_queued_0 : decode cX13_queued 0 = .ok (.aload_n 0, 1) := by decide +kernel
theorem dX13_queued_1 : decode cX13_queued 1 = .ok (.iconst 0, 1) := by decide +kernel
theorem dX13_queued_2 : decode cX13_queued 2 = .ok (.putfield 231, 3) := by decide +kernel
theorem dX13_queued_5 : decode cX13_queued 5 = .ok (.aload_n 0, 1) := by decide +kernel
theorem dX13_queued_6 : decode cX13_queued 6 = .ok (.iload_n 1, 1) := by decide +kernel
theorem dX13_queued_7 : decode cX13_queued 7 = .ok (.invokevirtual 268, 3) := by decide +kernel
theorem dX13_queued_10 : decode cX13_queued 10 = .ok (.ifCond .eq 7, 3) := by decide +kernel
theorem dX13_queued_13 : decode cX13_queued 13 = .ok (.iload_n 3, 1) := by decide +kernel
theorem dX13_queued_14 : decode cX13_queued 14 = .ok (.ifCond .ge 10, 3) := by decide +kernel
theorem dX13_queued_17 : decode cX13_queued 17 = .ok (.aload_n 0, 1) := by decide +kernel
theorem dX13_queued_18 : decode cX13_queued 18 = .ok (.iconst 1, 1) := by decide +kernel
theorem dX13_queued_19 : decode cX13_queued 19 = .ok (.invokevirtual 259, 3) := by decide +kernel
theorem dX13_queued_22 : decode cX13_queued 22 = .ok (.i2l, 1) := by decide +kernel
theorem dX13_queued_23 : decode cX13_queued 23 = .ok (.lreturn, 1) := by decide +kernel
theorem dX13_queued_24 : decode cX13_queued 24 = .ok (.iload_n 3, 1) := by decide +kernel
theorem dX13_queued_25 : decode cX13_queued 25 = .ok (.aload_n 0, 1) := by decide +kernel
theorem dX13_queued_26 : decode cX13_queued 26 = .ok (.iload_n 1, 1) := by decide +kernel
theorem dX13_queued_27 : decode cX13_queued 27 = .ok (.iload_n 2, 1) := by decide +kernel
theorem dX13_queued_28 : decode cX13_queued 28 = .ok (.ifCond .eq 8, 3) := by decide +kernel
theorem dX13_queued_31 : decode cX13_queued 31 = .ok (.bipush 12, 2) := by decide +kernel
theorem dX13_queued_33 : decode cX13_queued 33 = .ok (.goto 5, 3) := by decide +kernel
theorem dX13_queued_36 : decode cX13_queued 36 = .ok (.bipush 11, 2) := by decide +kernel
theorem dX13_queued_38 : decode cX13_queued 38 = .ok (.invokevirtual 238, 3) := by decide +kernel
theorem dX13_queued_41 : decode cX13_queued 41 = .ok (.if_icmp .ge 7, 3) := by decide +kernel
theorem dX13_queued_44 : decode cX13_queued 44 = .ok (.iconst 1, 1) := by decide +kernel
theorem dX13_queued_45 : decode cX13_queued 45 = .ok (.goto 4, 3) := by decide +kernel
theorem dX13_queued_48 : decode cX13_queued 48 = .ok (.iconst 0, 1) := by decide +kernel
theorem dX13_queued_49 : decode cX13_queued 49 = .ok (.istore 4, 2) := by decide +kernel
theorem dX13_queued_51 : decode cX13_queued 51 = .ok (.iload 4, 2) := by decide +kernel
theorem dX13_queued_53 : decode cX13_queued 53 = .ok (.ifCond .eq 27, 3) := by decide +kernel
theorem dX13_queued_56 : decode cX13_queued 56 = .ok (.aload_n 0, 1) := by decide +kernel
theorem dX13_queued_57 : decode cX13_queued 57 = .ok (.iload_n 1, 1) := by decide +kernel
theorem dX13_queued_58 : decode cX13_queued 58 = .ok (.iload_n 2, 1) := by decide +kernel
theorem dX13_queued_59 : decode cX13_queued 59 = .ok (.ifCond .eq 8, 3) := by decide +kernel
theorem dX13_queued_62 : decode cX13_queued 62 = .ok (.bipush 21, 2) := by decide +kernel
theorem dX13_queued_64 : decode cX13_queued 64 = .ok (.goto 5, 3) := by decide +kernel
theorem dX13_queued_67 : decode cX13_queued 67 = .ok (.bipush 13, 2) := by decide +kernel
theorem dX13_queued_69 : decode cX13_queued 69 = .ok (.iload_n 3, 1) := by decide +kernel
theorem dX13_queued_70 : decode cX13_queued 70 = .ok (.iadd, 1) := by decide +kernel
theorem dX13_queued_71 : decode cX13_queued 71 = .ok (.invokevirtual 238, 3) := by decide +kernel
theorem dX13_queued_74 : decode cX13_queued 74 = .ok (.invokestatic 276, 3) := by decide +kernel
theorem dX13_queued_77 : decode cX13_queued 77 = .ok (.goto 6, 3) := by decide +kernel
theorem dX13_queued_80 : decode cX13_queued 80 = .ok (.ldc2_w 280, 3) := by decide +kernel
theorem dX13_queued_83 : decode cX13_queued 83 = .ok (.lreturn, 1) := by decide +kernel
set_option maxRecDepth 20000 in
theorem ggX13_isFull_X13_of : GoodIn wsX13_isFull wsX13_of := goodIn_r _ [5, 6, 11, 12, 13, 14, 15, 16, 17, 18, 19, 20, 21, 22, 23, 24, 25, 26, 27, 28, 29, 30, 31, 32, 33, 34, 35, 36, 37, 38, 39, 40, 41, 42, 43, 44, 45, 46, 47, 48, 49, 50, 51, 52, 53, 54, 55, 56, 57] (by decide +kernel) (by decide +kernel)
set_option maxRecDepth 20000 in
theorem gX13_isFull_X13_of : GoodIn wsX13_isFull (wsV RX13 238 RX13 yX13_of wsX13_of) := goodIn_app (goodIn_of _ (by decide +kernel)) ggX13_isFull_X13_of
set_option maxRecDepth 20000 in
theorem ggX13_isFull_X13_setting : GoodIn wsX13_isFull wsX13_setting := goodIn_r _ [10, 6, 11, 12, 13, 14, 15, 16, 17, 18, 19, 20, 21, 22, 23, 24, 25, 26, 27, 28, 29, 30, 31, 32, 33, 34, 35, 36, 37, 38, 39, 40, 41, 42, 43, 44, 45, 46, 47, 48, 49, 50, 51, 52, 53, 54, 55, 56, 57] (by decide +kernel) (by decide +kernel)
set_option maxRecDepth 20000 in
theorem gX13_isFull_X13_setting : GoodIn wsX13_isFull (wsV RX13 249 RX13 yX13_setting wsX13_setting) := goodIn_app (goodIn_of _ (by decide +kernel)) ggX13_isFull_X13_setting
theorem dX13_isFull_0 : decode cX13_isFull 0 = .ok (.aload_n 0, 1) := by decide +kernel
theorem dX13_isFull_1 : decode cX13_isFull 1 = .ok (.iload_n 1, 1) := by decide +kernel
theorem dX13_isFull_2 : decode cX13_isFull 2 = .ok (.iload_n 2, 1) := by decide +kernel
theorem dX13_isFull_3 : decode cX13_isFull 3 = .ok (.ifCond .eq 8, 3) := by decide +kernel
theorem dX13_isFull_6 : decode cX13_isFull 6 = .ok (.bipush 12, 2) := by decide +kernel
theorem dX13_isFull_8 : decode cX13_isFull 8 = .ok (.goto 5, 3) := by decide +kernel
theorem dX13_isFull_11 : decode cX13_isFull 11 = .ok (.bipush 11, 2) := by decide +kernel
theorem dX13_isFull_13 : decode cX13_isFull 13 = .ok (.invokevirtual 238, 3) := by decide +kernel
theorem dX13_isFull_16 : decode cX13_isFull 16 = .ok (.aload_n 0, 1) := by decide +kernel
theorem dX13_isFull_17 : decode cX13_isFull 17 = .ok (.iload_n 1, 1) := by decide +kernel
theorem dX13_isFull_18 : decode cX13_isFull 18 = .ok (.iload_n 2, 1) := by decide +kernel
theorem dX13_isFull_19 : decode cX13_isFull 19 = .ok (.ifCond .eq 8, 3) := by decide +kernel
theorem dX13_isFull_22 : decode cX13_isFull 22 = .ok (.bipush 20, 2) := by decide +kernel
theorem dX13_isFull_24 : decode cX13_isFull 24 = .ok (.goto 5, 3) := by decide +kernel
theorem dX13_isFull_27 : decode cX13_isFull 27 = .ok (.bipush 19, 2) := by decide +kernel
theorem dX13_isFull_29 : decode cX13_isFull 29 = .ok (.invokevirtual 249, 3) := by decide +kernel
theorem dX13_isFull_32 : decode cX13_isFull 32 = .ok (.if_icmp .lt 7, 3) := by decide +kernel
theorem dX13_isFull_35 : decode cX13_isFull 35 = .ok (.iconst 1, 1) := by decide +kernel
theorem dX13_isFull_36 : decode cX13_isFull 36 = .ok (.goto 4, 3) := by decide +kernel
theorem dX13_isFull_39 : decode cX13_isFull 39 = .ok (.iconst 0, 1) := by decide +kernel
theorem dX13_isFull_40 : decode cX13_isFull 40 = .ok (.ireturn, 1) := by decide +kernel
set_option maxRecDepth 20000 in
theorem ggX13_append_X13_of : GoodIn wsX13_append wsX13_of := goodIn_r _ [5, 6, 15, 16, 17, 18, 19, 20, 21, 22, 23, 24, 25, 26, 27, 28, 29, 30, 31, 32, 33, 34, 35, 36, 37, 38, 39, 40, 41, 42, 43, 44, 45, 46, 47, 48, 49, 50, 51, 52, 53, 54, 55, 56, 57, 58, 59, 60, 61] (by decide +kernel) (by decide +kernel)
set_option maxRecDepth 20000 in
theorem gX13_append_X13_of : GoodIn wsX13_append (wsV RX13 238 RX13 yX13_of wsX13_of) := goodIn_app (goodIn_of _ (by decide +kernel)) ggX13_append_X13_of
set_option maxRecDepth 20000 in
theorem ggX13_append_X13_set : GoodIn wsX13_append wsX13_set := goodIn_r _ [10, 6, 15, 16, 17, 18, 19, 20, 21, 22, 23, 24, 25, 26, 27, 28, 29, 30, 31, 32, 33, 34, 35, 36, 37, 38, 39, 40, 41, 42, 43, 44, 45, 46, 47, 48, 49, 50, 51, 52, 53, 54, 55, 56, 57, 58, 59, 60, 61] (by decide +kernel) (by decide +kernel)
set_option maxRecDepth 20000 in
theorem gX13_append_X13_set : GoodIn wsX13_append (wsV RX13 282 RX13 yX13_set wsX13_set) := goodIn_app (goodIn_of _ (by decide +kernel)) ggX13_append_X13_set
set_option maxRecDepth 20000 in
theorem ggX13_append_X13_add : GoodIn wsX13_append wsX13_add := goodIn_r _ [14, 6, 15, 16, 17, 18, 19, 20, 21, 22, 23, 24, 25, 26, 27, 28, 29, 30, 31, 32, 33, 34, 35, 36, 37, 38, 39, 40, 41, 42, 43, 44, 45, 46, 47, 48, 49, 50, 51, 52, 53, 54, 55, 56, 57, 58, 59, 60, 61] (by decide +kernel) (by decide +kernel)
set_option maxRecDepth 20000 in
theorem gX13_append_X13_add : GoodIn wsX13_append (wsV RX13 234 RX13 yX13_add wsX13_add) := goodIn_app (goodIn_of _ (by decide +kernel)) ggX13_append_X13_add
theorem dX13_append_0 : decode cX13_append 0 = .ok (.iload_n 2, 1) := by decide +kernel
theorem dX13_append_1 : decode cX13_append 1 = .ok (.ifCond .eq 8, 3) := by decide +kernel
theorem dX13_append_4 : decode cX13_append 4 = .ok (.bipush 12, 2) := by decide +kernel
theorem dX13_append_6 : decode cX13_append 6 = .ok (.goto 5, 3) := by decide +kernel
theorem dX13_append_9 : decode cX13_append 9 = .ok (.bipush 11, 2) := by decide +kernel
theorem dX13_append_11 : decode cX13_append 11 = .ok (.istore 4, 2) := by decide +kernel
theorem dX13_append_13 : decode cX13_append 13 = .ok (.aload_n 0, 1) := by decide +kernel
theorem dX13_append_14 : decode cX13_append 14 = .ok (.iload_n 1, 1) := by decide +kernel
theorem dX13_append_15 : decode cX13_append 15 = .ok (.iload_n 2, 1) := by decide +kernel
theorem dX13_append_16 : decode cX13_append 16 = .ok (.ifCond .eq 8, 3) := by decide +kernel
theorem dX13_append_19 : decode cX13_append 19 = .ok (.bipush 21, 2) := by decide +kernel
theorem dX13_append_21 : decode cX13_append 21 = .ok (.goto 5, 3) := by decide +kernel
theorem dX13_append_24 : decode cX13_append 24 = .ok (.bipush 13, 2) := by decide +kernel
theorem dX13_append_26 : decode cX13_append 26 = .ok (.aload_n 0, 1) := by decide +kernel
theorem dX13_append_27 : decode cX13_append 27 = .ok (.iload_n 1, 1) := by decide +kernel
theorem dX13_append_28 : decode cX13_append 28 = .ok (.iload 4, 2) := by decide +kernel
theorem dX13_append_30 : decode cX13_append 30 = .ok (.invokevirtual 238, 3) := by decide +kernel
theorem dX13_append_33 : decode cX13_append 33 = .ok (.iadd, 1) := by decide +kernel
theorem dX13_append_34 : decode cX13_append 34 = .ok (.iload_n 3, 1) := by decide +kernel
theorem dX13_append_35 : decode cX13_append 35 = .ok (.invokevirtual 282, 3) := by decide +kernel
theorem dX13_append_38 : decode cX13_append 38 = .ok (.aload_n 0, 1) := by decide +kernel
theorem dX13_append_39 : decode cX13_append 39 = .ok (.iload_n 1, 1) := by decide +kernel
theorem dX13_append_40 : decode cX13_append 40 = .ok (.iload 4, 2) := by decide +kernel
theorem dX13_append_42 : decode cX13_append 42 = .ok (.iconst 1, 1) := by decide +kernel
theorem dX13_append_43 : decode cX13_append 43 = .ok (.invokevirtual 234, 3) := by decide +kernel
theorem dX13_append_46 : decode cX13_append 46 = .ok (.return_, 1) := by decide +kernel
set_option maxRecDepth 20000 in
theorem ggX13_removeFirst_X13_of : GoodIn wsX13_removeFirst wsX13_of := goodIn_r _ [5, 6, 15, 16, 17, 18, 19, 20, 21, 22, 23, 24, 25, 26, 27, 28, 29, 30, 31, 32, 33, 34, 35, 36, 37, 38, 39, 40, 41, 42, 43, 44, 45, 46, 47, 48, 49, 50, 51, 52, 53, 54, 55, 56, 57, 58, 59, 60, 61] (by decide +kernel) (by decide +kernel)
set_option maxRecDepth 20000 in
theorem gX13_removeFirst_X13_of : GoodIn wsX13_removeFirst (wsV RX13 238 RX13 yX13_of wsX13_of) := goodIn_app (goodIn_of _ (by decide +kernel)) ggX13_removeFirst_X13_of
set_option maxRecDepth 20000 in
theorem ggX13_removeFirst_X13_set : GoodIn wsX13_removeFirst wsX13_set := goodIn_r _ [10, 6, 15, 16, 17, 18, 19, 20, 21, 22, 23, 24, 25, 26, 27, 28, 29, 30, 31, 32, 33, 34, 35, 36, 37, 38, 39, 40, 41, 42, 43, 44, 45, 46, 47, 48, 49, 50, 51, 52, 53, 54, 55, 56, 57, 58, 59, 60, 61] (by decide +kernel) (by decide +kernel)
set_option maxRecDepth 20000 in
theorem gX13_removeFirst_X13_set : GoodIn wsX13_removeFirst (wsV RX13 282 RX13 yX13_set wsX13_set) := goodIn_app (goodIn_of _ (by decide +kernel)) ggX13_removeFirst_X13_set
set_option maxRecDepth 20000 in
theorem ggX13_removeFirst_X13_add : GoodIn wsX13_removeFirst wsX13_add := goodIn_r _ [14, 6, 15, 16, 17, 18, 19, 20, 21, 22, 23, 24, 25, 26, 27, 28, 29, 30, 31, 32, 33, 34, 35, 36, 37, 38, 39, 40, 41, 42, 43, 44, 45, 46, 47, 48, 49, 50, 51, 52, 53, 54, 55, 56, 57, 58, 59, 60, 61] (by decide +kernel) (by decide +kernel)
set_option maxRecDepth 20000 in
theorem gX13_removeFirst_X13_add : GoodIn wsX13_removeFirst (wsV RX13 234 RX13 yX13_add wsX13_add) := goodIn_app (goodIn_of _ (by decide +kernel)) ggX13_removeFirst_X13_add
theorem dX13_removeFirst_0 : decode cX13_removeFirst 0 = .ok (.iload_n 2, 1) := by decide +kernel
theorem dX13_removeFirst_1 : decode cX13_removeFirst 1 = .ok (.ifCond .eq 8, 3) := by decide +kernel
theorem dX13_removeFirst_4 : decode cX13_removeFirst 4 = .ok (.bipush 21, 2) := by decide +kernel
theorem dX13_removeFirst_6 : decode cX13_removeFirst 6 = .ok (.goto 5, 3) := by decide +kernel
theorem dX13_removeFirst_9 : decode cX13_removeFirst 9 = .ok (.bipush 13, 2) := by decide +kernel
theorem dX13_removeFirst_11 : decode cX13_removeFirst 11 = .ok (.istore_n 3, 1) := by decide +kernel
theorem dX13_removeFirst_12 : decode cX13_removeFirst 12 = .ok (.iload_n 2, 1) := by decide +kernel
theorem dX13_removeFirst_13 : decode cX13_removeFirst 13 = .ok (.ifCond .eq 8, 3) := by decide +kernel
theorem dX13_removeFirst_16 : decode cX13_removeFirst 16 = .ok (.bipush 12, 2) := by decide +kernel
theorem dX13_removeFirst_18 : decode cX13_removeFirst 18 = .ok (.goto 5, 3) := by decide +kernel
theorem dX13_removeFirst_21 : decode cX13_removeFirst 21 = .ok (.bipush 11, 2) := by decide +kernel
theorem dX13_removeFirst_23 : decode cX13_removeFirst 23 = .ok (.istore 4, 2) := by decide +kernel
theorem dX13_removeFirst_25 : decode cX13_removeFirst 25 = .ok (.aload_n 0, 1) := by decide +kernel
theorem dX13_removeFirst_26 : decode cX13_removeFirst 26 = .ok (.iload_n 1, 1) := by decide +kernel
theorem dX13_removeFirst_27 : decode cX13_removeFirst 27 = .ok (.iload_n 3, 1) := by decide +kernel
theorem dX13_removeFirst_28 : decode cX13_removeFirst 28 = .ok (.invokevirtual 238, 3) := by decide +kernel
theorem dX13_removeFirst_31 : decode cX13_removeFirst 31 = .ok (.istore 5, 2) := by decide +kernel
theorem dX13_removeFirst_33 : decode cX13_removeFirst 33 = .ok (.iconst 1, 1) := by decide +kernel
theorem dX13_removeFirst_34 : decode cX13_removeFirst 34 = .ok (.istore 6, 2) := by decide +kernel
theorem dX13_removeFirst_36 : decode cX13_removeFirst 36 = .ok (.iload 6, 2) := by decide +kernel
theorem dX13_removeFirst_38 : decode cX13_removeFirst 38 = .ok (.aload_n 0, 1) := by decide +kernel
theorem dX13_removeFirst_39 : decode cX13_removeFirst 39 = .ok (.iload_n 1, 1) := by decide +kernel
theorem dX13_removeFirst_40 : decode cX13_removeFirst 40 = .ok (.iload 4, 2) := by decide +kernel
theorem dX13_removeFirst_42 : decode cX13_removeFirst 42 = .ok (.invokevirtual 238, 3) := by decide +kernel
theorem dX13_removeFirst_45 : decode cX13_removeFirst 45 = .ok (.if_icmp .ge 29, 3) := by decide +kernel
theorem dX13_removeFirst_48 : decode cX13_removeFirst 48 = .ok (.aload_n 0, 1) := by decide +kernel
theorem dX13_removeFirst_49 : decode cX13_removeFirst 49 = .ok (.iload_n 1, 1) := by decide +kernel
theorem dX13_removeFirst_50 : decode cX13_removeFirst 50 = .ok (.iload_n 3, 1) := by decide +kernel
theorem dX13_removeFirst_51 : decode cX13_removeFirst 51 = .ok (.iload 6, 2) := by decide +kernel
theorem dX13_removeFirst_53 : decode cX13_removeFirst 53 = .ok (.iadd, 1) := by decide +kernel
theorem dX13_removeFirst_54 : decode cX13_removeFirst 54 = .ok (.iconst 1, 1) := by decide +kernel
theorem dX13_removeFirst_55 : decode cX13_removeFirst 55 = .ok (.isub, 1) := by decide +kernel
theorem dX13_removeFirst_56 : decode cX13_removeFirst 56 = .ok (.aload_n 0, 1) := by decide +kernel
theorem dX13_removeFirst_57 : decode cX13_removeFirst 57 = .ok (.iload_n 1, 1) := by decide +kernel
theorem dX13_removeFirst_58 : decode cX13_removeFirst 58 = .ok (.iload_n 3, 1) := by decide +kernel
theorem dX13_removeFirst_59 : decode cX13_removeFirst 59 = .ok (.iload 6, 2) := by decide +kernel
theorem dX13_removeFirst_61 : decode cX13_removeFirst 61 = .ok (.iadd, 1) := by decide +kernel
theorem dX13_removeFirst_62 : decode cX13_removeFirst 62 = .ok (.invokevirtual 238, 3) := by decide +kernel
theorem dX13_removeFirst_65 : decode cX13_removeFirst 65 = .ok (.invokevirtual 282, 3) := by decide +kernel
theorem dX13_removeFirst_68 : decode cX13_removeFirst 68 = .ok (.iinc 6 1, 3) := by decide +kernel
theorem dX13_removeFirst_71 : decode cX13_removeFirst 71 = .ok (.goto (-35), 3) := by decide +kernel
theorem dX13_removeFirst_74 : decode cX13_removeFirst 74 = .ok (.aload_n 0, 1) := by decide +kernel
theorem dX13_removeFirst_75 : decode cX13_removeFirst 75 = .ok (.iload_n 1, 1) := by decide +kernel
theorem dX13_removeFirst_76 : decode cX13_removeFirst 76 = .ok (.iload 4, 2) := by decide +kernel
theorem dX13_removeFirst_78 : decode cX13_removeFirst 78 = .ok (.iconst (-1), 1) := by decide +kernel
theorem dX13_removeFirst_79 : decode cX13_removeFirst 79 = .ok (.invokevirtual 234, 3) := by decide +kernel
theorem dX13_removeFirst_82 : decode cX13_removeFirst 82 = .ok (.iload 5, 2) := by decide +kernel
theorem dX13_removeFirst_84 : decode cX13_removeFirst 84 = .ok (.ireturn, 1) := by decide +kernel
set_option maxRecDepth 20000 in
theorem ggX13_applyScheduled_X13_putPin : GoodIn wsX13_applyScheduled wsX13_putPin := goodIn_r _ [6, 1, 7, 8, 9, 10, 11, 12, 13, 14, 15, 16, 17, 18, 19, 20, 21, 22, 23, 24, 25, 26, 27, 28, 29, 30, 31, 32, 33, 34, 35, 36, 37, 38, 39, 40, 41, 42, 43, 44, 45, 46, 47, 48, 49, 50, 51, 52, 53] (by decide +kernel) (by decide +kernel)
set_option maxRecDepth 20000 in
theorem gX13_applyScheduled_X13_putPin : GoodIn wsX13_applyScheduled (wsV RX13 284 RX13 yX13_putPin wsX13_putPin) := goodIn_app (goodIn_of _ (by decide +kernel)) ggX13_applyScheduled_X13_putPin
theorem dX13_applyScheduled_0 : decode cX13_applyScheduled 0 = .ok (.iconst 0, 1) := by decide +kernel
theorem dX13_applyScheduled_1 : decode cX13_applyScheduled 1 = .ok (.istore_n 1, 1) := by decide +kernel
theorem dX13_applyScheduled_2 : decode cX13_applyScheduled 2 = .ok (.iconst 0, 1) := by decide +kernel
theorem dX13_applyScheduled_3 : decode cX13_applyScheduled 3 = .ok (.istore_n 2, 1) := by decide +kernel
theorem dX13_applyScheduled_4 : decode cX13_applyScheduled 4 = .ok (.iload_n 2, 1) := by decide +kernel
theorem dX13_applyScheduled_5 : decode cX13_applyScheduled 5 = .ok (.aload_n 0, 1) := by decide +kernel
theorem dX13_applyScheduled_6 : decode cX13_applyScheduled 6 = .ok (.getfield 9, 3) := by decide +kernel
theorem dX13_applyScheduled_9 : decode cX13_applyScheduled 9 = .ok (.iconst 3, 1) := by decide +kernel
theorem dX13_applyScheduled_10 : decode cX13_applyScheduled 10 = .ok (.iaload, 1) := by decide +kernel
theorem dX13_applyScheduled_11 : decode cX13_applyScheduled 11 = .ok (.if_icmp .ge 96, 3) := by decide +kernel
theorem dX13_applyScheduled_14 : decode cX13_applyScheduled 14 = .ok (.bipush 124, 2) := by decide +kernel
theorem dX13_applyScheduled_16 : decode cX13_applyScheduled 16 = .ok (.iconst 3, 1) := by decide +kernel
theorem dX13_applyScheduled_17 : decode cX13_applyScheduled 17 = .ok (.iload_n 2, 1) := by decide +kernel
theorem dX13_applyScheduled_18 : decode cX13_applyScheduled 18 = .ok (.imul, 1) := by decide +kernel
theorem dX13_applyScheduled_19 : decode cX13_applyScheduled 19 = .ok (.iadd, 1) := by decide +kernel
theorem dX13_applyScheduled_20 : decode cX13_applyScheduled 20 = .ok (.istore_n 3, 1) := by decide +kernel
theorem dX13_applyScheduled_21 : decode cX13_applyScheduled 21 = .ok (.aload_n 0, 1) := by decide +kernel
theorem dX13_applyScheduled_22 : decode cX13_applyScheduled 22 = .ok (.getfield 9, 3) := by decide +kernel
theorem dX13_applyScheduled_25 : decode cX13_applyScheduled 25 = .ok (.iload_n 3, 1) := by decide +kernel
theorem dX13_applyScheduled_26 : decode cX13_applyScheduled 26 = .ok (.iaload, 1) := by decide +kernel
theorem dX13_applyScheduled_27 : decode cX13_applyScheduled 27 = .ok (.aload_n 0, 1) := by decide +kernel
theorem dX13_applyScheduled_28 : decode cX13_applyScheduled 28 = .ok (.getfield 9, 3) := by decide +kernel
theorem dX13_applyScheduled_31 : decode cX13_applyScheduled 31 = .ok (.iconst 1, 1) := by decide +kernel
theorem dX13_applyScheduled_32 : decode cX13_applyScheduled 32 = .ok (.iaload, 1) := by decide +kernel
theorem dX13_applyScheduled_33 : decode cX13_applyScheduled 33 = .ok (.if_icmp .ne 27, 3) := by decide +kernel
theorem dX13_applyScheduled_36 : decode cX13_applyScheduled 36 = .ok (.aload_n 0, 1) := by decide +kernel
theorem dX13_applyScheduled_37 : decode cX13_applyScheduled 37 = .ok (.aload_n 0, 1) := by decide +kernel
theorem dX13_applyScheduled_38 : decode cX13_applyScheduled 38 = .ok (.getfield 9, 3) := by decide +kernel
theorem dX13_applyScheduled_41 : decode cX13_applyScheduled 41 = .ok (.iload_n 3, 1) := by decide +kernel
theorem dX13_applyScheduled_42 : decode cX13_applyScheduled 42 = .ok (.iconst 1, 1) := by decide +kernel
theorem dX13_applyScheduled_43 : decode cX13_applyScheduled 43 = .ok (.iadd, 1) := by decide +kernel
theorem dX13_applyScheduled_44 : decode cX13_applyScheduled 44 = .ok (.iaload, 1) := by decide +kernel
theorem dX13_applyScheduled_45 : decode cX13_applyScheduled 45 = .ok (.iconst 2, 1) := by decide +kernel
theorem dX13_applyScheduled_46 : decode cX13_applyScheduled 46 = .ok (.aload_n 0, 1) := by decide +kernel
theorem dX13_applyScheduled_47 : decode cX13_applyScheduled 47 = .ok (.getfield 9, 3) := by decide +kernel
theorem dX13_applyScheduled_50 : decode cX13_applyScheduled 50 = .ok (.iload_n 3, 1) := by decide +kernel
theorem dX13_applyScheduled_51 : decode cX13_applyScheduled 51 = .ok (.iconst 2, 1) := by decide +kernel
theorem dX13_applyScheduled_52 : decode cX13_applyScheduled 52 = .ok (.iadd, 1) := by decide +kernel
theorem dX13_applyScheduled_53 : decode cX13_applyScheduled 53 = .ok (.iaload, 1) := by decide +kernel
theorem dX13_applyScheduled_54 : decode cX13_applyScheduled 54 = .ok (.invokevirtual 284, 3) := by decide +kernel
theorem dX13_applyScheduled_57 : decode cX13_applyScheduled 57 = .ok (.goto 44, 3) := by decide +kernel
theorem dX13_applyScheduled_60 : decode cX13_applyScheduled 60 = .ok (.iconst 0, 1) := by decide +kernel
theorem dX13_applyScheduled_61 : decode cX13_applyScheduled 61 = .ok (.istore 4, 2) := by decide +kernel
theorem dX13_applyScheduled_63 : decode cX13_applyScheduled 63 = .ok (.iload 4, 2) := by decide +kernel
theorem dX13_applyScheduled_65 : decode cX13_applyScheduled 65 = .ok (.iconst 3, 1) := by decide +kernel
theorem dX13_applyScheduled_66 : decode cX13_applyScheduled 66 = .ok (.if_icmp .ge 32, 3) := by decide +kernel
theorem dX13_applyScheduled_69 : decode cX13_applyScheduled 69 = .ok (.aload_n 0, 1) := by decide +kernel
theorem dX13_applyScheduled_70 : decode cX13_applyScheduled 70 = .ok (.getfield 9, 3) := by decide +kernel
theorem dX13_applyScheduled_73 : decode cX13_applyScheduled 73 = .ok (.bipush 124, 2) := by decide +kernel
theorem dX13_applyScheduled_75 : decode cX13_applyScheduled 75 = .ok (.iconst 3, 1) := by decide +kernel
theorem dX13_applyScheduled_76 : decode cX13_applyScheduled 76 = .ok (.iload_n 1, 1) := by decide +kernel
theorem dX13_applyScheduled_77 : decode cX13_applyScheduled 77 = .ok (.imul, 1) := by decide +kernel
theorem dX13_applyScheduled_78 : decode cX13_applyScheduled 78 = .ok (.iadd, 1) := by decide +kernel
theorem dX13_applyScheduled_79 : decode cX13_applyScheduled 79 = .ok (.iload 4, 2) := by decide +kernel
theorem dX13_applyScheduled_81 : decode cX13_applyScheduled 81 = .ok (.iadd, 1) := by decide +kernel
theorem dX13_applyScheduled_82 : decode cX13_applyScheduled 82 = .ok (.aload_n 0, 1) := by decide +kernel
theorem dX13_applyScheduled_83 : decode cX13_applyScheduled 83 = .ok (.getfield 9, 3) := by decide +kernel
theorem dX13_applyScheduled_86 : decode cX13_applyScheduled 86 = .ok (.iload_n 3, 1) := by decide +kernel
theorem dX13_applyScheduled_87 : decode cX13_applyScheduled 87 = .ok (.iload 4, 2) := by decide +kernel
theorem dX13_applyScheduled_89 : decode cX13_applyScheduled 89 = .ok (.iadd, 1) := by decide +kernel
theorem dX13_applyScheduled_90 : decode cX13_applyScheduled 90 = .ok (.iaload, 1) := by decide +kernel
theorem dX13_applyScheduled_91 : decode cX13_applyScheduled 91 = .ok (.iastore, 1) := by decide +kernel
theorem dX13_applyScheduled_92 : decode cX13_applyScheduled 92 = .ok (.iinc 4 1, 3) := by decide +kernel
theorem dX13_applyScheduled_95 : decode cX13_applyScheduled 95 = .ok (.goto (-32), 3) := by decide +kernel
theorem dX13_applyScheduled_98 : decode cX13_applyScheduled 98 = .ok (.iinc 1 1, 3) := by decide +kernel
theorem dX13_applyScheduled_101 : decode cX13_applyScheduled 101 = .ok (.iinc 2 1, 3) := by decide +kernel
theorem dX13_applyScheduled_104 : decode cX13_applyScheduled 104 = .ok (.goto (-100), 3) := by decide +kernel
theorem dX13_applyScheduled_107 : decode cX13_applyScheduled 107 = .ok (.aload_n 0, 1) := by decide +kernel
theorem dX13_applyScheduled_108 : decode cX13_applyScheduled 108 = .ok (.getfield 9, 3) := by decide +kernel
theorem dX13_applyScheduled_111 : decode cX13_applyScheduled 111 = .ok (.iconst 3, 1) := by decide +kernel
theorem dX13_applyScheduled_112 : decode cX13_applyScheduled 112 = .ok (.iload_n 1, 1) := by decide +kernel
theorem dX13_applyScheduled_113 : decode cX13_applyScheduled 113 = .ok (.iastore, 1) := by decide +kernel
theorem dX13_applyScheduled_114 : decode cX13_applyScheduled 114 = .ok (.return_, 1) := by decide +kernel
set_option maxRecDepth 20000 in
theorem ggX13_readAll_X13_levelOf : GoodIn wsX13_readAll wsX13_levelOf := goodIn_r _ [10, 11, 12, 13, 9, 14, 3, 15, 16, 17, 18, 19, 20, 21, 22, 23, 24, 25, 26, 27, 28, 29, 30, 31, 32, 33, 34, 35, 36, 37, 38, 39, 40, 41, 42, 43, 44, 45, 46, 47, 48, 49, 50, 51, 52, 53, 54, 55, 56, 57, 58, 59, 60, 61] (by decide +kernel) (by decide +kernel)
set_option maxRecDepth 20000 in
theorem gX13_readAll_X13_levelOf : GoodIn wsX13_readAll (wsV RX13 262 RX13 yX13_levelOf wsX13_levelOf) := goodIn_app (goodIn_of _ (by decide +kernel)) ggX13_readAll_X13_levelOf
theorem dX13_readAll_0 : decode cX13_readAll 0 = .ok (.iconst 0, 1) := by decide +kernel
theorem dX13_readAll_1 : decode cX13_readAll 1 = .ok (.istore_n 1, 1) := by decide +kernel
theorem dX13_readAll_2 : decode cX13_readAll 2 = .ok (.iload_n 1, 1) := by decide +kernel
theorem dX13_readAll_3 : decode cX13_readAll 3 = .ok (.bipush 16, 2) := by decide +kernel
theorem dX13_readAll_5 : decode cX13_readAll 5 = .ok (.if_icmp .ge 20, 3) := by decide +kernel
theorem dX13_readAll_8 : decode cX13_readAll 8 = .ok (.aload_n 0, 1) := by decide +kernel
theorem dX13_readAll_9 : decode cX13_readAll 9 = .ok (.getfield 25, 3) := by decide +kernel
theorem dX13_readAll_12 : decode cX13_readAll 12 = .ok (.iload_n 1, 1) := by decide +kernel
theorem dX13_readAll_13 : decode cX13_readAll 13 = .ok (.aload_n 0, 1) := by decide +kernel
theorem dX13_readAll_14 : decode cX13_readAll 14 = .ok (.iload_n 1, 1) := by decide +kernel
theorem dX13_readAll_15 : decode cX13_readAll 15 = .ok (.invokevirtual 262, 3) := by decide +kernel
theorem dX13_readAll_18 : decode cX13_readAll 18 = .ok (.iastore, 1) := by decide +kernel
theorem dX13_readAll_19 : decode cX13_readAll 19 = .ok (.iinc 1 1, 3) := by decide +kernel
theorem dX13_readAll_22 : decode cX13_readAll 22 = .ok (.goto (-20), 3) := by decide +kernel
theorem dX13_readAll_25 : decode cX13_readAll 25 = .ok (.iconst 0, 1) := by decide +kernel
theorem dX13_readAll_26 : decode cX13_readAll 26 = .ok (.istore_n 1, 1) := by decide +kernel
theorem dX13_readAll_27 : decode cX13_readAll 27 = .ok (.iload_n 1, 1) := by decide +kernel
theorem dX13_readAll_28 : decode cX13_readAll 28 = .ok (.bipush 8, 2) := by decide +kernel
theorem dX13_readAll_30 : decode cX13_readAll 30 = .ok (.if_icmp .ge 24, 3) := by decide +kernel
theorem dX13_readAll_33 : decode cX13_readAll 33 = .ok (.aload_n 0, 1) := by decide +kernel
theorem dX13_readAll_34 : decode cX13_readAll 34 = .ok (.getfield 28, 3) := by decide +kernel
theorem dX13_readAll_37 : decode cX13_readAll 37 = .ok (.iload_n 1, 1) := by decide +kernel
theorem dX13_readAll_38 : decode cX13_readAll 38 = .ok (.aload_n 0, 1) := by decide +kernel
theorem dX13_readAll_39 : decode cX13_readAll 39 = .ok (.getfield 9, 3) := by decide +kernel
theorem dX13_readAll_42 : decode cX13_readAll 42 = .ok (.bipush 100, 2) := by decide +kernel
theorem dX13_readAll_44 : decode cX13_readAll 44 = .ok (.iload_n 1, 1) := by decide +kernel
theorem dX13_readAll_45 : decode cX13_readAll 45 = .ok (.iadd, 1) := by decide +kernel
theorem dX13_readAll_46 : decode cX13_readAll 46 = .ok (.iaload, 1) := by decide +kernel
theorem dX13_readAll_47 : decode cX13_readAll 47 = .ok (.iastore, 1) := by decide +kernel
theorem dX13_readAll_48 : decode cX13_readAll 48 = .ok (.iinc 1 1, 3) := by decide +kernel
theorem dX13_readAll_51 : decode cX13_readAll 51 = .ok (.goto (-24), 3) := by decide +kernel
theorem dX13_readAll_54 : decode cX13_readAll 54 = .ok (.aload_n 0, 1) := by decide +kernel
theorem dX13_readAll_55 : decode cX13_readAll 55 = .ok (.iconst 0, 1) := by decide +kernel
theorem dX13_readAll_56 : decode cX13_readAll 56 = .ok (.putfield 287, 3) := by decide +kernel
theorem dX13_readAll_59 : decode cX13_readAll 59 = .ok (.aload_n 0, 1) := by decide +kernel
theorem dX13_readAll_60 : decode cX13_readAll 60 = .ok (.iconst 0, 1) := by decide +kernel
theorem dX13_readAll_61 : decode cX13_readAll 61 = .ok (.putfield 290, 3) := by decide +kernel
theorem dX13_readAll_64 : decode cX13_readAll 64 = .ok (.return_, 1) := by decide +kernel
set_option maxRecDepth 20000 in
theorem ggX13_countOn_X13_setting : GoodIn wsX13_countOn wsX13_setting := goodIn_r _ [8, 9, 18, 19, 20, 21, 22, 23, 24, 25, 26, 27, 28, 29, 30, 31, 32, 33, 34, 35, 36, 37, 38, 39, 40, 41, 42, 43, 44, 45, 46, 47, 48, 49, 50, 51, 52, 53, 54, 55, 56, 57, 58, 59, 60, 61, 62, 63, 64] (by decide +kernel) (by decide +kernel)
set_option maxRecDepth 20000 in
theorem gX13_countOn_X13_setting : GoodIn wsX13_countOn (wsV RX13 249 RX13 yX13_setting wsX13_setting) := goodIn_app (goodIn_of _ (by decide +kernel)) ggX13_countOn_X13_setting
set_option maxRecDepth 20000 in
theorem ggX13_countOn_X13_of : GoodIn wsX13_countOn wsX13_of := goodIn_r _ [13, 9, 18, 19, 20, 21, 22, 23, 24, 25, 26, 27, 28, 29, 30, 31, 32, 33, 34, 35, 36, 37, 38, 39, 40, 41, 42, 43, 44, 45, 46, 47, 48, 49, 50, 51, 52, 53, 54, 55, 56, 57, 58, 59, 60, 61, 62, 63, 64] (by decide +kernel) (by decide +kernel)
set_option maxRecDepth 20000 in
theorem gX13_countOn_X13_of : GoodIn wsX13_countOn (wsV RX13 238 RX13 yX13_of wsX13_of) := goodIn_app (goodIn_of _ (by decide +kernel)) ggX13_countOn_X13_of
set_option maxRecDepth 20000 in
theorem ggX13_countOn_X13_set : GoodIn wsX13_countOn wsX13_set := goodIn_r _ [17, 9, 18, 19, 20, 21, 22, 23, 24, 25, 26, 27, 28, 29, 30, 31, 32, 33, 34, 35, 36, 37, 38, 39, 40, 41, 42, 43, 44, 45, 46, 47, 48, 49, 50, 51, 52, 53, 54, 55, 56, 57, 58, 59, 60, 61, 62, 63, 64] (by decide +kernel) (by decide +kernel)
set_option maxRecDepth 20000 in
theorem gX13_countOn_X13_set : GoodIn wsX13_countOn (wsV RX13 282 RX13 yX13_set wsX13_set) := goodIn_app (goodIn_of _ (by decide +kernel)) ggX13_countOn_X13_set
theorem dX13_countOn_0 : decode cX13_countOn 0 = .ok (.aload_n 0, 1) := by decide +kernel
theorem dX13_countOn_1 : decode cX13_countOn 1 = .ok (.getfield 31, 3) := by decide +kernel
theorem dX13_countOn_4 : decode cX13_countOn 4 = .ok (.iload_n 1, 1) := by decide +kernel
theorem dX13_countOn_5 : decode cX13_countOn 5 = .ok (.iconst 0, 1) := by decide +kernel
theorem dX13_countOn_6 : decode cX13_countOn 6 = .ok (.bastore, 1) := by decide +kernel
theorem dX13_countOn_7 : decode cX13_countOn 7 = .ok (.aload_n 0, 1) := by decide +kernel
theorem dX13_countOn_8 : decode cX13_countOn 8 = .ok (.getfield 35, 3) := by decide +kernel
theorem dX13_countOn_11 : decode cX13_countOn 11 = .ok (.iload_n 1, 1) := by decide +kernel
theorem dX13_countOn_12 : decode cX13_countOn 12 = .ok (.iconst (-1), 1) := by decide +kernel
theorem dX13_countOn_13 : decode cX13_countOn 13 = .ok (.iastore, 1) := by decide +kernel
theorem dX13_countOn_14 : decode cX13_countOn 14 = .ok (.aload_n 0, 1) := by decide +kernel
theorem dX13_countOn_15 : decode cX13_countOn 15 = .ok (.getfield 47, 3) := by decide +kernel
theorem dX13_countOn_18 : decode cX13_countOn 18 = .ok (.iload_n 1, 1) := by decide +kernel
theorem dX13_countOn_19 : decode cX13_countOn 19 = .ok (.iconst (-1), 1) := by decide +kernel
theorem dX13_countOn_20 : decode cX13_countOn 20 = .ok (.iastore, 1) := by decide +kernel
theorem dX13_countOn_21 : decode cX13_countOn 21 = .ok (.aload_n 0, 1) := by decide +kernel
theorem dX13_countOn_22 : decode cX13_countOn 22 = .ok (.iload_n 1, 1) := by decide +kernel
theorem dX13_countOn_23 : decode cX13_countOn 23 = .ok (.iconst 0, 1) := by decide +kernel
theorem dX13_countOn_24 : decode cX13_countOn 24 = .ok (.invokevirtual 249, 3) := by decide +kernel
theorem dX13_countOn_27 : decode cX13_countOn 27 = .ok (.ifCond .eq 12, 3) := by decide +kernel
theorem dX13_countOn_30 : decode cX13_countOn 30 = .ok (.aload_n 0, 1) := by decide +kernel
theorem dX13_countOn_31 : decode cX13_countOn 31 = .ok (.iload_n 1, 1) := by decide +kernel
theorem dX13_countOn_32 : decode cX13_countOn 32 = .ok (.iconst 0, 1) := by decide +kernel
theorem dX13_countOn_33 : decode cX13_countOn 33 = .ok (.invokevirtual 238, 3) := by decide +kernel
theorem dX13_countOn_36 : decode cX13_countOn 36 = .ok (.ifCond .ne 4, 3) := by decide +kernel
theorem dX13_countOn_39 : decode cX13_countOn 39 = .ok (.return_, 1) := by decide +kernel
theorem dX13_countOn_40 : decode cX13_countOn 40 = .ok (.aload_n 0, 1) := by decide +kernel
theorem dX13_countOn_41 : decode cX13_countOn 41 = .ok (.iload_n 1, 1) := by decide +kernel
theorem dX13_countOn_42 : decode cX13_countOn 42 = .ok (.bipush 10, 2) := by decide +kernel
theorem dX13_countOn_44 : decode cX13_countOn 44 = .ok (.invokevirtual 238, 3) := by decide +kernel
theorem dX13_countOn_47 : decode cX13_countOn 47 = .ok (.sipush 256, 3) := by decide +kernel
theorem dX13_countOn_50 : decode cX13_countOn 50 = .ok (.iadd, 1) := by decide +kernel
theorem dX13_countOn_51 : decode cX13_countOn 51 = .ok (.istore_n 2, 1) := by decide +kernel
theorem dX13_countOn_52 : decode cX13_countOn 52 = .ok (.aload_n 0, 1) := by decide +kernel
theorem dX13_countOn_53 : decode cX13_countOn 53 = .ok (.getfield 31, 3) := by decide +kernel
theorem dX13_countOn_56 : decode cX13_countOn 56 = .ok (.iload_n 1, 1) := by decide +kernel
theorem dX13_countOn_57 : decode cX13_countOn 57 = .ok (.iload_n 2, 1) := by decide +kernel
theorem dX13_countOn_58 : decode cX13_countOn 58 = .ok (.aload_n 0, 1) := by decide +kernel
theorem dX13_countOn_59 : decode cX13_countOn 59 = .ok (.iload_n 1, 1) := by decide +kernel
theorem dX13_countOn_60 : decode cX13_countOn 60 = .ok (.iconst 2, 1) := by decide +kernel
theorem dX13_countOn_61 : decode cX13_countOn 61 = .ok (.invokevirtual 249, 3) := by decide +kernel
theorem dX13_countOn_64 : decode cX13_countOn 64 = .ok (.if_icmp .lt 7, 3) := by decide +kernel
theorem dX13_countOn_67 : decode cX13_countOn 67 = .ok (.iconst 1, 1) := by decide +kernel
theorem dX13_countOn_68 : decode cX13_countOn 68 = .ok (.goto 4, 3) := by decide +kernel
theorem dX13_countOn_71 : decode cX13_countOn 71 = .ok (.iconst 0, 1) := by decide +kernel
theorem dX13_countOn_72 : decode cX13_countOn 72 = .ok (.bastore, 1) := by decide +kernel
theorem dX13_countOn_73 : decode cX13_countOn 73 = .ok (.aload_n 0, 1) := by decide +kernel
theorem dX13_countOn_74 : decode cX13_countOn 74 = .ok (.iload_n 1, 1) := by decide +kernel
theorem dX13_countOn_75 : decode cX13_countOn 75 = .ok (.bipush 10, 2) := by decide +kernel
theorem dX13_countOn_77 : decode cX13_countOn 77 = .ok (.aload_n 0, 1) := by decide +kernel
theorem dX13_countOn_78 : decode cX13_countOn 78 = .ok (.getfield 31, 3) := by decide +kernel
theorem dX13_countOn_81 : decode cX13_countOn 81 = .ok (.iload_n 1, 1) := by decide +kernel
theorem dX13_countOn_82 : decode cX13_countOn 82 = .ok (.baload, 1) := by decide +kernel
theorem dX13_countOn_83 : decode cX13_countOn 83 = .ok (.ifCond .eq 14, 3) := by decide +kernel
theorem dX13_countOn_86 : decode cX13_countOn 86 = .ok (.iload_n 2, 1) := by decide +kernel
theorem dX13_countOn_87 : decode cX13_countOn 87 = .ok (.aload_n 0, 1) := by decide +kernel
theorem dX13_countOn_88 : decode cX13_countOn 88 = .ok (.iload_n 1, 1) := by decide +kernel
theorem dX13_countOn_89 : decode cX13_countOn 89 = .ok (.iconst 2, 1) := by decide +kernel
theorem dX13_countOn_90 : decode cX13_countOn 90 = .ok (.invokevirtual 249, 3) := by decide +kernel
theorem dX13_countOn_93 : decode cX13_countOn 93 = .ok (.isub, 1) := by decide +kernel
theorem dX13_countOn_94 : decode cX13_countOn 94 = .ok (.goto 4, 3) := by decide +kernel
theorem dX13_countOn_97 : decode cX13_countOn 97 = .ok (.iload_n 2, 1) := by decide +kernel
theorem dX13_countOn_98 : decode cX13_countOn 98 = .ok (.invokevirtual 282, 3) := by decide +kernel
theorem dX13_countOn_101 : decode cX13_countOn 101 = .ok (.return_, 1) := by decide +kernel
set_option maxRecDepth 20000 in
theorem ggX13_wantsPort_X13_of : GoodIn wsX13_wantsPort wsX13_of := goodIn_r _ [6, 7, 16, 17, 18, 19, 20, 21, 22, 23, 24, 25, 26, 27, 28, 29, 30, 31, 32, 33, 34, 35, 36, 37, 38, 39, 40, 41, 42, 43, 44, 45, 46, 47, 48, 49, 50, 51, 52, 53, 54, 55, 56, 57, 58, 59, 60, 61, 62] (by decide +kernel) (by decide +kernel)
set_option maxRecDepth 20000 in
theorem gX13_wantsPort_X13_of : GoodIn wsX13_wantsPort (wsV RX13 238 RX13 yX13_of wsX13_of) := goodIn_app (goodIn_of _ (by decide +kernel)) ggX13_wantsPort_X13_of
set_option maxRecDepth 20000 in
theorem ggX13_wantsPort_X13_codeOf : GoodIn wsX13_wantsPort wsX13_codeOf := goodIn_r _ [11, 2, 3, 4, 5, 6, 7, 12, 13, 14, 15, 16, 17, 18, 19, 20, 21, 22, 23, 24, 25, 26, 27, 28, 29, 30, 31, 32, 33, 34, 35, 36, 37, 38, 39, 40, 41, 42, 43, 44, 45, 46, 47, 48, 49, 50, 51, 52, 53, 54, 55, 56, 57, 58, 59, 60, 61, 62] (by decide +kernel) (by decide +kernel)
set_option maxRecDepth 20000 in
theorem gX13_wantsPort_X13_codeOf : GoodIn wsX13_wantsPort (wsV RX13 293 RX13 yX13_codeOf wsX13_codeOf) := goodIn_app (goodIn_of _ (by decide +kernel)) ggX13_wantsPort_X13_codeOf
theorem dX13_wantsPort_0 : decode cX13_wantsPort 0 = .ok (.aload_n 0, 1) := by decide +kernel
theorem dX13_wantsPort_1 : decode cX13_wantsPort 1 = .ok (.getfield 31, 3) := by decide +kernel
theorem dX13_wantsPort_4 : decode cX13_wantsPort 4 = .ok (.iload_n 1, 1) := by decide +kernel
theorem dX13_wantsPort_5 : decode cX13_wantsPort 5 = .ok (.baload, 1) := by decide +kernel
theorem dX13_wantsPort_6 : decode cX13_wantsPort 6 = .ok (.ifCond .eq 28, 3) := by decide +kernel
theorem dX13_wantsPort_9 : decode cX13_wantsPort 9 = .ok (.aload_n 0, 1) := by decide +kernel
theorem dX13_wantsPort_10 : decode cX13_wantsPort 10 = .ok (.iload_n 1, 1) := by decide +kernel
theorem dX13_wantsPort_11 : decode cX13_wantsPort 11 = .ok (.bipush 8, 2) := by decide +kernel
theorem dX13_wantsPort_13 : decode cX13_wantsPort 13 = .ok (.invokevirtual 238, 3) := by decide +kernel
theorem dX13_wantsPort_16 : decode cX13_wantsPort 16 = .ok (.ifCond .ne 18, 3) := by decide +kernel
theorem dX13_wantsPort_19 : decode cX13_wantsPort 19 = .ok (.aload_n 0, 1) := by decide +kernel
theorem dX13_wantsPort_20 : decode cX13_wantsPort 20 = .ok (.iload_n 1, 1) := by decide +kernel
theorem dX13_wantsPort_21 : decode cX13_wantsPort 21 = .ok (.iconst 0, 1) := by decide +kernel
theorem dX13_wantsPort_22 : decode cX13_wantsPort 22 = .ok (.invokevirtual 293, 3) := by decide +kernel
theorem dX13_wantsPort_25 : decode cX13_wantsPort 25 = .ok (.bipush 11, 2) := by decide +kernel
theorem dX13_wantsPort_27 : decode cX13_wantsPort 27 = .ok (.if_icmp .lt 7, 3) := by decide +kernel
theorem dX13_wantsPort_30 : decode cX13_wantsPort 30 = .ok (.iconst 1, 1) := by decide +kernel
theorem dX13_wantsPort_31 : decode cX13_wantsPort 31 = .ok (.goto 4, 3) := by decide +kernel
theorem dX13_wantsPort_34 : decode cX13_wantsPort 34 = .ok (.iconst 0, 1) := by decide +kernel
theorem dX13_wantsPort_35 : decode cX13_wantsPort 35 = .ok (.ireturn, 1) := by decide +kernel
set_option maxRecDepth 20000 in
theorem ggX13_givePort_X13_wantsPort : GoodIn wsX13_givePort wsX13_wantsPort := goodIn_r _ [7, 8, 9, 10, 11, 6, 12, 2, 13, 14, 15, 16, 17, 18, 19, 20, 21, 22, 23, 24, 25, 26, 27, 28, 29, 30, 31, 32, 33, 34, 35, 36, 37, 38, 39, 40, 41, 42, 43, 44, 45, 46, 47, 48, 49, 50, 51, 52, 53, 54, 55, 56, 57, 58, 59, 60, 61, 62, 63, 64, 65, 66, 67] (by decide +kernel) (by decide +kernel)
set_option maxRecDepth 20000 in
theorem gX13_givePort_X13_wantsPort : GoodIn wsX13_givePort (wsV RX13 299 RX13 yX13_wantsPort wsX13_wantsPort) := goodIn_app (goodIn_of _ (by decide +kernel)) ggX13_givePort_X13_wantsPort
theorem dX13_givePort_0 : decode cX13_givePort 0 = .ok (.aload_n 0, 1) := by decide +kernel
theorem dX13_givePort_1 : decode cX13_givePort 1 = .ok (.iconst (-1), 1) := by decide +kernel
theorem dX13_givePort_2 : decode cX13_givePort 2 = .ok (.putfield 296, 3) := by decide +kernel
theorem dX13_givePort_5 : decode cX13_givePort 5 = .ok (.iconst 1, 1) := by decide +kernel
theorem dX13_givePort_6 : decode cX13_givePort 6 = .ok (.istore_n 1, 1) := by decide +kernel
theorem dX13_givePort_7 : decode cX13_givePort 7 = .ok (.iload_n 1, 1) := by decide +kernel
theorem dX13_givePort_8 : decode cX13_givePort 8 = .ok (.iconst 4, 1) := by decide +kernel
theorem dX13_givePort_9 : decode cX13_givePort 9 = .ok (.if_icmp .gt 45, 3) := by decide +kernel
theorem dX13_givePort_12 : decode cX13_givePort 12 = .ok (.aload_n 0, 1) := by decide +kernel
theorem dX13_givePort_13 : decode cX13_givePort 13 = .ok (.getfield 296, 3) := by decide +kernel
theorem dX13_givePort_16 : decode cX13_givePort 16 = .ok (.iconst (-1), 1) := by decide +kernel
theorem dX13_givePort_17 : decode cX13_givePort 17 = .ok (.if_icmp .ne 37, 3) := by decide +kernel
theorem dX13_givePort_20 : decode cX13_givePort 20 = .ok (.aload_n 0, 1) := by decide +kernel
theorem dX13_givePort_21 : decode cX13_givePort 21 = .ok (.getfield 9, 3) := by decide +kernel
theorem dX13_givePort_24 : decode cX13_givePort 24 = .ok (.iconst 2, 1) := by decide +kernel
theorem dX13_givePort_25 : decode cX13_givePort 25 = .ok (.iaload, 1) := by decide +kernel
theorem dX13_givePort_26 : decode cX13_givePort 26 = .ok (.iload_n 1, 1) := by decide +kernel
theorem dX13_givePort_27 : decode cX13_givePort 27 = .ok (.iadd, 1) := by decide +kernel
theorem dX13_givePort_28 : decode cX13_givePort 28 = .ok (.iconst 4, 1) := by decide +kernel
theorem dX13_givePort_29 : decode cX13_givePort 29 = .ok (.irem, 1) := by decide +kernel
theorem dX13_givePort_30 : decode cX13_givePort 30 = .ok (.istore_n 2, 1) := by decide +kernel
theorem dX13_givePort_31 : decode cX13_givePort 31 = .ok (.aload_n 0, 1) := by decide +kernel
theorem dX13_givePort_32 : decode cX13_givePort 32 = .ok (.aload_n 0, 1) := by decide +kernel
theorem dX13_givePort_33 : decode cX13_givePort 33 = .ok (.iload_n 2, 1) := by decide +kernel
theorem dX13_givePort_34 : decode cX13_givePort 34 = .ok (.invokevirtual 299, 3) := by decide +kernel
theorem dX13_givePort_37 : decode cX13_givePort 37 = .ok (.ifCond .eq 7, 3) := by decide +kernel
theorem dX13_givePort_40 : decode cX13_givePort 40 = .ok (.iload_n 2, 1) := by decide +kernel
theorem dX13_givePort_41 : decode cX13_givePort 41 = .ok (.goto 4, 3) := by decide +kernel
theorem dX13_givePort_44 : decode cX13_givePort 44 = .ok (.iconst (-1), 1) := by decide +kernel
theorem dX13_givePort_45 : decode cX13_givePort 45 = .ok (.putfield 296, 3) := by decide +kernel
theorem dX13_givePort_48 : decode cX13_givePort 48 = .ok (.iinc 1 1, 3) := by decide +kernel
theorem dX13_givePort_51 : decode cX13_givePort 51 = .ok (.goto (-44), 3) := by decide +kernel
theorem dX13_givePort_54 : decode cX13_givePort 54 = .ok (.aload_n 0, 1) := by decide +kernel
theorem dX13_givePort_55 : decode cX13_givePort 55 = .ok (.getfield 9, 3) := by decide +kernel
theorem dX13_givePort_58 : decode cX13_givePort 58 = .ok (.iconst 2, 1) := by decide +kernel
theorem dX13_givePort_59 : decode cX13_givePort 59 = .ok (.aload_n 0, 1) := by decide +kernel
theorem dX13_givePort_60 : decode cX13_givePort 60 = .ok (.getfield 296, 3) := by decide +kernel
theorem dX13_givePort_63 : decode cX13_givePort 63 = .ok (.iconst (-1), 1) := by decide +kernel
theorem dX13_givePort_64 : decode cX13_givePort 64 = .ok (.if_icmp .ne 12, 3) := by decide +kernel
theorem dX13_givePort_67 : decode cX13_givePort 67 = .ok (.aload_n 0, 1) := by decide +kernel
theorem dX13_givePort_68 : decode cX13_givePort 68 = .ok (.getfield 9, 3) := by decide +kernel
theorem dX13_givePort_71 : decode cX13_givePort 71 = .ok (.iconst 2, 1) := by decide +kernel
theorem dX13_givePort_72 : decode cX13_givePort 72 = .ok (.iaload, 1) := by decide +kernel
theorem dX13_givePort_73 : decode cX13_givePort 73 = .ok (.goto 7, 3) := by decide +kernel
theorem dX13_givePort_76 : decode cX13_givePort 76 = .ok (.aload_n 0, 1) := by decide +kernel
theorem dX13_givePort_77 : decode cX13_givePort 77 = .ok (.getfield 296, 3) := by decide +kernel
theorem dX13_givePort_80 : decode cX13_givePort 80 = .ok (.iastore, 1) := by decide +kernel
theorem dX13_givePort_81 : decode cX13_givePort 81 = .ok (.return_, 1) := by decide +kernel
set_option maxRecDepth 20000 in
theorem ggX13_writeBits_X13_putPin : GoodIn wsX13_writeBits wsX13_putPin := goodIn_r _ [5, 6, 7, 8, 9, 10, 11, 12, 13, 14, 15, 16, 17, 18, 19, 20, 21, 22, 23, 24, 25, 26, 27, 28, 29, 30, 31, 32, 33, 34, 35, 36, 37, 38, 39, 40, 41, 42, 43, 44, 45, 46, 47, 48, 49, 50, 51, 52, 53] (by decide +kernel) (by decide +kernel)
set_option maxRecDepth 20000 in
theorem gX13_writeBits_X13_putPin : GoodIn wsX13_writeBits (wsV RX13 284 RX13 yX13_putPin wsX13_putPin) := goodIn_app (goodIn_of _ (by decide +kernel)) ggX13_writeBits_X13_putPin
theorem dX13_writeBits_0 : decode cX13_writeBits 0 = .ok (.iconst 0, 1) := by decide +kernel
theorem dX13_writeBits_1 : decode cX13_writeBits 1 = .ok (.istore 5, 2) := by decide +kernel
theorem dX13_writeBits_3 : decode cX13_writeBits 3 = .ok (.iload 5, 2) := by decide +kernel
theorem dX13_writeBits_5 : decode cX13_writeBits 5 = .ok (.iload_n 2, 1) := by decide +kernel
theorem dX13_writeBits_6 : decode cX13_writeBits 6 = .ok (.if_icmp .ge 36, 3) := by decide +kernel
theorem dX13_writeBits_9 : decode cX13_writeBits 9 = .ok (.aload_n 0, 1) := by decide +kernel
theorem dX13_writeBits_10 : decode cX13_writeBits 10 = .ok (.iload_n 1, 1) := by decide +kernel
theorem dX13_writeBits_11 : decode cX13_writeBits 11 = .ok (.iload 5, 2) := by decide +kernel
theorem dX13_writeBits_13 : decode cX13_writeBits 13 = .ok (.iadd, 1) := by decide +kernel
theorem dX13_writeBits_14 : decode cX13_writeBits 14 = .ok (.bipush 16, 2) := by decide +kernel
theorem dX13_writeBits_16 : decode cX13_writeBits 16 = .ok (.irem, 1) := by decide +kernel
theorem dX13_writeBits_17 : decode cX13_writeBits 17 = .ok (.iload 4, 2) := by decide +kernel
theorem dX13_writeBits_19 : decode cX13_writeBits 19 = .ok (.ifCond .eq 7, 3) := by decide +kernel
theorem dX13_writeBits_22 : decode cX13_writeBits 22 = .ok (.iconst 1, 1) := by decide +kernel
theorem dX13_writeBits_23 : decode cX13_writeBits 23 = .ok (.goto 4, 3) := by decide +kernel
theorem dX13_writeBits_26 : decode cX13_writeBits 26 = .ok (.iconst 0, 1) := by decide +kernel
theorem dX13_writeBits_27 : decode cX13_writeBits 27 = .ok (.iload_n 3, 1) := by decide +kernel
theorem dX13_writeBits_28 : decode cX13_writeBits 28 = .ok (.iload 5, 2) := by decide +kernel
theorem dX13_writeBits_30 : decode cX13_writeBits 30 = .ok (.ishr, 1) := by decide +kernel
theorem dX13_writeBits_31 : decode cX13_writeBits 31 = .ok (.iconst 1, 1) := by decide +kernel
theorem dX13_writeBits_32 : decode cX13_writeBits 32 = .ok (.iand, 1) := by decide +kernel
theorem dX13_writeBits_33 : decode cX13_writeBits 33 = .ok (.invokevirtual 284, 3) := by decide +kernel
theorem dX13_writeBits_36 : decode cX13_writeBits 36 = .ok (.iinc 5 1, 3) := by decide +kernel
theorem dX13_writeBits_39 : decode cX13_writeBits 39 = .ok (.goto (-36), 3) := by decide +kernel
theorem dX13_writeBits_42 : decode cX13_writeBits 42 = .ok (.return_, 1) := by decide +kernel
set_option maxRecDepth 20000 in
theorem ggX13_writeAll_X13_writeBits : GoodIn wsX13_writeAll wsX13_writeBits := goodIn_r _ [10, 11, 12, 13, 9, 14, 15, 20, 21, 22, 23, 24, 25, 26, 27, 28, 29, 30, 31, 32, 33, 34, 35, 36, 37, 38, 39, 40, 41, 42, 43, 44, 45, 46, 47, 48, 49, 50, 51, 52, 53, 54, 55, 56, 57, 58, 59, 60, 61, 62, 63, 64, 65, 66] (by decide +kernel) (by decide +kernel)
set_option maxRecDepth 20000 in
theorem gX13_writeAll_X13_writeBits : GoodIn wsX13_writeAll (wsV RX13 302 RX13 yX13_writeBits wsX13_writeBits) := goodIn_app (goodIn_of _ (by decide +kernel)) ggX13_writeAll_X13_writeBits
set_option maxRecDepth 20000 in
theorem ggX13_writeAll_X13_setting : GoodIn wsX13_writeAll wsX13_setting := goodIn_r _ [19, 15, 20, 21, 22, 23, 24, 25, 26, 27, 28, 29, 30, 31, 32, 33, 34, 35, 36, 37, 38, 39, 40, 41, 42, 43, 44, 45, 46, 47, 48, 49, 50, 51, 52, 53, 54, 55, 56, 57, 58, 59, 60, 61, 62, 63, 64, 65, 66] (by decide +kernel) (by decide +kernel)
set_option maxRecDepth 20000 in
theorem gX13_writeAll_X13_setting : GoodIn wsX13_writeAll (wsV RX13 249 RX13 yX13_setting wsX13_setting) := goodIn_app (goodIn_of _ (by decide +kernel)) ggX13_writeAll_X13_setting
theorem dX13_writeAll_0 : decode cX13_writeAll 0 = .ok (.aload_n 0, 1) := by decide +kernel
theorem dX13_writeAll_1 : decode cX13_writeAll 1 = .ok (.getfield 35, 3) := by decide +kernel
theorem dX13_writeAll_4 : decode cX13_writeAll 4 = .ok (.iload_n 1, 1) := by decide +kernel
theorem dX13_writeAll_5 : decode cX13_writeAll 5 = .ok (.iaload, 1) := by decide +kernel
theorem dX13_writeAll_6 : decode cX13_writeAll 6 = .ok (.iconst (-1), 1) := by decide +kernel
theorem dX13_writeAll_7 : decode cX13_writeAll 7 = .ok (.if_icmp .eq 41, 3) := by decide +kernel
theorem dX13_writeAll_10 : decode cX13_writeAll 10 = .ok (.aload_n 0, 1) := by decide +kernel
theorem dX13_writeAll_11 : decode cX13_writeAll 11 = .ok (.aload_n 0, 1) := by decide +kernel
theorem dX13_writeAll_12 : decode cX13_writeAll 12 = .ok (.getfield 38, 3) := by decide +kernel
theorem dX13_writeAll_15 : decode cX13_writeAll 15 = .ok (.iload_n 1, 1) := by decide +kernel
theorem dX13_writeAll_16 : decode cX13_writeAll 16 = .ok (.iaload, 1) := by decide +kernel
theorem dX13_writeAll_17 : decode cX13_writeAll 17 = .ok (.aload_n 0, 1) := by decide +kernel
theorem dX13_writeAll_18 : decode cX13_writeAll 18 = .ok (.getfield 41, 3) := by decide +kernel
theorem dX13_writeAll_21 : decode cX13_writeAll 21 = .ok (.iload_n 1, 1) := by decide +kernel
theorem dX13_writeAll_22 : decode cX13_writeAll 22 = .ok (.iaload, 1) := by decide +kernel
theorem dX13_writeAll_23 : decode cX13_writeAll 23 = .ok (.aload_n 0, 1) := by decide +kernel
theorem dX13_writeAll_24 : decode cX13_writeAll 24 = .ok (.getfield 44, 3) := by decide +kernel
theorem dX13_writeAll_27 : decode cX13_writeAll 27 = .ok (.iload_n 1, 1) := by decide +kernel
theorem dX13_writeAll_28 : decode cX13_writeAll 28 = .ok (.iaload, 1) := by decide +kernel
theorem dX13_writeAll_29 : decode cX13_writeAll 29 = .ok (.aload_n 0, 1) := by decide +kernel
theorem dX13_writeAll_30 : decode cX13_writeAll 30 = .ok (.getfield 35, 3) := by decide +kernel
theorem dX13_writeAll_33 : decode cX13_writeAll 33 = .ok (.iload_n 1, 1) := by decide +kernel
theorem dX13_writeAll_34 : decode cX13_writeAll 34 = .ok (.iaload, 1) := by decide +kernel
theorem dX13_writeAll_35 : decode cX13_writeAll 35 = .ok (.bipush 7, 2) := by decide +kernel
theorem dX13_writeAll_37 : decode cX13_writeAll 37 = .ok (.if_icmp .ne 7, 3) := by decide +kernel
theorem dX13_writeAll_40 : decode cX13_writeAll 40 = .ok (.iconst 1, 1) := by decide +kernel
theorem dX13_writeAll_41 : decode cX13_writeAll 41 = .ok (.goto 4, 3) := by decide +kernel
theorem dX13_writeAll_44 : decode cX13_writeAll 44 = .ok (.iconst 0, 1) := by decide +kernel
theorem dX13_writeAll_45 : decode cX13_writeAll 45 = .ok (.invokevirtual 302, 3) := by decide +kernel
theorem dX13_writeAll_48 : decode cX13_writeAll 48 = .ok (.aload_n 0, 1) := by decide +kernel
theorem dX13_writeAll_49 : decode cX13_writeAll 49 = .ok (.getfield 47, 3) := by decide +kernel
theorem dX13_writeAll_52 : decode cX13_writeAll 52 = .ok (.iload_n 1, 1) := by decide +kernel
theorem dX13_writeAll_53 : decode cX13_writeAll 53 = .ok (.iaload, 1) := by decide +kernel
theorem dX13_writeAll_54 : decode cX13_writeAll 54 = .ok (.iconst (-1), 1) := by decide +kernel
theorem dX13_writeAll_55 : decode cX13_writeAll 55 = .ok (.if_icmp .eq 28, 3) := by decide +kernel
theorem dX13_writeAll_58 : decode cX13_writeAll 58 = .ok (.aload_n 0, 1) := by decide +kernel
theorem dX13_writeAll_59 : decode cX13_writeAll 59 = .ok (.aload_n 0, 1) := by decide +kernel
theorem dX13_writeAll_60 : decode cX13_writeAll 60 = .ok (.iload_n 1, 1) := by decide +kernel
theorem dX13_writeAll_61 : decode cX13_writeAll 61 = .ok (.bipush 9, 2) := by decide +kernel
theorem dX13_writeAll_63 : decode cX13_writeAll 63 = .ok (.invokevirtual 249, 3) := by decide +kernel
theorem dX13_writeAll_66 : decode cX13_writeAll 66 = .ok (.aload_n 0, 1) := by decide +kernel
theorem dX13_writeAll_67 : decode cX13_writeAll 67 = .ok (.iload_n 1, 1) := by decide +kernel
theorem dX13_writeAll_68 : decode cX13_writeAll 68 = .ok (.bipush 10, 2) := by decide +kernel
theorem dX13_writeAll_70 : decode cX13_writeAll 70 = .ok (.invokevirtual 249, 3) := by decide +kernel
theorem dX13_writeAll_73 : decode cX13_writeAll 73 = .ok (.aload_n 0, 1) := by decide +kernel
theorem dX13_writeAll_74 : decode cX13_writeAll 74 = .ok (.getfield 47, 3) := by decide +kernel
theorem dX13_writeAll_77 : decode cX13_writeAll 77 = .ok (.iload_n 1, 1) := by decide +kernel
theorem dX13_writeAll_78 : decode cX13_writeAll 78 = .ok (.iaload, 1) := by decide +kernel
theorem dX13_writeAll_79 : decode cX13_writeAll 79 = .ok (.iconst 0, 1) := by decide +kernel
theorem dX13_writeAll_80 : decode cX13_writeAll 80 = .ok (.invokevirtual 302, 3) := by decide +kernel
theorem dX13_writeAll_83 : decode cX13_writeAll 83 = .ok (.return_, 1) := by decide +kernel
set_option maxRecDepth 20000 in
theorem ggX13_recordLevels_X13_levelOf : GoodIn wsX13_recordLevels wsX13_levelOf := goodIn_r _ [6, 7, 8, 9, 5, 10, 1, 15, 16, 17, 18, 19, 20, 21, 22, 23, 24, 25, 26, 27, 28, 29, 30, 31, 32, 33, 34, 35, 36, 37, 38, 39, 40, 41, 42, 43, 44, 45, 46, 47, 48, 49, 50, 51, 52, 53, 54, 55, 56, 57, 58, 59, 60, 61] (by decide +kernel) (by decide +kernel)
set_option maxRecDepth 20000 in
theorem gX13_recordLevels_X13_levelOf : GoodIn wsX13_recordLevels (wsV RX13 262 RX13 yX13_levelOf wsX13_levelOf) := goodIn_app (goodIn_of _ (by decide +kernel)) ggX13_recordLevels_X13_levelOf
set_option maxRecDepth 20000 in
theorem ggX13_recordLevels_X13_ofPin : GoodIn wsX13_recordLevels wsX13_ofPin := goodIn_r _ [10, 1, 15, 16, 17, 18, 19, 20, 21, 22, 23, 24, 25, 26, 27, 28, 29, 30, 31, 32, 33, 34, 35, 36, 37, 38, 39, 40, 41, 42, 43, 44, 45, 46, 47, 48, 49, 50, 51, 52, 53, 54, 55, 56, 57, 58, 59, 60, 61] (by decide +kernel) (by decide +kernel)
set_option maxRecDepth 20000 in
theorem gX13_recordLevels_X13_ofPin : GoodIn wsX13_recordLevels (wsV RX13 252 RX13 yX13_ofPin wsX13_ofPin) := goodIn_app (goodIn_of _ (by decide +kernel)) ggX13_recordLevels_X13_ofPin
set_option maxRecDepth 20000 in
theorem ggX13_recordLevels_X13_putPin : GoodIn wsX13_recordLevels wsX13_putPin := goodIn_r _ [14, 1, 15, 16, 17, 18, 19, 20, 21, 22, 23, 24, 25, 26, 27, 28, 29, 30, 31, 32, 33, 34, 35, 36, 37, 38, 39, 40, 41, 42, 43, 44, 45, 46, 47, 48, 49, 50, 51, 52, 53, 54, 55, 56, 57, 58, 59, 60, 61] (by decide +kernel) (by decide +kernel)
set_option maxRecDepth 20000 in
theorem gX13_recordLevels_X13_putPin : GoodIn wsX13_recordLevels (wsV RX13 284 RX13 yX13_putPin wsX13_putPin) := goodIn_app (goodIn_of _ (by decide +kernel)) ggX13_recordLevels_X13_putPin
theorem dX13_recordLevels_0 : decode cX13_recordLevels 0 = .ok (.iconst 0, 1) := by decide +kernel
theorem dX13_recordLevels_1 : decode cX13_recordLevels 1 = .ok (.istore_n 1, 1) := by decide +kernel
theorem dX13_recordLevels_2 : decode cX13_recordLevels 2 = .ok (.iconst 0, 1) := by decide +kernel
theorem dX13_recordLevels_3 : decode cX13_recordLevels 3 = .ok (.istore_n 2, 1) := by decide +kernel
theorem dX13_recordLevels_4 : decode cX13_recordLevels 4 = .ok (.iload_n 2, 1) := by decide +kernel
theorem dX13_recordLevels_5 : decode cX13_recordLevels 5 = .ok (.bipush 16, 2) := by decide +kernel
theorem dX13_recordLevels_7 : decode cX13_recordLevels 7 = .ok (.if_icmp .ge 70, 3) := by decide +kernel
theorem dX13_recordLevels_10 : decode cX13_recordLevels 10 = .ok (.aload_n 0, 1) := by decide +kernel
theorem dX13_recordLevels_11 : decode cX13_recordLevels 11 = .ok (.iload_n 2, 1) := by decide +kernel
theorem dX13_recordLevels_12 : decode cX13_recordLevels 12 = .ok (.invokevirtual 262, 3) := by decide +kernel
theorem dX13_recordLevels_15 : decode cX13_recordLevels 15 = .ok (.istore_n 3, 1) := by decide +kernel
theorem dX13_recordLevels_16 : decode cX13_recordLevels 16 = .ok (.iload_n 1, 1) := by decide +kernel
theorem dX13_recordLevels_17 : decode cX13_recordLevels 17 = .ok (.iload_n 3, 1) := by decide +kernel
theorem dX13_recordLevels_18 : decode cX13_recordLevels 18 = .ok (.iload_n 2, 1) := by decide +kernel
theorem dX13_recordLevels_19 : decode cX13_recordLevels 19 = .ok (.ishl, 1) := by decide +kernel
theorem dX13_recordLevels_20 : decode cX13_recordLevels 20 = .ok (.ior, 1) := by decide +kernel
theorem dX13_recordLevels_21 : decode cX13_recordLevels 21 = .ok (.istore_n 1, 1) := by decide +kernel
theorem dX13_recordLevels_22 : decode cX13_recordLevels 22 = .ok (.aload_n 0, 1) := by decide +kernel
theorem dX13_recordLevels_23 : decode cX13_recordLevels 23 = .ok (.iload_n 2, 1) := by decide +kernel
theorem dX13_recordLevels_24 : decode cX13_recordLevels 24 = .ok (.iconst 4, 1) := by decide +kernel
theorem dX13_recordLevels_25 : decode cX13_recordLevels 25 = .ok (.aload_n 0, 1) := by decide +kernel
theorem dX13_recordLevels_26 : decode cX13_recordLevels 26 = .ok (.iload_n 2, 1) := by decide +kernel
theorem dX13_recordLevels_27 : decode cX13_recordLevels 27 = .ok (.iconst 4, 1) := by decide +kernel
theorem dX13_recordLevels_28 : decode cX13_recordLevels 28 = .ok (.invokevirtual 252, 3) := by decide +kernel
theorem dX13_recordLevels_31 : decode cX13_recordLevels 31 = .ok (.iload_n 3, 1) := by decide +kernel
theorem dX13_recordLevels_32 : decode cX13_recordLevels 32 = .ok (.aload_n 0, 1) := by decide +kernel
theorem dX13_recordLevels_33 : decode cX13_recordLevels 33 = .ok (.iload_n 2, 1) := by decide +kernel
theorem dX13_recordLevels_34 : decode cX13_recordLevels 34 = .ok (.iconst 3, 1) := by decide +kernel
theorem dX13_recordLevels_35 : decode cX13_recordLevels 35 = .ok (.invokevirtual 252, 3) := by decide +kernel
theorem dX13_recordLevels_38 : decode cX13_recordLevels 38 = .ok (.if_icmp .eq 7, 3) := by decide +kernel
theorem dX13_recordLevels_41 : decode cX13_recordLevels 41 = .ok (.iconst 1, 1) := by decide +kernel
theorem dX13_recordLevels_42 : decode cX13_recordLevels 42 = .ok (.goto 4, 3) := by decide +kernel
theorem dX13_recordLevels_45 : decode cX13_recordLevels 45 = .ok (.iconst 0, 1) := by decide +kernel
theorem dX13_recordLevels_46 : decode cX13_recordLevels 46 = .ok (.iadd, 1) := by decide +kernel
theorem dX13_recordLevels_47 : decode cX13_recordLevels 47 = .ok (.invokevirtual 284, 3) := by decide +kernel
theorem dX13_recordLevels_50 : decode cX13_recordLevels 50 = .ok (.aload_n 0, 1) := by decide +kernel
theorem dX13_recordLevels_51 : decode cX13_recordLevels 51 = .ok (.iload_n 2, 1) := by decide +kernel
theorem dX13_recordLevels_52 : decode cX13_recordLevels 52 = .ok (.iconst 5, 1) := by decide +kernel
theorem dX13_recordLevels_53 : decode cX13_recordLevels 53 = .ok (.aload_n 0, 1) := by decide +kernel
theorem dX13_recordLevels_54 : decode cX13_recordLevels 54 = .ok (.iload_n 2, 1) := by decide +kernel
theorem dX13_recordLevels_55 : decode cX13_recordLevels 55 = .ok (.iconst 5, 1) := by decide +kernel
theorem dX13_recordLevels_56 : decode cX13_recordLevels 56 = .ok (.invokevirtual 252, 3) := by decide +kernel
theorem dX13_recordLevels_59 : decode cX13_recordLevels 59 = .ok (.iload_n 3, 1) := by decide +kernel
theorem dX13_recordLevels_60 : decode cX13_recordLevels 60 = .ok (.iadd, 1) := by decide +kernel
theorem dX13_recordLevels_61 : decode cX13_recordLevels 61 = .ok (.invokevirtual 284, 3) := by decide +kernel
theorem dX13_recordLevels_64 : decode cX13_recordLevels 64 = .ok (.aload_n 0, 1) := by decide +kernel
theorem dX13_recordLevels_65 : decode cX13_recordLevels 65 = .ok (.iload_n 2, 1) := by decide +kernel
theorem dX13_recordLevels_66 : decode cX13_recordLevels 66 = .ok (.iconst 3, 1) := by decide +kernel
theorem dX13_recordLevels_67 : decode cX13_recordLevels 67 = .ok (.iload_n 3, 1) := by decide +kernel
theorem dX13_recordLevels_68 : decode cX13_recordLevels 68 = .ok (.invokevirtual 284, 3) := by decide +kernel
theorem dX13_recordLevels_71 : decode cX13_recordLevels 71 = .ok (.iinc 2 1, 3) := by decide +kernel
theorem dX13_recordLevels_74 : decode cX13_recordLevels 74 = .ok (.goto (-70), 3) := by decide +kernel
theorem dX13_recordLevels_77 : decode cX13_recordLevels 77 = .ok (.aload_n 0, 1) := by decide +kernel
theorem dX13_recordLevels_78 : decode cX13_recordLevels 78 = .ok (.getfield 9, 3) := by decide +kernel
theorem dX13_recordLevels_81 : decode cX13_recordLevels 81 = .ok (.sipush 220, 3) := by decide +kernel
theorem dX13_recordLevels_84 : decode cX13_recordLevels 84 = .ok (.aload_n 0, 1) := by decide +kernel
theorem dX13_recordLevels_85 : decode cX13_recordLevels 85 = .ok (.getfield 9, 3) := by decide +kernel
theorem dX13_recordLevels_88 : decode cX13_recordLevels 88 = .ok (.iconst 1, 1) := by decide +kernel
theorem dX13_recordLevels_89 : decode cX13_recordLevels 89 = .ok (.iaload, 1) := by decide +kernel
theorem dX13_recordLevels_90 : decode cX13_recordLevels 90 = .ok (.bipush 64, 2) := by decide +kernel
theorem dX13_recordLevels_92 : decode cX13_recordLevels 92 = .ok (.irem, 1) := by decide +kernel
theorem dX13_recordLevels_93 : decode cX13_recordLevels 93 = .ok (.iadd, 1) := by decide +kernel
theorem dX13_recordLevels_94 : decode cX13_recordLevels 94 = .ok (.iload_n 1, 1) := by decide +kernel
theorem dX13_recordLevels_95 : decode cX13_recordLevels 95 = .ok (.iastore, 1) := by decide +kernel
theorem dX13_recordLevels_96 : decode cX13_recordLevels 96 = .ok (.return_, 1) := by decide +kernel
set_option maxRecDepth 20000 in
theorem ggX13_passCycle_X13_applyScheduled : GoodIn wsX13_passCycle wsX13_applyScheduled := goodIn_r _ [9, 2, 10, 11, 12, 8, 13, 201, 202, 203, 204, 205, 206, 207, 208, 209, 210, 211, 212, 213, 214, 215, 216, 217, 218, 219, 220, 221, 222, 223, 224, 225, 226, 227, 228, 229, 230, 231, 232, 233, 234, 235, 236, 237, 238, 239, 240, 241, 242, 243, 244, 245, 246, 247] (by decide +kernel) (by decide +kernel)
set_option maxRecDepth 20000 in
theorem gX13_passCycle_X13_applyScheduled : GoodIn wsX13_passCycle (wsV RX13 306 RX13 yX13_applyScheduled wsX13_applyScheduled) := goodIn_app (goodIn_of _ (by decide +kernel)) ggX13_passCycle_X13_applyScheduled
set_option maxRecDepth 20000 in
theorem ggX13_passCycle_X13_readAll : GoodIn wsX13_passCycle wsX13_readAll := goodIn_r _ [17, 18, 19, 2, 3, 4, 20, 21, 22, 8, 23, 24, 25, 26, 27, 201, 202, 203, 204, 205, 206, 207, 208, 209, 210, 211, 212, 213, 214, 215, 216, 217, 218, 219, 220, 221, 222, 223, 224, 225, 226, 227, 228, 229, 230, 231, 232, 233, 234, 235, 236, 237, 238, 239, 240, 241, 242, 243, 244, 245, 246, 247] (by decide +kernel) (by decide +kernel)
set_option maxRecDepth 20000 in
theorem gX13_passCycle_X13_readAll : GoodIn wsX13_passCycle (wsV RX13 309 RX13 yX13_readAll wsX13_readAll) := goodIn_app (goodIn_of _ (by decide +kernel)) ggX13_passCycle_X13_readAll
set_option maxRecDepth 20000 in
theorem ggX13_passCycle_X13_countOn : GoodIn wsX13_passCycle wsX13_countOn := goodIn_r _ [31, 1, 32, 33, 34, 35, 36, 8, 37, 2, 38, 39, 40, 41, 42, 43, 44, 45, 201, 202, 203, 204, 205, 206, 207, 208, 209, 210, 211, 212, 213, 214, 215, 216, 217, 218, 219, 220, 221, 222, 223, 224, 225, 226, 227, 228, 229, 230, 231, 232, 233, 234, 235, 236, 237, 238, 239, 240, 241, 242, 243, 244, 245, 246, 247] (by decide +kernel) (by decide +kernel)
set_option maxRecDepth 20000 in
theorem gX13_passCycle_X13_countOn : GoodIn wsX13_passCycle (wsV RX13 312 RX13 yX13_countOn wsX13_countOn) := goodIn_app (goodIn_of _ (by decide +kernel)) ggX13_passCycle_X13_countOn
set_option maxRecDepth 20000 in
theorem ggX13_passCycle_X13_givePort : GoodIn wsX13_passCycle wsX13_givePort := goodIn_r _ [49, 50, 2, 51, 52, 53, 8, 54, 1, 38, 39, 40, 41, 55, 56, 57, 58, 59, 60, 61, 62, 201, 202, 203, 204, 205, 206, 207, 208, 209, 210, 211, 212, 213, 214, 215, 216, 217, 218, 219, 220, 221, 222, 223, 224, 225, 226, 227, 228, 229, 230, 231, 232, 233, 234, 235, 236, 237, 238, 239, 240, 241, 242, 243, 244, 245, 246, 247] (by decide +kernel) (by decide +kernel)
set_option maxRecDepth 20000 in
theorem gX13_passCycle_X13_givePort : GoodIn wsX13_passCycle (wsV RX13 316 RX13 yX13_givePort wsX13_givePort) := goodIn_app (goodIn_of _ (by decide +kernel)) ggX13_passCycle_X13_givePort
set_option maxRecDepth 20000 in
theorem ggX13_passCycle_X13_tick : GoodIn wsX13_passCycle wsX13_tick := goodIn_r _ [66, 33, 67, 38, 39, 40, 8, 41, 2, 68, 69, 70, 71, 72, 73, 74, 75, 55, 56, 57, 58, 59, 60, 61, 62, 76, 77, 78, 79, 3, 4, 50, 80, 81, 82, 83, 84, 85, 86, 87, 18, 88, 89, 90, 91, 34, 35, 36, 37, 92, 93, 94, 95, 19, 96, 97, 98, 99, 100, 101, 102, 103, 104, 105, 106, 107, 108, 109, 110, 111, 112, 113, 114, 115, 116, 117, 118, 42, 43, 44, 45, 119, 120, 121, 122, 123, 124, 125, 126, 127, 128, 129, 130, 131, 132, 133, 134, 135, 136, 137, 138, 139, 140, 141, 142, 143, 144, 145, 146, 32, 147, 148, 149, 150, 151, 152, 153, 154, 155, 156, 157, 158, 159, 160, 161, 162, 163, 164, 165, 166, 167, 168, 169, 170, 171, 172, 173, 174, 175, 176, 177, 178, 179, 180, 181, 182, 183, 184, 185, 186, 187, 188, 201, 202, 203, 204, 205, 206, 207, 208, 209, 210, 211, 212, 213, 214, 215, 216, 217, 218, 219, 220, 221, 222, 223, 224, 225, 226, 227, 228, 229, 230, 231, 232, 233, 234, 235, 236, 237, 238, 239, 240, 241, 242, 243, 244, 245, 246, 247] (by decide +kernel) (by decide +kernel)
set_option maxRecDepth 20000 in
theorem gX13_passCycle_X13_tick : GoodIn wsX13_passCycle (wsV RX13 319 RX13 yX13_tick wsX13_tick) := goodIn_app (goodIn_of _ (by decide +kernel)) ggX13_passCycle_X13_tick
set_option maxRecDepth 20000 in
theorem ggX13_passCycle_X13_writeAll : GoodIn wsX13_passCycle wsX13_writeAll := goodIn_r _ [192, 32, 147, 148, 149, 33, 193, 194, 195, 8, 196, 10, 11, 12, 13, 2, 34, 35, 36, 37, 201, 202, 203, 204, 205, 206, 207, 208, 209, 210, 211, 212, 213, 214, 215, 216, 217, 218, 219, 220, 221, 222, 223, 224, 225, 226, 227, 228, 229, 230, 231, 232, 233, 234, 235, 236, 237, 238, 239, 240, 241, 242, 243, 244, 245, 246, 247] (by decide +kernel) (by decide +kernel)
set_option maxRecDepth 20000 in
theorem gX13_passCycle_X13_writeAll : GoodIn wsX13_passCycle (wsV RX13 322 RX13 yX13_writeAll wsX13_writeAll) := goodIn_app (goodIn_of _ (by decide +kernel)) ggX13_passCycle_X13_writeAll
set_option maxRecDepth 20000 in
theorem ggX13_passCycle_X13_recordLevels : GoodIn wsX13_passCycle wsX13_recordLevels := goodIn_r _ [200, 2, 20, 21, 22, 8, 23, 24, 25, 26, 27, 10, 11, 12, 13, 201, 202, 203, 204, 205, 206, 207, 208, 209, 210, 211, 212, 213, 214, 215, 216, 217, 218, 219, 220, 221, 222, 223, 224, 225, 226, 227, 228, 229, 230, 231, 232, 233, 234, 235, 236, 237, 238, 239, 240, 241, 242, 243, 244, 245, 246, 247] (by decide +kernel) (by decide +kernel)
set_option maxRecDepth 20000 in
theorem gX13_passCycle_X13_recordLevels : GoodIn wsX13_passCycle (wsV RX13 325 RX13 yX13_recordLevels wsX13_recordLevels) := goodIn_app (goodIn_of _ (by decide +kernel)) ggX13_passCycle_X13_recordLevels
theorem dX13_passCycle_0 : decode cX13_passCycle 0 = .ok (.aload_n 0, 1) := by decide +kernel
theorem dX13_passCycle_1 : decode cX13_passCycle 1 = .ok (.invokevirtual 306, 3) := by decide +kernel
theorem dX13_passCycle_4 : decode cX13_passCycle 4 = .ok (.aload_n 0, 1) := by decide +kernel
theorem dX13_passCycle_5 : decode cX13_passCycle 5 = .ok (.invokevirtual 309, 3) := by decide +kernel
theorem dX13_passCycle_8 : decode cX13_passCycle 8 = .ok (.iconst 0, 1) := by decide +kernel
theorem dX13_passCycle_9 : decode cX13_passCycle 9 = .ok (.istore_n 1, 1) := by decide +kernel
theorem dX13_passCycle_10 : decode cX13_passCycle 10 = .ok (.iload_n 1, 1) := by decide +kernel
theorem dX13_passCycle_11 : decode cX13_passCycle 11 = .ok (.iconst 4, 1) := by decide +kernel
theorem dX13_passCycle_12 : decode cX13_passCycle 12 = .ok (.if_icmp .ge 14, 3) := by decide +kernel
theorem dX13_passCycle_15 : decode cX13_passCycle 15 = .ok (.aload_n 0, 1) := by decide +kernel
theorem dX13_passCycle_16 : decode cX13_passCycle 16 = .ok (.iload_n 1, 1) := by decide +kernel
theorem dX13_passCycle_17 : decode cX13_passCycle 17 = .ok (.invokevirtual 312, 3) := by decide +kernel
theorem dX13_passCycle_20 : decode cX13_passCycle 20 = .ok (.iinc 1 1, 3) := by decide +kernel
theorem dX13_passCycle_23 : decode cX13_passCycle 23 = .ok (.goto (-13), 3) := by decide +kernel
theorem dX13_passCycle_26 : decode cX13_passCycle 26 = .ok (.aload_n 0, 1) := by decide +kernel
theorem dX13_passCycle_27 : decode cX13_passCycle 27 = .ok (.invokevirtual 316, 3) := by decide +kernel
theorem dX13_passCycle_30 : decode cX13_passCycle 30 = .ok (.iconst 0, 1) := by decide +kernel
theorem dX13_passCycle_31 : decode cX13_passCycle 31 = .ok (.istore_n 1, 1) := by decide +kernel
theorem dX13_passCycle_32 : decode cX13_passCycle 32 = .ok (.iload_n 1, 1) := by decide +kernel
theorem dX13_passCycle_33 : decode cX13_passCycle 33 = .ok (.iconst 4, 1) := by decide +kernel
theorem dX13_passCycle_34 : decode cX13_passCycle 34 = .ok (.if_icmp .ge 23, 3) := by decide +kernel
theorem dX13_passCycle_37 : decode cX13_passCycle 37 = .ok (.aload_n 0, 1) := by decide +kernel
theorem dX13_passCycle_38 : decode cX13_passCycle 38 = .ok (.getfield 31, 3) := by decide +kernel
theorem dX13_passCycle_41 : decode cX13_passCycle 41 = .ok (.iload_n 1, 1) := by decide +kernel
theorem dX13_passCycle_42 : decode cX13_passCycle 42 = .ok (.baload, 1) := by decide +kernel
theorem dX13_passCycle_43 : decode cX13_passCycle 43 = .ok (.ifCond .eq 8, 3) := by decide +kernel
theorem dX13_passCycle_46 : decode cX13_passCycle 46 = .ok (.aload_n 0, 1) := by decide +kernel
theorem dX13_passCycle_47 : decode cX13_passCycle 47 = .ok (.iload_n 1, 1) := by decide +kernel
theorem dX13_passCycle_48 : decode cX13_passCycle 48 = .ok (.invokevirtual 319, 3) := by decide +kernel
theorem dX13_passCycle_51 : decode cX13_passCycle 51 = .ok (.iinc 1 1, 3) := by decide +kernel
theorem dX13_passCycle_54 : decode cX13_passCycle 54 = .ok (.goto (-22), 3) := by decide +kernel
theorem dX13_passCycle_57 : decode cX13_passCycle 57 = .ok (.iconst 0, 1) := by decide +kernel
theorem dX13_passCycle_58 : decode cX13_passCycle 58 = .ok (.istore_n 1, 1) := by decide +kernel
theorem dX13_passCycle_59 : decode cX13_passCycle 59 = .ok (.iload_n 1, 1) := by decide +kernel
theorem dX13_passCycle_60 : decode cX13_passCycle 60 = .ok (.iconst 4, 1) := by decide +kernel
theorem dX13_passCycle_61 : decode cX13_passCycle 61 = .ok (.if_icmp .ge 14, 3) := by decide +kernel
theorem dX13_passCycle_64 : decode cX13_passCycle 64 = .ok (.aload_n 0, 1) := by decide +kernel
theorem dX13_passCycle_65 : decode cX13_passCycle 65 = .ok (.iload_n 1, 1) := by decide +kernel
theorem dX13_passCycle_66 : decode cX13_passCycle 66 = .ok (.invokevirtual 322, 3) := by decide +kernel
theorem dX13_passCycle_69 : decode cX13_passCycle 69 = .ok (.iinc 1 1, 3) := by decide +kernel
theorem dX13_passCycle_72 : decode cX13_passCycle 72 = .ok (.goto (-13), 3) := by decide +kernel
theorem dX13_passCycle_75 : decode cX13_passCycle 75 = .ok (.iconst 0, 1) := by decide +kernel
theorem dX13_passCycle_76 : decode cX13_passCycle 76 = .ok (.istore_n 1, 1) := by decide +kernel
theorem dX13_passCycle_77 : decode cX13_passCycle 77 = .ok (.iload_n 1, 1) := by decide +kernel
theorem dX13_passCycle_78 : decode cX13_passCycle 78 = .ok (.bipush 8, 2) := by decide +kernel
theorem dX13_passCycle_80 : decode cX13_passCycle 80 = .ok (.if_icmp .ge 59, 3) := by decide +kernel
theorem dX13_passCycle_83 : decode cX13_passCycle 83 = .ok (.aload_n 0, 1) := by decide +kernel
theorem dX13_passCycle_84 : decode cX13_passCycle 84 = .ok (.getfield 9, 3) := by decide +kernel
theorem dX13_passCycle_87 : decode cX13_passCycle 87 = .ok (.bipush 100, 2) := by decide +kernel
theorem dX13_passCycle_89 : decode cX13_passCycle 89 = .ok (.iload_n 1, 1) := by decide +kernel
theorem dX13_passCycle_90 : decode cX13_passCycle 90 = .ok (.iadd, 1) := by decide +kernel
theorem dX13_passCycle_91 : decode cX13_passCycle 91 = .ok (.aload_n 0, 1) := by decide +kernel
theorem dX13_passCycle_92 : decode cX13_passCycle 92 = .ok (.getfield 287, 3) := by decide +kernel
theorem dX13_passCycle_95 : decode cX13_passCycle 95 = .ok (.iload_n 1, 1) := by decide +kernel
theorem dX13_passCycle_96 : decode cX13_passCycle 96 = .ok (.ishr, 1) := by decide +kernel
theorem dX13_passCycle_97 : decode cX13_passCycle 97 = .ok (.iconst 1, 1) := by decide +kernel
theorem dX13_passCycle_98 : decode cX13_passCycle 98 = .ok (.iand, 1) := by decide +kernel
theorem dX13_passCycle_99 : decode cX13_passCycle 99 = .ok (.iconst 1, 1) := by decide +kernel
theorem dX13_passCycle_100 : decode cX13_passCycle 100 = .ok (.if_icmp .ne 7, 3) := by decide +kernel
theorem dX13_passCycle_103 : decode cX13_passCycle 103 = .ok (.iconst 1, 1) := by decide +kernel
theorem dX13_passCycle_104 : decode cX13_passCycle 104 = .ok (.goto 28, 3) := by decide +kernel
theorem dX13_passCycle_107 : decode cX13_passCycle 107 = .ok (.aload_n 0, 1) := by decide +kernel
theorem dX13_passCycle_108 : decode cX13_passCycle 108 = .ok (.getfield 290, 3) := by decide +kernel
theorem dX13_passCycle_111 : decode cX13_passCycle 111 = .ok (.iload_n 1, 1) := by decide +kernel
theorem dX13_passCycle_112 : decode cX13_passCycle 112 = .ok (.ishr, 1) := by decide +kernel
theorem dX13_passCycle_113 : decode cX13_passCycle 113 = .ok (.iconst 1, 1) := by decide +kernel
theorem dX13_passCycle_114 : decode cX13_passCycle 114 = .ok (.iand, 1) := by decide +kernel
theorem dX13_passCycle_115 : decode cX13_passCycle 115 = .ok (.iconst 1, 1) := by decide +kernel
theorem dX13_passCycle_116 : decode cX13_passCycle 116 = .ok (.if_icmp .ne 7, 3) := by decide +kernel
theorem dX13_passCycle_119 : decode cX13_passCycle 119 = .ok (.iconst 0, 1) := by decide +kernel
theorem dX13_passCycle_120 : decode cX13_passCycle 120 = .ok (.goto 12, 3) := by decide +kernel
theorem dX13_passCycle_123 : decode cX13_passCycle 123 = .ok (.aload_n 0, 1) := by decide +kernel
theorem dX13_passCycle_124 : decode cX13_passCycle 124 = .ok (.getfield 9, 3) := by decide +kernel
theorem dX13_passCycle_127 : decode cX13_passCycle 127 = .ok (.bipush 100, 2) := by decide +kernel
theorem dX13_passCycle_129 : decode cX13_passCycle 129 = .ok (.iload_n 1, 1) := by decide +kernel
theorem dX13_passCycle_130 : decode cX13_passCycle 130 = .ok (.iadd, 1) := by decide +kernel
theorem dX13_passCycle_131 : decode cX13_passCycle 131 = .ok (.iaload, 1) := by decide +kernel
theorem dX13_passCycle_132 : decode cX13_passCycle 132 = .ok (.iastore, 1) := by decide +kernel
theorem dX13_passCycle_133 : decode cX13_passCycle 133 = .ok (.iinc 1 1, 3) := by decide +kernel
theorem dX13_passCycle_136 : decode cX13_passCycle 136 = .ok (.goto (-59), 3) := by decide +kernel
theorem dX13_passCycle_139 : decode cX13_passCycle 139 = .ok (.aload_n 0, 1) := by decide +kernel
theorem dX13_passCycle_140 : decode cX13_passCycle 140 = .ok (.invokevirtual 325, 3) := by decide +kernel
theorem dX13_passCycle_143 : decode cX13_passCycle 143 = .ok (.aload_n 0, 1) := by decide +kernel
theorem dX13_passCycle_144 : decode cX13_passCycle 144 = .ok (.getfield 9, 3) := by decide +kernel
theorem dX13_passCycle_147 : decode cX13_passCycle 147 = .ok (.iconst 1, 1) := by decide +kernel
theorem dX13_passCycle_148 : decode cX13_passCycle 148 = .ok (.dup2, 1) := by decide +kernel
theorem dX13_passCycle_149 : decode cX13_passCycle 149 = .ok (.iaload, 1) := by decide +kernel
theorem dX13_passCycle_150 : decode cX13_passCycle 150 = .ok (.iconst 1, 1) := by decide +kernel
theorem dX13_passCycle_151 : decode cX13_passCycle 151 = .ok (.iadd, 1) := by decide +kernel
theorem dX13_passCycle_152 : decode cX13_passCycle 152 = .ok (.iastore, 1) := by decide +kernel
theorem dX13_passCycle_153 : decode cX13_passCycle 153 = .ok (.return_, 1) := by decide +kernel
set_option maxRecDepth 20000 in
theorem ggX13_tick_X13_of : GoodIn wsX13_tick wsX13_of := goodIn_r _ [7, 8, 152, 153, 154, 155, 156, 157, 158, 159, 160, 161, 162, 163, 164, 165, 166, 167, 168, 169, 170, 171, 172, 173, 174, 175, 176, 177, 178, 179, 180, 181, 182, 183, 184, 185, 186, 187, 188, 189, 190, 191, 192, 193, 194, 195, 196, 197, 198] (by decide +kernel) (by decide +kernel)
set_option maxRecDepth 20000 in
theorem gX13_tick_X13_of : GoodIn wsX13_tick (wsV RX13 238 RX13 yX13_of wsX13_of) := goodIn_app (goodIn_of _ (by decide +kernel)) ggX13_tick_X13_of
set_option maxRecDepth 20000 in
theorem ggX13_tick_X13_add : GoodIn wsX13_tick wsX13_add := goodIn_r _ [12, 8, 152, 153, 154, 155, 156, 157, 158, 159, 160, 161, 162, 163, 164, 165, 166, 167, 168, 169, 170, 171, 172, 173, 174, 175, 176, 177, 178, 179, 180, 181, 182, 183, 184, 185, 186, 187, 188, 189, 190, 191, 192, 193, 194, 195, 196, 197, 198] (by decide +kernel) (by decide +kernel)
set_option maxRecDepth 20000 in
theorem gX13_tick_X13_add : GoodIn wsX13_tick (wsV RX13 234 RX13 yX13_add wsX13_add) := goodIn_app (goodIn_of _ (by decide +kernel)) ggX13_tick_X13_add
set_option maxRecDepth 20000 in
theorem ggX13_tick_X13_note : GoodIn wsX13_tick wsX13_note := goodIn_r _ [16, 9, 10, 11, 6, 12, 8, 152, 153, 154, 155, 156, 157, 158, 159, 160, 161, 162, 163, 164, 165, 166, 167, 168, 169, 170, 171, 172, 173, 174, 175, 176, 177, 178, 179, 180, 181, 182, 183, 184, 185, 186, 187, 188, 189, 190, 191, 192, 193, 194, 195, 196, 197, 198] (by decide +kernel) (by decide +kernel)
set_option maxRecDepth 20000 in
theorem gX13_tick_X13_note : GoodIn wsX13_tick (wsV RX13 328 RX13 yX13_note wsX13_note) := goodIn_app (goodIn_of _ (by decide +kernel)) ggX13_tick_X13_note
set_option maxRecDepth 20000 in
theorem ggX13_tick_X13_codeOf : GoodIn wsX13_tick wsX13_codeOf := goodIn_r _ [20, 3, 4, 5, 6, 7, 8, 21, 22, 23, 24, 152, 153, 154, 155, 156, 157, 158, 159, 160, 161, 162, 163, 164, 165, 166, 167, 168, 169, 170, 171, 172, 173, 174, 175, 176, 177, 178, 179, 180, 181, 182, 183, 184, 185, 186, 187, 188, 189, 190, 191, 192, 193, 194, 195, 196, 197, 198] (by decide +kernel) (by decide +kernel)
set_option maxRecDepth 20000 in
theorem gX13_tick_X13_codeOf : GoodIn wsX13_tick (wsV RX13 293 RX13 yX13_codeOf wsX13_codeOf) := goodIn_app (goodIn_of _ (by decide +kernel)) ggX13_tick_X13_codeOf
set_option maxRecDepth 20000 in
theorem ggX13_tick_X13_execute : GoodIn wsX13_tick wsX13_execute := goodIn_r _ [28, 29, 30, 31, 17, 18, 19, 6, 20, 3, 4, 5, 7, 8, 21, 22, 23, 24, 32, 33, 34, 35, 2, 36, 37, 38, 39, 40, 41, 42, 43, 44, 9, 10, 11, 12, 45, 46, 47, 48, 49, 50, 51, 52, 53, 54, 55, 56, 57, 58, 59, 60, 61, 62, 63, 64, 65, 66, 67, 68, 69, 70, 71, 72, 73, 74, 75, 76, 77, 78, 79, 80, 81, 82, 83, 84, 85, 86, 87, 88, 13, 14, 15, 16, 89, 90, 91, 92, 93, 94, 95, 96, 97, 98, 99, 100, 101, 102, 103, 104, 105, 106, 107, 108, 109, 110, 111, 112, 113, 114, 115, 116, 117, 118, 119, 120, 121, 122, 123, 124, 125, 126, 127, 128, 129, 130, 131, 132, 133, 134, 135, 136, 137, 138, 139, 140, 141, 142, 143, 144, 145, 146, 147, 152, 153, 154, 155, 156, 157, 158, 159, 160, 161, 162, 163, 164, 165, 166, 167, 168, 169, 170, 171, 172, 173, 174, 175, 176, 177, 178, 179, 180, 181, 182, 183, 184, 185, 186, 187, 188, 189, 190, 191, 192, 193, 194, 195, 196, 197, 198] (by decide +kernel) (by decide +kernel)
set_option maxRecDepth 20000 in
theorem gX13_tick_X13_execute : GoodIn wsX13_tick (wsV RX13 335 RX13 yX13_execute wsX13_execute) := goodIn_app (goodIn_of _ (by decide +kernel)) ggX13_tick_X13_execute
set_option maxRecDepth 20000 in
theorem ggX13_tick_X13_set : GoodIn wsX13_tick wsX13_set := goodIn_r _ [80, 8, 152, 153, 154, 155, 156, 157, 158, 159, 160, 161, 162, 163, 164, 165, 166, 167, 168, 169, 170, 171, 172, 173, 174, 175, 176, 177, 178, 179, 180, 181, 182, 183, 184, 185, 186, 187, 188, 189, 190, 191, 192, 193, 194, 195, 196, 197, 198] (by decide +kernel) (by decide +kernel)
set_option maxRecDepth 20000 in
theorem gX13_tick_X13_set : GoodIn wsX13_tick (wsV RX13 282 RX13 yX13_set wsX13_set) := goodIn_app (goodIn_of _ (by decide +kernel)) ggX13_tick_X13_set
set_option maxRecDepth 20000 in
theorem ggX13_tick_X13_nextAddress : GoodIn wsX13_tick wsX13_nextAddress := goodIn_r _ [151, 8, 3, 4, 5, 6, 7, 45, 46, 47, 48, 152, 153, 154, 155, 156, 157, 158, 159, 160, 161, 162, 163, 164, 165, 166, 167, 168, 169, 170, 171, 172, 173, 174, 175, 176, 177, 178, 179, 180, 181, 182, 183, 184, 185, 186, 187, 188, 189, 190, 191, 192, 193, 194, 195, 196, 197, 198] (by decide +kernel) (by decide +kernel)
set_option maxRecDepth 20000 in
theorem gX13_tick_X13_nextAddress : GoodIn wsX13_tick (wsV RX13 338 RX13 yX13_nextAddress wsX13_nextAddress) := goodIn_app (goodIn_of _ (by decide +kernel)) ggX13_tick_X13_nextAddress
theorem dX13_tick_0 : decode cX13_tick 0 = .ok (.aload_n 0, 1) := by decide +kernel
theorem dX13_tick_1 : decode cX13_tick 1 = .ok (.iload_n 1, 1) := by decide +kernel
theorem dX13_tick_2 : decode cX13_tick 2 = .ok (.bipush 8, 2) := by decide +kernel
theorem dX13_tick_4 : decode cX13_tick 4 = .ok (.invokevirtual 238, 3) := by decide +kernel
theorem dX13_tick_7 : decode cX13_tick 7 = .ok (.ifCond .le 18, 3) := by decide +kernel
theorem dX13_tick_10 : decode cX13_tick 10 = .ok (.aload_n 0, 1) := by decide +kernel
theorem dX13_tick_11 : decode cX13_tick 11 = .ok (.iload_n 1, 1) := by decide +kernel
theorem dX13_tick_12 : decode cX13_tick 12 = .ok (.bipush 8, 2) := by decide +kernel
theorem dX13_tick_14 : decode cX13_tick 14 = .ok (.iconst (-1), 1) := by decide +kernel
theorem dX13_tick_15 : decode cX13_tick 15 = .ok (.invokevirtual 234, 3) := by decide +kernel
theorem dX13_tick_18 : decode cX13_tick 18 = .ok (.aload_n 0, 1) := by decide +kernel
theorem dX13_tick_19 : decode cX13_tick 19 = .ok (.iload_n 1, 1) := by decide +kernel
theorem dX13_tick_20 : decode cX13_tick 20 = .ok (.iconst 2, 1) := by decide +kernel
theorem dX13_tick_21 : decode cX13_tick 21 = .ok (.invokevirtual 328, 3) := by decide +kernel
theorem dX13_tick_24 : decode cX13_tick 24 = .ok (.return_, 1) := by decide +kernel
theorem dX13_tick_25 : decode cX13_tick 25 = .ok (.aload_n 0, 1) := by decide +kernel
theorem dX13_tick_26 : decode cX13_tick 26 = .ok (.iload_n 1, 1) := by decide +kernel
theorem dX13_tick_27 : decode cX13_tick 27 = .ok (.bipush 9, 2) := by decide +kernel
theorem dX13_tick_29 : decode cX13_tick 29 = .ok (.invokevirtual 238, 3) := by decide +kernel
theorem dX13_tick_32 : decode cX13_tick 32 = .ok (.ifCond .ne 15, 3) := by decide +kernel
theorem dX13_tick_35 : decode cX13_tick 35 = .ok (.aload_n 0, 1) := by decide +kernel
theorem dX13_tick_36 : decode cX13_tick 36 = .ok (.getfield 47, 3) := by decide +kernel
theorem dX13_tick_39 : decode cX13_tick 39 = .ok (.iload_n 1, 1) := by decide +kernel
theorem dX13_tick_40 : decode cX13_tick 40 = .ok (.aload_n 0, 1) := by decide +kernel
theorem dX13_tick_41 : decode cX13_tick 41 = .ok (.iload_n 1, 1) := by decide +kernel
theorem dX13_tick_42 : decode cX13_tick 42 = .ok (.iconst 4, 1) := by decide +kernel
theorem dX13_tick_43 : decode cX13_tick 43 = .ok (.invokevirtual 293, 3) := by decide +kernel
theorem dX13_tick_46 : decode cX13_tick 46 = .ok (.iastore, 1) := by decide +kernel
theorem dX13_tick_47 : decode cX13_tick 47 = .ok (.aload_n 0, 1) := by decide +kernel
theorem dX13_tick_48 : decode cX13_tick 48 = .ok (.iconst (-1), 1) := by decide +kernel
theorem dX13_tick_49 : decode cX13_tick 49 = .ok (.putfield 332, 3) := by decide +kernel
theorem dX13_tick_52 : decode cX13_tick 52 = .ok (.aload_n 0, 1) := by decide +kernel
theorem dX13_tick_53 : decode cX13_tick 53 = .ok (.iload_n 1, 1) := by decide +kernel
theorem dX13_tick_54 : decode cX13_tick 54 = .ok (.iconst 5, 1) := by decide +kernel
theorem dX13_tick_55 : decode cX13_tick 55 = .ok (.invokevirtual 293, 3) := by decide +kernel
theorem dX13_tick_58 : decode cX13_tick 58 = .ok (.istore_n 2, 1) := by decide +kernel
theorem dX13_tick_59 : decode cX13_tick 59 = .ok (.aload_n 0, 1) := by decide +kernel
theorem dX13_tick_60 : decode cX13_tick 60 = .ok (.iload_n 1, 1) := by decide +kernel
theorem dX13_tick_61 : decode cX13_tick 61 = .ok (.invokevirtual 335, 3) := by decide +kernel
theorem dX13_tick_64 : decode cX13_tick 64 = .ok (.istore_n 3, 1) := by decide +kernel
theorem dX13_tick_65 : decode cX13_tick 65 = .ok (.aload_n 0, 1) := by decide +kernel
theorem dX13_tick_66 : decode cX13_tick 66 = .ok (.iload_n 1, 1) := by decide +kernel
theorem dX13_tick_67 : decode cX13_tick 67 = .ok (.bipush 9, 2) := by decide +kernel
theorem dX13_tick_69 : decode cX13_tick 69 = .ok (.iload_n 3, 1) := by decide +kernel
theorem dX13_tick_70 : decode cX13_tick 70 = .ok (.invokevirtual 282, 3) := by decide +kernel
theorem dX13_tick_73 : decode cX13_tick 73 = .ok (.aload_n 0, 1) := by decide +kernel
theorem dX13_tick_74 : decode cX13_tick 74 = .ok (.iload_n 1, 1) := by decide +kernel
theorem dX13_tick_75 : decode cX13_tick 75 = .ok (.iload_n 3, 1) := by decide +kernel
theorem dX13_tick_76 : decode cX13_tick 76 = .ok (.ifCond .ne 7, 3) := by decide +kernel
theorem dX13_tick_79 : decode cX13_tick 79 = .ok (.iconst 0, 1) := by decide +kernel
theorem dX13_tick_80 : decode cX13_tick 80 = .ok (.goto 4, 3) := by decide +kernel
theorem dX13_tick_83 : decode cX13_tick 83 = .ok (.iconst 1, 1) := by decide +kernel
theorem dX13_tick_84 : decode cX13_tick 84 = .ok (.invokevirtual 328, 3) := by decide +kernel
theorem dX13_tick_87 : decode cX13_tick 87 = .ok (.iload_n 3, 1) := by decide +kernel
theorem dX13_tick_88 : decode cX13_tick 88 = .ok (.ifCond .ne 37, 3) := by decide +kernel
theorem dX13_tick_91 : decode cX13_tick 91 = .ok (.aload_n 0, 1) := by decide +kernel
theorem dX13_tick_92 : decode cX13_tick 92 = .ok (.iload_n 1, 1) := by decide +kernel
theorem dX13_tick_93 : decode cX13_tick 93 = .ok (.bipush 8, 2) := by decide +kernel
theorem dX13_tick_95 : decode cX13_tick 95 = .ok (.iload_n 2, 1) := by decide +kernel
theorem dX13_tick_96 : decode cX13_tick 96 = .ok (.invokevirtual 282, 3) := by decide +kernel
theorem dX13_tick_99 : decode cX13_tick 99 = .ok (.aload_n 0, 1) := by decide +kernel
theorem dX13_tick_100 : decode cX13_tick 100 = .ok (.iload_n 1, 1) := by decide +kernel
theorem dX13_tick_101 : decode cX13_tick 101 = .ok (.iconst 1, 1) := by decide +kernel
theorem dX13_tick_102 : decode cX13_tick 102 = .ok (.aload_n 0, 1) := by decide +kernel
theorem dX13_tick_103 : decode cX13_tick 103 = .ok (.getfield 332, 3) := by decide +kernel
theorem dX13_tick_106 : decode cX13_tick 106 = .ok (.iconst (-1), 1) := by decide +kernel
theorem dX13_tick_107 : decode cX13_tick 107 = .ok (.if_icmp .eq 10, 3) := by decide +kernel
theorem dX13_tick_110 : decode cX13_tick 110 = .ok (.aload_n 0, 1) := by decide +kernel
theorem dX13_tick_111 : decode cX13_tick 111 = .ok (.getfield 332, 3) := by decide +kernel
theorem dX13_tick_114 : decode cX13_tick 114 = .ok (.goto 8, 3) := by decide +kernel
theorem dX13_tick_117 : decode cX13_tick 117 = .ok (.aload_n 0, 1) := by decide +kernel
theorem dX13_tick_118 : decode cX13_tick 118 = .ok (.iload_n 1, 1) := by decide +kernel
theorem dX13_tick_119 : decode cX13_tick 119 = .ok (.invokevirtual 338, 3) := by decide +kernel
theorem dX13_tick_122 : decode cX13_tick 122 = .ok (.invokevirtual 282, 3) := by decide +kernel
theorem dX13_tick_125 : decode cX13_tick 125 = .ok (.return_, 1) := by decide +kernel
set_option maxRecDepth 20000 in
theorem ggX13_nextAddress_X13_of : GoodIn wsX13_nextAddress wsX13_of := goodIn_r _ [6, 1, 11, 12, 13, 14, 15, 16, 17, 18, 19, 20, 21, 22, 23, 24, 25, 26, 27, 28, 29, 30, 31, 32, 33, 34, 35, 36, 37, 38, 39, 40, 41, 42, 43, 44, 45, 46, 47, 48, 49, 50, 51, 52, 53, 54, 55, 56, 57] (by decide +kernel) (by decide +kernel)
set_option maxRecDepth 20000 in
theorem gX13_nextAddress_X13_of : GoodIn wsX13_nextAddress (wsV RX13 238 RX13 yX13_of wsX13_of) := goodIn_app (goodIn_of _ (by decide +kernel)) ggX13_nextAddress_X13_of
set_option maxRecDepth 20000 in
theorem ggX13_nextAddress_X13_setting : GoodIn wsX13_nextAddress wsX13_setting := goodIn_r _ [10, 1, 11, 12, 13, 14, 15, 16, 17, 18, 19, 20, 21, 22, 23, 24, 25, 26, 27, 28, 29, 30, 31, 32, 33, 34, 35, 36, 37, 38, 39, 40, 41, 42, 43, 44, 45, 46, 47, 48, 49, 50, 51, 52, 53, 54, 55, 56, 57] (by decide +kernel) (by decide +kernel)
set_option maxRecDepth 20000 in
theorem gX13_nextAddress_X13_setting : GoodIn wsX13_nextAddress (wsV RX13 249 RX13 yX13_setting wsX13_setting) := goodIn_app (goodIn_of _ (by decide +kernel)) ggX13_nextAddress_X13_setting
theorem dX13_nextAddress_0 : decode cX13_nextAddress 0 = .ok (.aload_n 0, 1) := by decide +kernel
theorem dX13_nextAddress_1 : decode cX13_nextAddress 1 = .ok (.iload_n 1, 1) := by decide +kernel
theorem dX13_nextAddress_2 : decode cX13_nextAddress 2 = .ok (.iconst 1, 1) := by decide +kernel
theorem dX13_nextAddress_3 : decode cX13_nextAddress 3 = .ok (.invokevirtual 238, 3) := by decide +kernel
theorem dX13_nextAddress_6 : decode cX13_nextAddress 6 = .ok (.istore_n 2, 1) := by decide +kernel
theorem dX13_nextAddress_7 : decode cX13_nextAddress 7 = .ok (.iload_n 2, 1) := by decide +kernel
theorem dX13_nextAddress_8 : decode cX13_nextAddress 8 = .ok (.aload_n 0, 1) := by decide +kernel
theorem dX13_nextAddress_9 : decode cX13_nextAddress 9 = .ok (.iload_n 1, 1) := by decide +kernel
theorem dX13_nextAddress_10 : decode cX13_nextAddress 10 = .ok (.iconst 4, 1) := by decide +kernel
theorem dX13_nextAddress_11 : decode cX13_nextAddress 11 = .ok (.invokevirtual 249, 3) := by decide +kernel
theorem dX13_nextAddress_14 : decode cX13_nextAddress 14 = .ok (.if_icmp .ne 12, 3) := by decide +kernel
theorem dX13_nextAddress_17 : decode cX13_nextAddress 17 = .ok (.aload_n 0, 1) := by decide +kernel
theorem dX13_nextAddress_18 : decode cX13_nextAddress 18 = .ok (.iload_n 1, 1) := by decide +kernel
theorem dX13_nextAddress_19 : decode cX13_nextAddress 19 = .ok (.iconst 3, 1) := by decide +kernel
theorem dX13_nextAddress_20 : decode cX13_nextAddress 20 = .ok (.invokevirtual 249, 3) := by decide +kernel
theorem dX13_nextAddress_23 : decode cX13_nextAddress 23 = .ok (.goto 13, 3) := by decide +kernel
theorem dX13_nextAddress_26 : decode cX13_nextAddress 26 = .ok (.iload_n 2, 1) := by decide +kernel
theorem dX13_nextAddress_27 : decode cX13_nextAddress 27 = .ok (.iconst 1, 1) := by decide +kernel
theorem dX13_nextAddress_28 : decode cX13_nextAddress 28 = .ok (.iadd, 1) := by decide +kernel
theorem dX13_nextAddress_29 : decode cX13_nextAddress 29 = .ok (.aload_n 0, 1) := by decide +kernel
theorem dX13_nextAddress_30 : decode cX13_nextAddress 30 = .ok (.getfield 9, 3) := by decide +kernel
theorem dX13_nextAddress_33 : decode cX13_nextAddress 33 = .ok (.iconst 0, 1) := by decide +kernel
theorem dX13_nextAddress_34 : decode cX13_nextAddress 34 = .ok (.iaload, 1) := by decide +kernel
theorem dX13_nextAddress_35 : decode cX13_nextAddress 35 = .ok (.irem, 1) := by decide +kernel
theorem dX13_nextAddress_36 : decode cX13_nextAddress 36 = .ok (.ireturn, 1) := by decide +kernel
set_option maxRecDepth 20000 in
theorem ggX13_execute_X13_codeOf : GoodIn wsX13_execute wsX13_codeOf := goodIn_r _ [8, 9, 10, 11, 7, 12, 13, 14, 15, 16, 17, 143, 144, 145, 146, 147, 148, 149, 150, 151, 152, 153, 154, 155, 156, 157, 158, 159, 160, 161, 162, 163, 164, 165, 166, 167, 168, 169, 170, 171, 172, 173, 174, 175, 176, 177, 178, 179, 180, 181, 182, 183, 184, 185, 186, 187, 188, 189] (by decide +kernel) (by decide +kernel)
set_option maxRecDepth 20000 in
theorem gX13_execute_X13_codeOf : GoodIn wsX13_execute (wsV RX13 293 RX13 yX13_codeOf wsX13_codeOf) := goodIn_app (goodIn_of _ (by decide +kernel)) ggX13_execute_X13_codeOf
set_option maxRecDepth 20000 in
theorem ggX13_execute_X13_jump : GoodIn wsX13_execute wsX13_jump := goodIn_r _ [21, 22, 23, 24, 25, 7, 26, 27, 9, 10, 11, 12, 13, 28, 29, 30, 31, 32, 33, 34, 35, 36, 37, 38, 39, 4, 5, 6, 8, 14, 15, 16, 17, 143, 144, 145, 146, 147, 148, 149, 150, 151, 152, 153, 154, 155, 156, 157, 158, 159, 160, 161, 162, 163, 164, 165, 166, 167, 168, 169, 170, 171, 172, 173, 174, 175, 176, 177, 178, 179, 180, 181, 182, 183, 184, 185, 186, 187, 188, 189] (by decide +kernel) (by decide +kernel)
set_option maxRecDepth 20000 in
theorem gX13_execute_X13_jump : GoodIn wsX13_execute (wsV RX13 341 RX13 yX13_jump wsX13_jump) := goodIn_app (goodIn_of _ (by decide +kernel)) ggX13_execute_X13_jump
set_option maxRecDepth 20000 in
theorem ggX13_execute_X13_waitFor : GoodIn wsX13_execute wsX13_waitFor := goodIn_r _ [43, 44, 27, 2, 4, 5, 6, 7, 8, 9, 10, 11, 12, 13, 14, 15, 16, 17, 36, 37, 38, 39, 143, 144, 145, 146, 147, 148, 149, 150, 151, 152, 153, 154, 155, 156, 157, 158, 159, 160, 161, 162, 163, 164, 165, 166, 167, 168, 169, 170, 171, 172, 173, 174, 175, 176, 177, 178, 179, 180, 181, 182, 183, 184, 185, 186, 187, 188, 189] (by decide +kernel) (by decide +kernel)
set_option maxRecDepth 20000 in
theorem gX13_execute_X13_waitFor : GoodIn wsX13_execute (wsV RX13 344 RX13 yX13_waitFor wsX13_waitFor) := goodIn_app (goodIn_of _ (by decide +kernel)) ggX13_execute_X13_waitFor
set_option maxRecDepth 20000 in
theorem ggX13_execute_X13_source : GoodIn wsX13_execute wsX13_source := goodIn_r _ [48, 49, 50, 51, 7, 52, 27, 36, 37, 38, 39, 13, 9, 10, 11, 12, 143, 144, 145, 146, 147, 148, 149, 150, 151, 152, 153, 154, 155, 156, 157, 158, 159, 160, 161, 162, 163, 164, 165, 166, 167, 168, 169, 170, 171, 172, 173, 174, 175, 176, 177, 178, 179, 180, 181, 182, 183, 184, 185, 186, 187, 188, 189] (by decide +kernel) (by decide +kernel)
set_option maxRecDepth 20000 in
theorem gX13_execute_X13_source : GoodIn wsX13_execute (wsV RX13 347 RX13 yX13_source wsX13_source) := goodIn_app (goodIn_of _ (by decide +kernel)) ggX13_execute_X13_source
set_option maxRecDepth 20000 in
theorem ggX13_execute_X13_shiftIn : GoodIn wsX13_execute wsX13_shiftIn := goodIn_r _ [56, 57, 58, 59, 60, 9, 10, 11, 7, 12, 13, 36, 37, 38, 39, 61, 62, 63, 64, 65, 66, 67, 68, 69, 70, 71, 72, 73, 74, 75, 76, 77, 78, 79, 32, 33, 34, 35, 80, 81, 82, 83, 84, 85, 86, 87, 143, 144, 145, 146, 147, 148, 149, 150, 151, 152, 153, 154, 155, 156, 157, 158, 159, 160, 161, 162, 163, 164, 165, 166, 167, 168, 169, 170, 171, 172, 173, 174, 175, 176, 177, 178, 179, 180, 181, 182, 183, 184, 185, 186, 187, 188, 189] (by decide +kernel) (by decide +kernel)
set_option maxRecDepth 20000 in
theorem gX13_execute_X13_shiftIn : GoodIn wsX13_execute (wsV RX13 350 RX13 yX13_shiftIn wsX13_shiftIn) := goodIn_app (goodIn_of _ (by decide +kernel)) ggX13_execute_X13_shiftIn
set_option maxRecDepth 20000 in
theorem ggX13_execute_X13_shiftOut : GoodIn wsX13_execute wsX13_shiftOut := goodIn_r _ [91, 57, 58, 59, 60, 36, 37, 38, 7, 39, 13, 9, 10, 11, 12, 92, 93, 94, 95, 96, 97, 98, 99, 68, 69, 70, 71, 32, 33, 34, 35, 80, 81, 82, 83, 61, 62, 63, 100, 101, 102, 103, 104, 105, 106, 107, 108, 109, 110, 111, 22, 112, 113, 114, 115, 143, 144, 145, 146, 147, 148, 149, 150, 151, 152, 153, 154, 155, 156, 157, 158, 159, 160, 161, 162, 163, 164, 165, 166, 167, 168, 169, 170, 171, 172, 173, 174, 175, 176, 177, 178, 179, 180, 181, 182, 183, 184, 185, 186, 187, 188, 189] (by decide +kernel) (by decide +kernel)
set_option maxRecDepth 20000 in
theorem gX13_execute_X13_shiftOut : GoodIn wsX13_execute (wsV RX13 354 RX13 yX13_shiftOut wsX13_shiftOut) := goodIn_app (goodIn_of _ (by decide +kernel)) ggX13_execute_X13_shiftOut
set_option maxRecDepth 20000 in
theorem ggX13_execute_X13_push : GoodIn wsX13_execute wsX13_push := goodIn_r _ [119, 9, 10, 11, 7, 12, 13, 36, 37, 38, 39, 64, 65, 66, 67, 72, 73, 74, 75, 76, 77, 78, 79, 68, 69, 70, 71, 32, 33, 34, 35, 80, 81, 82, 83, 84, 85, 86, 87, 143, 144, 145, 146, 147, 148, 149, 150, 151, 152, 153, 154, 155, 156, 157, 158, 159, 160, 161, 162, 163, 164, 165, 166, 167, 168, 169, 170, 171, 172, 173, 174, 175, 176, 177, 178, 179, 180, 181, 182, 183, 184, 185, 186, 187, 188, 189] (by decide +kernel) (by decide +kernel)
set_option maxRecDepth 20000 in
theorem gX13_execute_X13_push : GoodIn wsX13_execute (wsV RX13 357 RX13 yX13_push wsX13_push) := goodIn_app (goodIn_of _ (by decide +kernel)) ggX13_execute_X13_push
set_option maxRecDepth 20000 in
theorem ggX13_execute_X13_pull : GoodIn wsX13_execute wsX13_pull := goodIn_r _ [123, 9, 10, 11, 7, 12, 13, 36, 37, 38, 39, 92, 93, 94, 95, 96, 97, 98, 99, 68, 69, 70, 71, 32, 33, 34, 35, 80, 81, 82, 83, 143, 144, 145, 146, 147, 148, 149, 150, 151, 152, 153, 154, 155, 156, 157, 158, 159, 160, 161, 162, 163, 164, 165, 166, 167, 168, 169, 170, 171, 172, 173, 174, 175, 176, 177, 178, 179, 180, 181, 182, 183, 184, 185, 186, 187, 188, 189] (by decide +kernel) (by decide +kernel)
set_option maxRecDepth 20000 in
theorem gX13_execute_X13_pull : GoodIn wsX13_execute (wsV RX13 360 RX13 yX13_pull wsX13_pull) := goodIn_app (goodIn_of _ (by decide +kernel)) ggX13_execute_X13_pull
set_option maxRecDepth 20000 in
theorem ggX13_execute_X13_move : GoodIn wsX13_execute wsX13_move := goodIn_r _ [127, 128, 129, 7, 130, 68, 69, 70, 71, 13, 100, 101, 102, 103, 104, 105, 106, 107, 36, 37, 38, 39, 108, 109, 110, 111, 22, 112, 113, 114, 115, 143, 144, 145, 146, 147, 148, 149, 150, 151, 152, 153, 154, 155, 156, 157, 158, 159, 160, 161, 162, 163, 164, 165, 166, 167, 168, 169, 170, 171, 172, 173, 174, 175, 176, 177, 178, 179, 180, 181, 182, 183, 184, 185, 186, 187, 188, 189] (by decide +kernel) (by decide +kernel)
set_option maxRecDepth 20000 in
theorem gX13_execute_X13_move : GoodIn wsX13_execute (wsV RX13 362 RX13 yX13_move wsX13_move) := goodIn_app (goodIn_of _ (by decide +kernel)) ggX13_execute_X13_move
set_option maxRecDepth 20000 in
theorem ggX13_execute_X13_signal : GoodIn wsX13_execute wsX13_signal := goodIn_r _ [134, 1, 44, 9, 10, 11, 7, 12, 13, 143, 144, 145, 146, 147, 148, 149, 150, 151, 152, 153, 154, 155, 156, 157, 158, 159, 160, 161, 162, 163, 164, 165, 166, 167, 168, 169, 170, 171, 172, 173, 174, 175, 176, 177, 178, 179, 180, 181, 182, 183, 184, 185, 186, 187, 188, 189] (by decide +kernel) (by decide +kernel)
set_option maxRecDepth 20000 in
theorem gX13_execute_X13_signal : GoodIn wsX13_execute (wsV RX13 366 RX13 yX13_signal wsX13_signal) := goodIn_app (goodIn_of _ (by decide +kernel)) ggX13_execute_X13_signal
set_option maxRecDepth 20000 in
theorem ggX13_execute_X13_assign : GoodIn wsX13_execute wsX13_assign := goodIn_r _ [138, 100, 101, 102, 7, 103, 104, 105, 106, 107, 36, 37, 38, 39, 13, 68, 69, 70, 71, 108, 109, 110, 111, 22, 112, 113, 114, 115, 143, 144, 145, 146, 147, 148, 149, 150, 151, 152, 153, 154, 155, 156, 157, 158, 159, 160, 161, 162, 163, 164, 165, 166, 167, 168, 169, 170, 171, 172, 173, 174, 175, 176, 177, 178, 179, 180, 181, 182, 183, 184, 185, 186, 187, 188, 189] (by decide +kernel) (by decide +kernel)
set_option maxRecDepth 20000 in
theorem gX13_execute_X13_assign : GoodIn wsX13_execute (wsV RX13 368 RX13 yX13_assign wsX13_assign) := goodIn_app (goodIn_of _ (by decide +kernel)) ggX13_execute_X13_assign
set_option maxRecDepth 20000 in
theorem ggX13_execute_X13_access : GoodIn wsX13_execute wsX13_access := goodIn_r _ [142, 13, 4, 5, 6, 7, 8, 9, 10, 11, 12, 14, 15, 16, 17, 45, 46, 47, 48, 49, 50, 51, 52, 27, 36, 37, 38, 39, 68, 69, 70, 71, 143, 144, 145, 146, 147, 148, 149, 150, 151, 152, 153, 154, 155, 156, 157, 158, 159, 160, 161, 162, 163, 164, 165, 166, 167, 168, 169, 170, 171, 172, 173, 174, 175, 176, 177, 178, 179, 180, 181, 182, 183, 184, 185, 186, 187, 188, 189] (by decide +kernel) (by decide +kernel)
set_option maxRecDepth 20000 in
theorem gX13_execute_X13_access : GoodIn wsX13_execute (wsV RX13 371 RX13 yX13_access wsX13_access) := goodIn_app (goodIn_of _ (by decide +kernel)) ggX13_execute_X13_access
theorem dX13_execute_0 : decode cX13_execute 0 = .ok (.aload_n 0, 1) := by decide +kernel
theorem dX13_execute_1 : decode cX13_execute 1 = .ok (.iload_n 1, 1) := by decide +kernel
theorem dX13_execute_2 : decode cX13_execute 2 = .ok (.iconst 1, 1) := by decide +kernel
theorem dX13_execute_3 : decode cX13_execute 3 = .ok (.invokevirtual 293, 3) := by decide +kernel
theorem dX13_execute_6 : decode cX13_execute 6 = .ok (.istore_n 2, 1) := by decide +kernel
theorem dX13_execute_7 : decode cX13_execute 7 = .ok (.aload_n 0, 1) := by decide +kernel
theorem dX13_execute_8 : decode cX13_execute 8 = .ok (.iload_n 1, 1) := by decide +kernel
theorem dX13_execute_9 : decode cX13_execute 9 = .ok (.iconst 0, 1) := by decide +kernel
theorem dX13_execute_10 : decode cX13_execute 10 = .ok (.invokevirtual 293, 3) := by decide +kernel
theorem dX13_execute_13 : decode cX13_execute 13 = .ok (.tableswitch 238 0 10 #[59, 66, 73, 91, 104, 135, 166, 190, 204, 218, 225], 59) := by decide +kernel
theorem dX13_execute_72 : decode cX13_execute 72 = .ok (.aload_n 0, 1) := by decide +kernel
theorem dX13_execute_73 : decode cX13_execute 73 = .ok (.iload_n 1, 1) := by decide +kernel
theorem dX13_execute_74 : decode cX13_execute 74 = .ok (.iload_n 2, 1) := by decide +kernel
theorem dX13_execute_75 : decode cX13_execute 75 = .ok (.invokevirtual 341, 3) := by decide +kernel
theorem dX13_execute_78 : decode cX13_execute 78 = .ok (.ireturn, 1) := by decide +kernel
theorem dX13_execute_79 : decode cX13_execute 79 = .ok (.aload_n 0, 1) := by decide +kernel
theorem dX13_execute_80 : decode cX13_execute 80 = .ok (.iload_n 1, 1) := by decide +kernel
theorem dX13_execute_81 : decode cX13_execute 81 = .ok (.iload_n 2, 1) := by decide +kernel
theorem dX13_execute_82 : decode cX13_execute 82 = .ok (.invokevirtual 344, 3) := by decide +kernel
theorem dX13_execute_85 : decode cX13_execute 85 = .ok (.ireturn, 1) := by decide +kernel
theorem dX13_execute_86 : decode cX13_execute 86 = .ok (.aload_n 0, 1) := by decide +kernel
theorem dX13_execute_87 : decode cX13_execute 87 = .ok (.iload_n 1, 1) := by decide +kernel
theorem dX13_execute_88 : decode cX13_execute 88 = .ok (.aload_n 0, 1) := by decide +kernel
theorem dX13_execute_89 : decode cX13_execute 89 = .ok (.iload_n 1, 1) := by decide +kernel
theorem dX13_execute_90 : decode cX13_execute 90 = .ok (.iload_n 2, 1) := by decide +kernel
theorem dX13_execute_91 : decode cX13_execute 91 = .ok (.invokevirtual 347, 3) := by decide +kernel
theorem dX13_execute_94 : decode cX13_execute 94 = .ok (.aload_n 0, 1) := by decide +kernel
theorem dX13_execute_95 : decode cX13_execute 95 = .ok (.iload_n 1, 1) := by decide +kernel
theorem dX13_execute_96 : decode cX13_execute 96 = .ok (.iconst 2, 1) := by decide +kernel
theorem dX13_execute_97 : decode cX13_execute 97 = .ok (.invokevirtual 293, 3) := by decide +kernel
theorem dX13_execute_100 : decode cX13_execute 100 = .ok (.invokevirtual 350, 3) := by decide +kernel
theorem dX13_execute_103 : decode cX13_execute 103 = .ok (.ireturn, 1) := by decide +kernel
theorem dX13_execute_104 : decode cX13_execute 104 = .ok (.aload_n 0, 1) := by decide +kernel
theorem dX13_execute_105 : decode cX13_execute 105 = .ok (.iload_n 1, 1) := by decide +kernel
theorem dX13_execute_106 : decode cX13_execute 106 = .ok (.iload_n 2, 1) := by decide +kernel
theorem dX13_execute_107 : decode cX13_execute 107 = .ok (.aload_n 0, 1) := by decide +kernel
theorem dX13_execute_108 : decode cX13_execute 108 = .ok (.iload_n 1, 1) := by decide +kernel
theorem dX13_execute_109 : decode cX13_execute 109 = .ok (.iconst 2, 1) := by decide +kernel
theorem dX13_execute_110 : decode cX13_execute 110 = .ok (.invokevirtual 293, 3) := by decide +kernel
theorem dX13_execute_113 : decode cX13_execute 113 = .ok (.invokevirtual 354, 3) := by decide +kernel
theorem dX13_execute_116 : decode cX13_execute 116 = .ok (.ireturn, 1) := by decide +kernel
theorem dX13_execute_117 : decode cX13_execute 117 = .ok (.aload_n 0, 1) := by decide +kernel
theorem dX13_execute_118 : decode cX13_execute 118 = .ok (.iload_n 1, 1) := by decide +kernel
theorem dX13_execute_119 : decode cX13_execute 119 = .ok (.iload_n 2, 1) := by decide +kernel
theorem dX13_execute_120 : decode cX13_execute 120 = .ok (.iconst 1, 1) := by decide +kernel
theorem dX13_execute_121 : decode cX13_execute 121 = .ok (.if_icmp .ne 7, 3) := by decide +kernel
theorem dX13_execute_124 : decode cX13_execute 124 = .ok (.iconst 1, 1) := by decide +kernel
theorem dX13_execute_125 : decode cX13_execute 125 = .ok (.goto 4, 3) := by decide +kernel
theorem dX13_execute_128 : decode cX13_execute 128 = .ok (.iconst 0, 1) := by decide +kernel
theorem dX13_execute_129 : decode cX13_execute 129 = .ok (.aload_n 0, 1) := by decide +kernel
theorem dX13_execute_130 : decode cX13_execute 130 = .ok (.iload_n 1, 1) := by decide +kernel
theorem dX13_execute_131 : decode cX13_execute 131 = .ok (.iconst 2, 1) := by decide +kernel
theorem dX13_execute_132 : decode cX13_execute 132 = .ok (.invokevirtual 293, 3) := by decide +kernel
theorem dX13_execute_135 : decode cX13_execute 135 = .ok (.iconst 1, 1) := by decide +kernel
theorem dX13_execute_136 : decode cX13_execute 136 = .ok (.if_icmp .ne 7, 3) := by decide +kernel
theorem dX13_execute_139 : decode cX13_execute 139 = .ok (.iconst 1, 1) := by decide +kernel
theorem dX13_execute_140 : decode cX13_execute 140 = .ok (.goto 4, 3) := by decide +kernel
theorem dX13_execute_143 : decode cX13_execute 143 = .ok (.iconst 0, 1) := by decide +kernel
theorem dX13_execute_144 : decode cX13_execute 144 = .ok (.invokevirtual 357, 3) := by decide +kernel
theorem dX13_execute_147 : decode cX13_execute 147 = .ok (.ireturn, 1) := by decide +kernel
theorem dX13_execute_148 : decode cX13_execute 148 = .ok (.aload_n 0, 1) := by decide +kernel
theorem dX13_execute_149 : decode cX13_execute 149 = .ok (.iload_n 1, 1) := by decide +kernel
theorem dX13_execute_150 : decode cX13_execute 150 = .ok (.iload_n 2, 1) := by decide +kernel
theorem dX13_execute_151 : decode cX13_execute 151 = .ok (.iconst 1, 1) := by decide +kernel
theorem dX13_execute_152 : decode cX13_execute 152 = .ok (.if_icmp .ne 7, 3) := by decide +kernel
theorem dX13_execute_155 : decode cX13_execute 155 = .ok (.iconst 1, 1) := by decide +kernel
theorem dX13_execute_156 : decode cX13_execute 156 = .ok (.goto 4, 3) := by decide +kernel
theorem dX13_execute_159 : decode cX13_execute 159 = .ok (.iconst 0, 1) := by decide +kernel
theorem dX13_execute_160 : decode cX13_execute 160 = .ok (.aload_n 0, 1) := by decide +kernel
theorem dX13_execute_161 : decode cX13_execute 161 = .ok (.iload_n 1, 1) := by decide +kernel
theorem dX13_execute_162 : decode cX13_execute 162 = .ok (.iconst 2, 1) := by decide +kernel
theorem dX13_execute_163 : decode cX13_execute 163 = .ok (.invokevirtual 293, 3) := by decide +kernel
theorem dX13_execute_166 : decode cX13_execute 166 = .ok (.iconst 1, 1) := by decide +kernel
theorem dX13_execute_167 : decode cX13_execute 167 = .ok (.if_icmp .ne 7, 3) := by decide +kernel
theorem dX13_execute_170 : decode cX13_execute 170 = .ok (.iconst 1, 1) := by decide +kernel
theorem dX13_execute_171 : decode cX13_execute 171 = .ok (.goto 4, 3) := by decide +kernel
theorem dX13_execute_174 : decode cX13_execute 174 = .ok (.iconst 0, 1) := by decide +kernel
theorem dX13_execute_175 : decode cX13_execute 175 = .ok (.invokevirtual 360, 3) := by decide +kernel
theorem dX13_execute_178 : decode cX13_execute 178 = .ok (.ireturn, 1) := by decide +kernel
theorem dX13_execute_179 : decode cX13_execute 179 = .ok (.aload_n 0, 1) := by decide +kernel
theorem dX13_execute_180 : decode cX13_execute 180 = .ok (.iload_n 1, 1) := by decide +kernel
theorem dX13_execute_181 : decode cX13_execute 181 = .ok (.iload_n 2, 1) := by decide +kernel
theorem dX13_execute_182 : decode cX13_execute 182 = .ok (.aload_n 0, 1) := by decide +kernel
theorem dX13_execute_183 : decode cX13_execute 183 = .ok (.iload_n 1, 1) := by decide +kernel
theorem dX13_execute_184 : decode cX13_execute 184 = .ok (.iconst 2, 1) := by decide +kernel
theorem dX13_execute_185 : decode cX13_execute 185 = .ok (.invokevirtual 293, 3) := by decide +kernel
theorem dX13_execute_188 : decode cX13_execute 188 = .ok (.aload_n 0, 1) := by decide +kernel
theorem dX13_execute_189 : decode cX13_execute 189 = .ok (.iload_n 1, 1) := by decide +kernel
theorem dX13_execute_190 : decode cX13_execute 190 = .ok (.aload_n 0, 1) := by decide +kernel
theorem dX13_execute_191 : decode cX13_execute 191 = .ok (.iload_n 1, 1) := by decide +kernel
theorem dX13_execute_192 : decode cX13_execute 192 = .ok (.iconst 3, 1) := by decide +kernel
theorem dX13_execute_193 : decode cX13_execute 193 = .ok (.invokevirtual 293, 3) := by decide +kernel
theorem dX13_execute_196 : decode cX13_execute 196 = .ok (.invokevirtual 347, 3) := by decide +kernel
theorem dX13_execute_199 : decode cX13_execute 199 = .ok (.invokevirtual 362, 3) := by decide +kernel
theorem dX13_execute_202 : decode cX13_execute 202 = .ok (.ireturn, 1) := by decide +kernel
theorem dX13_execute_203 : decode cX13_execute 203 = .ok (.aload_n 0, 1) := by decide +kernel
theorem dX13_execute_204 : decode cX13_execute 204 = .ok (.dup, 1) := by decide +kernel
theorem dX13_execute_205 : decode cX13_execute 205 = .ok (.getfield 287, 3) := by decide +kernel
theorem dX13_execute_208 : decode cX13_execute 208 = .ok (.iconst 1, 1) := by decide +kernel
theorem dX13_execute_209 : decode cX13_execute 209 = .ok (.iload_n 2, 1) := by decide +kernel
theorem dX13_execute_210 : decode cX13_execute 210 = .ok (.ishl, 1) := by decide +kernel
theorem dX13_execute_211 : decode cX13_execute 211 = .ok (.ior, 1) := by decide +kernel
theorem dX13_execute_212 : decode cX13_execute 212 = .ok (.putfield 287, 3) := by decide +kernel
theorem dX13_execute_215 : decode cX13_execute 215 = .ok (.iconst 0, 1) := by decide +kernel
theorem dX13_execute_216 : decode cX13_execute 216 = .ok (.ireturn, 1) := by decide +kernel
theorem dX13_execute_217 : decode cX13_execute 217 = .ok (.aload_n 0, 1) := by decide +kernel
theorem dX13_execute_218 : decode cX13_execute 218 = .ok (.dup, 1) := by decide +kernel
theorem dX13_execute_219 : decode cX13_execute 219 = .ok (.getfield 290, 3) := by decide +kernel
theorem dX13_execute_222 : decode cX13_execute 222 = .ok (.iconst 1, 1) := by decide +kernel
theorem dX13_execute_223 : decode cX13_execute 223 = .ok (.iload_n 2, 1) := by decide +kernel
theorem dX13_execute_224 : decode cX13_execute 224 = .ok (.ishl, 1) := by decide +kernel
theorem dX13_execute_225 : decode cX13_execute 225 = .ok (.ior, 1) := by decide +kernel
theorem dX13_execute_226 : decode cX13_execute 226 = .ok (.putfield 290, 3) := by decide +kernel
theorem dX13_execute_229 : decode cX13_execute 229 = .ok (.iconst 0, 1) := by decide +kernel
theorem dX13_execute_230 : decode cX13_execute 230 = .ok (.ireturn, 1) := by decide +kernel
theorem dX13_execute_231 : decode cX13_execute 231 = .ok (.aload_n 0, 1) := by decide +kernel
theorem dX13_execute_232 : decode cX13_execute 232 = .ok (.iload_n 1, 1) := by decide +kernel
theorem dX13_execute_233 : decode cX13_execute 233 = .ok (.iload_n 2, 1) := by decide +kernel
theorem dX13_execute_234 : decode cX13_execute 234 = .ok (.invokevirtual 366, 3) := by decide +kernel
theorem dX13_execute_237 : decode cX13_execute 237 = .ok (.ireturn, 1) := by decide +kernel
theorem dX13_execute_238 : decode cX13_execute 238 = .ok (.aload_n 0, 1) := by decide +kernel
theorem dX13_execute_239 : decode cX13_execute 239 = .ok (.iload_n 1, 1) := by decide +kernel
theorem dX13_execute_240 : decode cX13_execute 240 = .ok (.iload_n 2, 1) := by decide +kernel
theorem dX13_execute_241 : decode cX13_execute 241 = .ok (.aload_n 0, 1) := by decide +kernel
theorem dX13_execute_242 : decode cX13_execute 242 = .ok (.iload_n 1, 1) := by decide +kernel
theorem dX13_execute_243 : decode cX13_execute 243 = .ok (.iconst 2, 1) := by decide +kernel
theorem dX13_execute_244 : decode cX13_execute 244 = .ok (.invokevirtual 293, 3) := by decide +kernel
theorem dX13_execute_247 : decode cX13_execute 247 = .ok (.invokevirtual 368, 3) := by decide +kernel
theorem dX13_execute_250 : decode cX13_execute 250 = .ok (.ireturn, 1) := by decide +kernel
theorem dX13_execute_251 : decode cX13_execute 251 = .ok (.aload_n 0, 1) := by decide +kernel
theorem dX13_execute_252 : decode cX13_execute 252 = .ok (.getfield 296, 3) := by decide +kernel
theorem dX13_execute_255 : decode cX13_execute 255 = .ok (.iload_n 1, 1) := by decide +kernel
theorem dX13_execute_256 : decode cX13_execute 256 = .ok (.if_icmp .ne 12, 3) := by decide +kernel
theorem dX13_execute_259 : decode cX13_execute 259 = .ok (.aload_n 0, 1) := by decide +kernel
theorem dX13_execute_260 : decode cX13_execute 260 = .ok (.iload_n 1, 1) := by decide +kernel
theorem dX13_execute_261 : decode cX13_execute 261 = .ok (.iload_n 2, 1) := by decide +kernel
theorem dX13_execute_262 : decode cX13_execute 262 = .ok (.invokevirtual 371, 3) := by decide +kernel
theorem dX13_execute_265 : decode cX13_execute 265 = .ok (.goto 4, 3) := by decide +kernel
theorem dX13_execute_268 : decode cX13_execute 268 = .ok (.iconst 4, 1) := by decide +kernel
theorem dX13_execute_269 : decode cX13_execute 269 = .ok (.ireturn, 1) := by decide +kernel
set_option maxRecDepth 20000 in
theorem ggX13_jumpToWord_X13_unsigned : GoodIn wsX13_jumpToWord wsX13_unsigned := goodIn_r _ [6, 7] (by decide +kernel) (by decide +kernel)
set_option maxRecDepth 20000 in
theorem gX13_jumpToWord_X13_unsigned : GoodIn wsX13_jumpToWord (va_wsS RX13 276 yX13_unsigned wsX13_unsigned) := goodIn_app (goodIn_of _ (by decide +kernel)) ggX13_jumpToWord_X13_unsigned
theorem dX13_jumpToWord_0 : decode cX13_jumpToWord 0 = .ok (.aload_n 0, 1) := by decide +kernel
theorem dX13_jumpToWord_1 : decode cX13_jumpToWord 1 = .ok (.iload_n 1, 1) := by decide +kernel
theorem dX13_jumpToWord_2 : decode cX13_jumpToWord 2 = .ok (.invokestatic 276, 3) := by decide +kernel
theorem dX13_jumpToWord_5 : decode cX13_jumpToWord 5 = .ok (.aload_n 0, 1) := by decide +kernel
theorem dX13_jumpToWord_6 : decode cX13_jumpToWord 6 = .ok (.getfield 9, 3) := by decide +kernel
theorem dX13_jumpToWord_9 : decode cX13_jumpToWord 9 = .ok (.iconst 0, 1) := by decide +kernel
theorem dX13_jumpToWord_10 : decode cX13_jumpToWord 10 = .ok (.iaload, 1) := by decide +kernel
theorem dX13_jumpToWord_11 : decode cX13_jumpToWord 11 = .ok (.i2l, 1) := by decide +kernel
theorem dX13_jumpToWord_12 : decode cX13_jumpToWord 12 = .ok (.lrem, 1) := by decide +kernel
theorem dX13_jumpToWord_13 : decode cX13_jumpToWord 13 = .ok (.l2i, 1) := by decide +kernel
theorem dX13_jumpToWord_14 : decode cX13_jumpToWord 14 = .ok (.putfield 332, 3) := by decide +kernel
theorem dX13_jumpToWord_17 : decode cX13_jumpToWord 17 = .ok (.return_, 1) := by decide +kernel
set_option maxRecDepth 20000 in
theorem ggX13_decrease_X13_of : GoodIn wsX13_decrease wsX13_of := goodIn_r _ [5, 6, 11, 12, 13, 14, 15, 16, 17, 18, 19, 20, 21, 22, 23, 24, 25, 26, 27, 28, 29, 30, 31, 32, 33, 34, 35, 36, 37, 38, 39, 40, 41, 42, 43, 44, 45, 46, 47, 48, 49, 50, 51, 52, 53, 54, 55, 56, 57] (by decide +kernel) (by decide +kernel)
set_option maxRecDepth 20000 in
theorem gX13_decrease_X13_of : GoodIn wsX13_decrease (wsV RX13 238 RX13 yX13_of wsX13_of) := goodIn_app (goodIn_of _ (by decide +kernel)) ggX13_decrease_X13_of
set_option maxRecDepth 20000 in
theorem ggX13_decrease_X13_add : GoodIn wsX13_decrease wsX13_add := goodIn_r _ [10, 6, 11, 12, 13, 14, 15, 16, 17, 18, 19, 20, 21, 22, 23, 24, 25, 26, 27, 28, 29, 30, 31, 32, 33, 34, 35, 36, 37, 38, 39, 40, 41, 42, 43, 44, 45, 46, 47, 48, 49, 50, 51, 52, 53, 54, 55, 56, 57] (by decide +kernel) (by decide +kernel)
set_option maxRecDepth 20000 in
theorem gX13_decrease_X13_add : GoodIn wsX13_decrease (wsV RX13 234 RX13 yX13_add wsX13_add) := goodIn_app (goodIn_of _ (by decide +kernel)) ggX13_decrease_X13_add
theorem dX13_decrease_0 : decode cX13_decrease 0 = .ok (.aload_n 0, 1) := by decide +kernel
theorem dX13_decrease_1 : decode cX13_decrease 1 = .ok (.iload_n 1, 1) := by decide +kernel
theorem dX13_decrease_2 : decode cX13_decrease 2 = .ok (.iload_n 2, 1) := by decide +kernel
theorem dX13_decrease_3 : decode cX13_decrease 3 = .ok (.invokevirtual 238, 3) := by decide +kernel
theorem dX13_decrease_6 : decode cX13_decrease 6 = .ok (.ifCond .eq 7, 3) := by decide +kernel
theorem dX13_decrease_9 : decode cX13_decrease 9 = .ok (.iconst 1, 1) := by decide +kernel
theorem dX13_decrease_10 : decode cX13_decrease 10 = .ok (.goto 4, 3) := by decide +kernel
theorem dX13_decrease_13 : decode cX13_decrease 13 = .ok (.iconst 0, 1) := by decide +kernel
theorem dX13_decrease_14 : decode cX13_decrease 14 = .ok (.istore_n 3, 1) := by decide +kernel
theorem dX13_decrease_15 : decode cX13_decrease 15 = .ok (.aload_n 0, 1) := by decide +kernel
theorem dX13_decrease_16 : decode cX13_decrease 16 = .ok (.iload_n 1, 1) := by decide +kernel
theorem dX13_decrease_17 : decode cX13_decrease 17 = .ok (.iload_n 2, 1) := by decide +kernel
theorem dX13_decrease_18 : decode cX13_decrease 18 = .ok (.iconst (-1), 1) := by decide +kernel
theorem dX13_decrease_19 : decode cX13_decrease 19 = .ok (.invokevirtual 234, 3) := by decide +kernel
theorem dX13_decrease_22 : decode cX13_decrease 22 = .ok (.iload_n 3, 1) := by decide +kernel
theorem dX13_decrease_23 : decode cX13_decrease 23 = .ok (.ireturn, 1) := by decide +kernel
set_option maxRecDepth 20000 in
theorem ggX13_holds_X13_of : GoodIn wsX13_holds wsX13_of := goodIn_r _ [6, 7, 20, 21, 22, 23, 24, 25, 26, 27, 28, 29, 30, 31, 32, 33, 34, 35, 36, 37, 38, 39, 40, 41, 42, 43, 44, 45, 46, 47, 48, 49, 50, 51, 52, 53, 54, 55, 56, 57, 58, 59, 60, 61, 62, 63, 64, 65, 66] (by decide +kernel) (by decide +kernel)
set_option maxRecDepth 20000 in
theorem gX13_holds_X13_of : GoodIn wsX13_holds (wsV RX13 238 RX13 yX13_of wsX13_of) := goodIn_app (goodIn_of _ (by decide +kernel)) ggX13_holds_X13_of
set_option maxRecDepth 20000 in
theorem ggX13_holds_X13_decrease : GoodIn wsX13_holds wsX13_decrease := goodIn_r _ [11, 2, 3, 4, 5, 6, 7, 12, 13, 14, 15, 20, 21, 22, 23, 24, 25, 26, 27, 28, 29, 30, 31, 32, 33, 34, 35, 36, 37, 38, 39, 40, 41, 42, 43, 44, 45, 46, 47, 48, 49, 50, 51, 52, 53, 54, 55, 56, 57, 58, 59, 60, 61, 62, 63, 64, 65, 66] (by decide +kernel) (by decide +kernel)
set_option maxRecDepth 20000 in
theorem gX13_holds_X13_decrease : GoodIn wsX13_holds (wsV RX13 374 RX13 yX13_decrease wsX13_decrease) := goodIn_app (goodIn_of _ (by decide +kernel)) ggX13_holds_X13_decrease
set_option maxRecDepth 20000 in
theorem ggX13_holds_X13_setting : GoodIn wsX13_holds wsX13_setting := goodIn_r _ [19, 7, 20, 21, 22, 23, 24, 25, 26, 27, 28, 29, 30, 31, 32, 33, 34, 35, 36, 37, 38, 39, 40, 41, 42, 43, 44, 45, 46, 47, 48, 49, 50, 51, 52, 53, 54, 55, 56, 57, 58, 59, 60, 61, 62, 63, 64, 65, 66] (by decide +kernel) (by decide +kernel)
set_option maxRecDepth 20000 in
theorem gX13_holds_X13_setting : GoodIn wsX13_holds (wsV RX13 249 RX13 yX13_setting wsX13_setting) := goodIn_app (goodIn_of _ (by decide +kernel)) ggX13_holds_X13_setting
theorem dX13_holds_0 : decode cX13_holds 0 = .ok (.iload_n 2, 1) := by decide +kernel
theorem dX13_holds_1 : decode cX13_holds 1 = .ok (.tableswitch 132 0 6 #[43, 45, 60, 75, 82, 89, 110], 43) := by decide +kernel
theorem dX13_holds_44 : decode cX13_holds 44 = .ok (.iconst 1, 1) := by decide +kernel
theorem dX13_holds_45 : decode cX13_holds 45 = .ok (.ireturn, 1) := by decide +kernel
theorem dX13_holds_46 : decode cX13_holds 46 = .ok (.aload_n 0, 1) := by decide +kernel
theorem dX13_holds_47 : decode cX13_holds 47 = .ok (.iload_n 1, 1) := by decide +kernel
theorem dX13_holds_48 : decode cX13_holds 48 = .ok (.iconst 2, 1) := by decide +kernel
theorem dX13_holds_49 : decode cX13_holds 49 = .ok (.invokevirtual 238, 3) := by decide +kernel
theorem dX13_holds_52 : decode cX13_holds 52 = .ok (.ifCond .ne 7, 3) := by decide +kernel
theorem dX13_holds_55 : decode cX13_holds 55 = .ok (.iconst 1, 1) := by decide +kernel
theorem dX13_holds_56 : decode cX13_holds 56 = .ok (.goto 4, 3) := by decide +kernel
theorem dX13_holds_59 : decode cX13_holds 59 = .ok (.iconst 0, 1) := by decide +kernel
theorem dX13_holds_60 : decode cX13_holds 60 = .ok (.ireturn, 1) := by decide +kernel
theorem dX13_holds_61 : decode cX13_holds 61 = .ok (.aload_n 0, 1) := by decide +kernel
theorem dX13_holds_62 : decode cX13_holds 62 = .ok (.iload_n 1, 1) := by decide +kernel
theorem dX13_holds_63 : decode cX13_holds 63 = .ok (.iconst 3, 1) := by decide +kernel
theorem dX13_holds_64 : decode cX13_holds 64 = .ok (.invokevirtual 238, 3) := by decide +kernel
theorem dX13_holds_67 : decode cX13_holds 67 = .ok (.ifCond .ne 7, 3) := by decide +kernel
theorem dX13_holds_70 : decode cX13_holds 70 = .ok (.iconst 1, 1) := by decide +kernel
theorem dX13_holds_71 : decode cX13_holds 71 = .ok (.goto 4, 3) := by decide +kernel
theorem dX13_holds_74 : decode cX13_holds 74 = .ok (.iconst 0, 1) := by decide +kernel
theorem dX13_holds_75 : decode cX13_holds 75 = .ok (.ireturn, 1) := by decide +kernel
theorem dX13_holds_76 : decode cX13_holds 76 = .ok (.aload_n 0, 1) := by decide +kernel
theorem dX13_holds_77 : decode cX13_holds 77 = .ok (.iload_n 1, 1) := by decide +kernel
theorem dX13_holds_78 : decode cX13_holds 78 = .ok (.iconst 2, 1) := by decide +kernel
theorem dX13_holds_79 : decode cX13_holds 79 = .ok (.invokevirtual 374, 3) := by decide +kernel
theorem dX13_holds_82 : decode cX13_holds 82 = .ok (.ireturn, 1) := by decide +kernel
theorem dX13_holds_83 : decode cX13_holds 83 = .ok (.aload_n 0, 1) := by decide +kernel
theorem dX13_holds_84 : decode cX13_holds 84 = .ok (.iload_n 1, 1) := by decide +kernel
theorem dX13_holds_85 : decode cX13_holds 85 = .ok (.iconst 3, 1) := by decide +kernel
theorem dX13_holds_86 : decode cX13_holds 86 = .ok (.invokevirtual 374, 3) := by decide +kernel
theorem dX13_holds_89 : decode cX13_holds 89 = .ok (.ireturn, 1) := by decide +kernel
theorem dX13_holds_90 : decode cX13_holds 90 = .ok (.aload_n 0, 1) := by decide +kernel
theorem dX13_holds_91 : decode cX13_holds 91 = .ok (.iload_n 1, 1) := by decide +kernel
theorem dX13_holds_92 : decode cX13_holds 92 = .ok (.iconst 2, 1) := by decide +kernel
theorem dX13_holds_93 : decode cX13_holds 93 = .ok (.invokevirtual 238, 3) := by decide +kernel
theorem dX13_holds_96 : decode cX13_holds 96 = .ok (.aload_n 0, 1) := by decide +kernel
theorem dX13_holds_97 : decode cX13_holds 97 = .ok (.iload_n 1, 1) := by decide +kernel
theorem dX13_holds_98 : decode cX13_holds 98 = .ok (.iconst 3, 1) := by decide +kernel
theorem dX13_holds_99 : decode cX13_holds 99 = .ok (.invokevirtual 238, 3) := by decide +kernel
theorem dX13_holds_102 : decode cX13_holds 102 = .ok (.if_icmp .eq 7, 3) := by decide +kernel
theorem dX13_holds_105 : decode cX13_holds 105 = .ok (.iconst 1, 1) := by decide +kernel
theorem dX13_holds_106 : decode cX13_holds 106 = .ok (.goto 4, 3) := by decide +kernel
theorem dX13_holds_109 : decode cX13_holds 109 = .ok (.iconst 0, 1) := by decide +kernel
theorem dX13_holds_110 : decode cX13_holds 110 = .ok (.ireturn, 1) := by decide +kernel
theorem dX13_holds_111 : decode cX13_holds 111 = .ok (.aload_n 0, 1) := by decide +kernel
theorem dX13_holds_112 : decode cX13_holds 112 = .ok (.getfield 25, 3) := by decide +kernel
theorem dX13_holds_115 : decode cX13_holds 115 = .ok (.aload_n 0, 1) := by decide +kernel
theorem dX13_holds_116 : decode cX13_holds 116 = .ok (.iload_n 1, 1) := by decide +kernel
theorem dX13_holds_117 : decode cX13_holds 117 = .ok (.bipush 12, 2) := by decide +kernel
theorem dX13_holds_119 : decode cX13_holds 119 = .ok (.invokevirtual 249, 3) := by decide +kernel
theorem dX13_holds_122 : decode cX13_holds 122 = .ok (.iaload, 1) := by decide +kernel
theorem dX13_holds_123 : decode cX13_holds 123 = .ok (.iconst 1, 1) := by decide +kernel
theorem dX13_holds_124 : decode cX13_holds 124 = .ok (.if_icmp .ne 7, 3) := by decide +kernel
theorem dX13_holds_127 : decode cX13_holds 127 = .ok (.iconst 1, 1) := by decide +kernel
theorem dX13_holds_128 : decode cX13_holds 128 = .ok (.goto 4, 3) := by decide +kernel
theorem dX13_holds_131 : decode cX13_holds 131 = .ok (.iconst 0, 1) := by decide +kernel
theorem dX13_holds_132 : decode cX13_holds 132 = .ok (.ireturn, 1) := by decide +kernel
theorem dX13_holds_133 : decode cX13_holds 133 = .ok (.aload_n 0, 1) := by decide +kernel
theorem dX13_holds_134 : decode cX13_holds 134 = .ok (.iload_n 1, 1) := by decide +kernel
theorem dX13_holds_135 : decode cX13_holds 135 = .ok (.bipush 7, 2) := by decide +kernel
theorem dX13_holds_137 : decode cX13_holds 137 = .ok (.invokevirtual 238, 3) := by decide +kernel
theorem dX13_holds_140 : decode cX13_holds 140 = .ok (.aload_n 0, 1) := by decide +kernel
theorem dX13_holds_141 : decode cX13_holds 141 = .ok (.iload_n 1, 1) := by decide +kernel
theorem dX13_holds_142 : decode cX13_holds 142 = .ok (.bipush 17, 2) := by decide +kernel
theorem dX13_holds_144 : decode cX13_holds 144 = .ok (.invokevirtual 249, 3) := by decide +kernel
theorem dX13_holds_147 : decode cX13_holds 147 = .ok (.if_icmp .ge 7, 3) := by decide +kernel
theorem dX13_holds_150 : decode cX13_holds 150 = .ok (.iconst 1, 1) := by decide +kernel
theorem dX13_holds_151 : decode cX13_holds 151 = .ok (.goto 4, 3) := by decide +kernel
theorem dX13_holds_154 : decode cX13_holds 154 = .ok (.iconst 0, 1) := by decide +kernel
theorem dX13_holds_155 : decode cX13_holds 155 = .ok (.ireturn, 1) := by decide +kernel
set_option maxRecDepth 20000 in
theorem ggX13_jump_X13_holds : GoodIn wsX13_jump wsX13_holds := goodIn_r _ [6, 7, 8, 9, 10, 5, 11, 12, 13, 14, 15, 16, 17, 18, 19, 20, 21, 22, 23, 24, 33, 34, 35, 36, 37, 38, 39, 40, 41, 42, 43, 44, 45, 46, 47, 48, 49, 50, 51, 52, 53, 54, 55, 56, 57, 58, 59, 60, 61, 62, 63, 64, 65, 66, 67, 68, 69, 70, 71, 72, 73, 74, 75, 76, 77, 78, 79] (by decide +kernel) (by decide +kernel)
set_option maxRecDepth 20000 in
theorem gX13_jump_X13_holds : GoodIn wsX13_jump (wsV RX13 378 RX13 yX13_holds wsX13_holds) := goodIn_app (goodIn_of _ (by decide +kernel)) ggX13_jump_X13_holds
set_option maxRecDepth 20000 in
theorem ggX13_jump_X13_codeOf : GoodIn wsX13_jump wsX13_codeOf := goodIn_r _ [28, 8, 9, 10, 5, 11, 12, 29, 30, 31, 32, 33, 34, 35, 36, 37, 38, 39, 40, 41, 42, 43, 44, 45, 46, 47, 48, 49, 50, 51, 52, 53, 54, 55, 56, 57, 58, 59, 60, 61, 62, 63, 64, 65, 66, 67, 68, 69, 70, 71, 72, 73, 74, 75, 76, 77, 78, 79] (by decide +kernel) (by decide +kernel)
set_option maxRecDepth 20000 in
theorem gX13_jump_X13_codeOf : GoodIn wsX13_jump (wsV RX13 293 RX13 yX13_codeOf wsX13_codeOf) := goodIn_app (goodIn_of _ (by decide +kernel)) ggX13_jump_X13_codeOf
theorem dX13_jump_0 : decode cX13_jump 0 = .ok (.aload_n 0, 1) := by decide +kernel
theorem dX13_jump_1 : decode cX13_jump 1 = .ok (.aload_n 0, 1) := by decide +kernel
theorem dX13_jump_2 : decode cX13_jump 2 = .ok (.iload_n 1, 1) := by decide +kernel
theorem dX13_jump_3 : decode cX13_jump 3 = .ok (.iload_n 2, 1) := by decide +kernel
theorem dX13_jump_4 : decode cX13_jump 4 = .ok (.invokevirtual 378, 3) := by decide +kernel
theorem dX13_jump_7 : decode cX13_jump 7 = .ok (.ifCond .eq 12, 3) := by decide +kernel
theorem dX13_jump_10 : decode cX13_jump 10 = .ok (.aload_n 0, 1) := by decide +kernel
theorem dX13_jump_11 : decode cX13_jump 11 = .ok (.iload_n 1, 1) := by decide +kernel
theorem dX13_jump_12 : decode cX13_jump 12 = .ok (.iconst 2, 1) := by decide +kernel
theorem dX13_jump_13 : decode cX13_jump 13 = .ok (.invokevirtual 293, 3) := by decide +kernel
theorem dX13_jump_16 : decode cX13_jump 16 = .ok (.goto 4, 3) := by decide +kernel
theorem dX13_jump_19 : decode cX13_jump 19 = .ok (.iconst (-1), 1) := by decide +kernel
theorem dX13_jump_20 : decode cX13_jump 20 = .ok (.putfield 332, 3) := by decide +kernel
theorem dX13_jump_23 : decode cX13_jump 23 = .ok (.iconst 0, 1) := by decide +kernel
theorem dX13_jump_24 : decode cX13_jump 24 = .ok (.ireturn, 1) := by decide +kernel
set_option maxRecDepth 20000 in
theorem ggX13_waitFor_X13_codeOf : GoodIn wsX13_waitFor wsX13_codeOf := goodIn_r _ [8, 9, 10, 11, 7, 12, 13, 14, 15, 16, 17, 22, 23, 24, 25, 26, 27, 28, 29, 30, 31, 32, 33, 34, 35, 36, 37, 38, 39, 40, 41, 42, 43, 44, 45, 46, 47, 48, 49, 50, 51, 52, 53, 54, 55, 56, 57, 58, 59, 60, 61, 62, 63, 64, 65, 66, 67, 68] (by decide +kernel) (by decide +kernel)
set_option maxRecDepth 20000 in
theorem gX13_waitFor_X13_codeOf : GoodIn wsX13_waitFor (wsV RX13 293 RX13 yX13_codeOf wsX13_codeOf) := goodIn_app (goodIn_of _ (by decide +kernel)) ggX13_waitFor_X13_codeOf
set_option maxRecDepth 20000 in
theorem ggX13_waitFor_X13_setting : GoodIn wsX13_waitFor wsX13_setting := goodIn_r _ [21, 13, 22, 23, 24, 25, 26, 27, 28, 29, 30, 31, 32, 33, 34, 35, 36, 37, 38, 39, 40, 41, 42, 43, 44, 45, 46, 47, 48, 49, 50, 51, 52, 53, 54, 55, 56, 57, 58, 59, 60, 61, 62, 63, 64, 65, 66, 67, 68] (by decide +kernel) (by decide +kernel)
set_option maxRecDepth 20000 in
theorem gX13_waitFor_X13_setting : GoodIn wsX13_waitFor (wsV RX13 249 RX13 yX13_setting wsX13_setting) := goodIn_app (goodIn_of _ (by decide +kernel)) ggX13_waitFor_X13_setting
theorem dX13_waitFor_0 : decode cX13_waitFor 0 = .ok (.aload_n 0, 1) := by decide +kernel
theorem dX13_waitFor_1 : decode cX13_waitFor 1 = .ok (.iload_n 1, 1) := by decide +kernel
theorem dX13_waitFor_2 : decode cX13_waitFor 2 = .ok (.iconst 3, 1) := by decide +kernel
theorem dX13_waitFor_3 : decode cX13_waitFor 3 = .ok (.invokevirtual 293, 3) := by decide +kernel
theorem dX13_waitFor_6 : decode cX13_waitFor 6 = .ok (.istore_n 3, 1) := by decide +kernel
theorem dX13_waitFor_7 : decode cX13_waitFor 7 = .ok (.aload_n 0, 1) := by decide +kernel
theorem dX13_waitFor_8 : decode cX13_waitFor 8 = .ok (.iload_n 1, 1) := by decide +kernel
theorem dX13_waitFor_9 : decode cX13_waitFor 9 = .ok (.iconst 2, 1) := by decide +kernel
theorem dX13_waitFor_10 : decode cX13_waitFor 10 = .ok (.invokevirtual 293, 3) := by decide +kernel
theorem dX13_waitFor_13 : decode cX13_waitFor 13 = .ok (.iconst 1, 1) := by decide +kernel
theorem dX13_waitFor_14 : decode cX13_waitFor 14 = .ok (.if_icmp .ne 7, 3) := by decide +kernel
theorem dX13_waitFor_17 : decode cX13_waitFor 17 = .ok (.iconst 1, 1) := by decide +kernel
theorem dX13_waitFor_18 : decode cX13_waitFor 18 = .ok (.goto 4, 3) := by decide +kernel
theorem dX13_waitFor_21 : decode cX13_waitFor 21 = .ok (.iconst 0, 1) := by decide +kernel
theorem dX13_waitFor_22 : decode cX13_waitFor 22 = .ok (.istore 4, 2) := by decide +kernel
theorem dX13_waitFor_24 : decode cX13_waitFor 24 = .ok (.iload 4, 2) := by decide +kernel
theorem dX13_waitFor_26 : decode cX13_waitFor 26 = .ok (.ifCond .eq 12, 3) := by decide +kernel
theorem dX13_waitFor_29 : decode cX13_waitFor 29 = .ok (.aload_n 0, 1) := by decide +kernel
theorem dX13_waitFor_30 : decode cX13_waitFor 30 = .ok (.getfield 28, 3) := by decide +kernel
theorem dX13_waitFor_33 : decode cX13_waitFor 33 = .ok (.iload_n 3, 1) := by decide +kernel
theorem dX13_waitFor_34 : decode cX13_waitFor 34 = .ok (.iaload, 1) := by decide +kernel
theorem dX13_waitFor_35 : decode cX13_waitFor 35 = .ok (.goto 20, 3) := by decide +kernel
theorem dX13_waitFor_38 : decode cX13_waitFor 38 = .ok (.aload_n 0, 1) := by decide +kernel
theorem dX13_waitFor_39 : decode cX13_waitFor 39 = .ok (.getfield 25, 3) := by decide +kernel
theorem dX13_waitFor_42 : decode cX13_waitFor 42 = .ok (.aload_n 0, 1) := by decide +kernel
theorem dX13_waitFor_43 : decode cX13_waitFor 43 = .ok (.iload_n 1, 1) := by decide +kernel
theorem dX13_waitFor_44 : decode cX13_waitFor 44 = .ok (.bipush 11, 2) := by decide +kernel
theorem dX13_waitFor_46 : decode cX13_waitFor 46 = .ok (.invokevirtual 249, 3) := by decide +kernel
theorem dX13_waitFor_49 : decode cX13_waitFor 49 = .ok (.iload_n 3, 1) := by decide +kernel
theorem dX13_waitFor_50 : decode cX13_waitFor 50 = .ok (.iadd, 1) := by decide +kernel
theorem dX13_waitFor_51 : decode cX13_waitFor 51 = .ok (.bipush 16, 2) := by decide +kernel
theorem dX13_waitFor_53 : decode cX13_waitFor 53 = .ok (.irem, 1) := by decide +kernel
theorem dX13_waitFor_54 : decode cX13_waitFor 54 = .ok (.iaload, 1) := by decide +kernel
theorem dX13_waitFor_55 : decode cX13_waitFor 55 = .ok (.istore 5, 2) := by decide +kernel
theorem dX13_waitFor_57 : decode cX13_waitFor 57 = .ok (.iload 5, 2) := by decide +kernel
theorem dX13_waitFor_59 : decode cX13_waitFor 59 = .ok (.iload_n 2, 1) := by decide +kernel
theorem dX13_waitFor_60 : decode cX13_waitFor 60 = .ok (.if_icmp .eq 5, 3) := by decide +kernel
theorem dX13_waitFor_63 : decode cX13_waitFor 63 = .ok (.iconst 1, 1) := by decide +kernel
theorem dX13_waitFor_64 : decode cX13_waitFor 64 = .ok (.ireturn, 1) := by decide +kernel
theorem dX13_waitFor_65 : decode cX13_waitFor 65 = .ok (.aload_n 0, 1) := by decide +kernel
theorem dX13_waitFor_66 : decode cX13_waitFor 66 = .ok (.dup, 1) := by decide +kernel
theorem dX13_waitFor_67 : decode cX13_waitFor 67 = .ok (.getfield 290, 3) := by decide +kernel
theorem dX13_waitFor_70 : decode cX13_waitFor 70 = .ok (.iload 4, 2) := by decide +kernel
theorem dX13_waitFor_72 : decode cX13_waitFor 72 = .ok (.ifCond .eq 14, 3) := by decide +kernel
theorem dX13_waitFor_75 : decode cX13_waitFor 75 = .ok (.iload_n 2, 1) := by decide +kernel
theorem dX13_waitFor_76 : decode cX13_waitFor 76 = .ok (.iconst 1, 1) := by decide +kernel
theorem dX13_waitFor_77 : decode cX13_waitFor 77 = .ok (.if_icmp .ne 9, 3) := by decide +kernel
theorem dX13_waitFor_80 : decode cX13_waitFor 80 = .ok (.iconst 1, 1) := by decide +kernel
theorem dX13_waitFor_81 : decode cX13_waitFor 81 = .ok (.iload_n 3, 1) := by decide +kernel
theorem dX13_waitFor_82 : decode cX13_waitFor 82 = .ok (.ishl, 1) := by decide +kernel
theorem dX13_waitFor_83 : decode cX13_waitFor 83 = .ok (.goto 4, 3) := by decide +kernel
theorem dX13_waitFor_86 : decode cX13_waitFor 86 = .ok (.iconst 0, 1) := by decide +kernel
theorem dX13_waitFor_87 : decode cX13_waitFor 87 = .ok (.ior, 1) := by decide +kernel
theorem dX13_waitFor_88 : decode cX13_waitFor 88 = .ok (.putfield 290, 3) := by decide +kernel
theorem dX13_waitFor_91 : decode cX13_waitFor 91 = .ok (.iconst 0, 1) := by decide +kernel
theorem dX13_waitFor_92 : decode cX13_waitFor 92 = .ok (.ireturn, 1) := by decide +kernel
set_option maxRecDepth 20000 in
theorem ggX13_signal_X13_of : GoodIn wsX13_signal wsX13_of := goodIn_r _ [7, 8, 9, 10, 11, 12, 13, 14, 15, 16, 17, 18, 19, 20, 21, 22, 23, 24, 25, 26, 27, 28, 29, 30, 31, 32, 33, 34, 35, 36, 37, 38, 39, 40, 41, 42, 43, 44, 45, 46, 47, 48, 49, 50, 51, 52, 53, 54, 55] (by decide +kernel) (by decide +kernel)
set_option maxRecDepth 20000 in
theorem gX13_signal_X13_of : GoodIn wsX13_signal (wsV RX13 238 RX13 yX13_of wsX13_of) := goodIn_app (goodIn_of _ (by decide +kernel)) ggX13_signal_X13_of
theorem dX13_signal_0 : decode cX13_signal 0 = .ok (.aload_n 0, 1) := by decide +kernel
theorem dX13_signal_1 : decode cX13_signal 1 = .ok (.iload_n 1, 1) := by decide +kernel
theorem dX13_signal_2 : decode cX13_signal 2 = .ok (.bipush 9, 2) := by decide +kernel
theorem dX13_signal_4 : decode cX13_signal 4 = .ok (.invokevirtual 238, 3) := by decide +kernel
theorem dX13_signal_7 : decode cX13_signal 7 = .ok (.ifCond .ne 17, 3) := by decide +kernel
theorem dX13_signal_10 : decode cX13_signal 10 = .ok (.aload_n 0, 1) := by decide +kernel
theorem dX13_signal_11 : decode cX13_signal 11 = .ok (.dup, 1) := by decide +kernel
theorem dX13_signal_12 : decode cX13_signal 12 = .ok (.getfield 287, 3) := by decide +kernel
theorem dX13_signal_15 : decode cX13_signal 15 = .ok (.iconst 1, 1) := by decide +kernel
theorem dX13_signal_16 : decode cX13_signal 16 = .ok (.iload_n 2, 1) := by decide +kernel
theorem dX13_signal_17 : decode cX13_signal 17 = .ok (.ishl, 1) := by decide +kernel
theorem dX13_signal_18 : decode cX13_signal 18 = .ok (.ior, 1) := by decide +kernel
theorem dX13_signal_19 : decode cX13_signal 19 = .ok (.putfield 287, 3) := by decide +kernel
theorem dX13_signal_22 : decode cX13_signal 22 = .ok (.iconst 5, 1) := by decide +kernel
theorem dX13_signal_23 : decode cX13_signal 23 = .ok (.ireturn, 1) := by decide +kernel
theorem dX13_signal_24 : decode cX13_signal 24 = .ok (.aload_n 0, 1) := by decide +kernel
theorem dX13_signal_25 : decode cX13_signal 25 = .ok (.getfield 28, 3) := by decide +kernel
theorem dX13_signal_28 : decode cX13_signal 28 = .ok (.iload_n 2, 1) := by decide +kernel
theorem dX13_signal_29 : decode cX13_signal 29 = .ok (.iaload, 1) := by decide +kernel
theorem dX13_signal_30 : decode cX13_signal 30 = .ok (.ifCond .ne 7, 3) := by decide +kernel
theorem dX13_signal_33 : decode cX13_signal 33 = .ok (.iconst 0, 1) := by decide +kernel
theorem dX13_signal_34 : decode cX13_signal 34 = .ok (.goto 4, 3) := by decide +kernel
theorem dX13_signal_37 : decode cX13_signal 37 = .ok (.iconst 5, 1) := by decide +kernel
theorem dX13_signal_38 : decode cX13_signal 38 = .ok (.ireturn, 1) := by decide +kernel
set_option maxRecDepth 20000 in
theorem ggX13_pinValue_X13_setting : GoodIn wsX13_pinValue wsX13_setting := goodIn_r _ [6, 7, 8, 9, 10, 11, 12, 13, 14, 15, 16, 17, 18, 19, 20, 21, 22, 23, 24, 25, 26, 27, 28, 29, 30, 31, 32, 33, 34, 35, 36, 37, 38, 39, 40, 41, 42, 43, 44, 45, 46, 47, 48, 49, 50, 51, 52, 53, 54] (by decide +kernel) (by decide +kernel)
set_option maxRecDepth 20000 in
theorem gX13_pinValue_X13_setting : GoodIn wsX13_pinValue (wsV RX13 249 RX13 yX13_setting wsX13_setting) := goodIn_app (goodIn_of _ (by decide +kernel)) ggX13_pinValue_X13_setting
theorem dX13_pinValue_0 : decode cX13_pinValue 0 = .ok (.iconst 0, 1) := by decide +kernel
theorem dX13_pinValue_1 : decode cX13_pinValue 1 = .ok (.istore_n 2, 1) := by decide +kernel
theorem dX13_pinValue_2 : decode cX13_pinValue 2 = .ok (.iconst 0, 1) := by decide +kernel
theorem dX13_pinValue_3 : decode cX13_pinValue 3 = .ok (.istore_n 3, 1) := by decide +kernel
theorem dX13_pinValue_4 : decode cX13_pinValue 4 = .ok (.iload_n 3, 1) := by decide +kernel
theorem dX13_pinValue_5 : decode cX13_pinValue 5 = .ok (.bipush 16, 2) := by decide +kernel
theorem dX13_pinValue_7 : decode cX13_pinValue 7 = .ok (.if_icmp .ge 31, 3) := by decide +kernel
theorem dX13_pinValue_10 : decode cX13_pinValue 10 = .ok (.iload_n 2, 1) := by decide +kernel
theorem dX13_pinValue_11 : decode cX13_pinValue 11 = .ok (.aload_n 0, 1) := by decide +kernel
theorem dX13_pinValue_12 : decode cX13_pinValue 12 = .ok (.getfield 25, 3) := by decide +kernel
theorem dX13_pinValue_15 : decode cX13_pinValue 15 = .ok (.aload_n 0, 1) := by decide +kernel
theorem dX13_pinValue_16 : decode cX13_pinValue 16 = .ok (.iload_n 1, 1) := by decide +kernel
theorem dX13_pinValue_17 : decode cX13_pinValue 17 = .ok (.bipush 11, 2) := by decide +kernel
theorem dX13_pinValue_19 : decode cX13_pinValue 19 = .ok (.invokevirtual 249, 3) := by decide +kernel
theorem dX13_pinValue_22 : decode cX13_pinValue 22 = .ok (.iload_n 3, 1) := by decide +kernel
theorem dX13_pinValue_23 : decode cX13_pinValue 23 = .ok (.iadd, 1) := by decide +kernel
theorem dX13_pinValue_24 : decode cX13_pinValue 24 = .ok (.bipush 16, 2) := by decide +kernel
theorem dX13_pinValue_26 : decode cX13_pinValue 26 = .ok (.irem, 1) := by decide +kernel
theorem dX13_pinValue_27 : decode cX13_pinValue 27 = .ok (.iaload, 1) := by decide +kernel
theorem dX13_pinValue_28 : decode cX13_pinValue 28 = .ok (.iload_n 3, 1) := by decide +kernel
theorem dX13_pinValue_29 : decode cX13_pinValue 29 = .ok (.ishl, 1) := by decide +kernel
theorem dX13_pinValue_30 : decode cX13_pinValue 30 = .ok (.ior, 1) := by decide +kernel
theorem dX13_pinValue_31 : decode cX13_pinValue 31 = .ok (.istore_n 2, 1) := by decide +kernel
theorem dX13_pinValue_32 : decode cX13_pinValue 32 = .ok (.iinc 3 1, 3) := by decide +kernel
theorem dX13_pinValue_35 : decode cX13_pinValue 35 = .ok (.goto (-31), 3) := by decide +kernel
theorem dX13_pinValue_38 : decode cX13_pinValue 38 = .ok (.iload_n 2, 1) := by decide +kernel
theorem dX13_pinValue_39 : decode cX13_pinValue 39 = .ok (.ireturn, 1) := by decide +kernel
set_option maxRecDepth 20000 in
theorem ggX13_source_X13_pinValue : GoodIn wsX13_source wsX13_pinValue := goodIn_r _ [5, 6, 7, 8, 9, 4, 10, 11, 16, 17, 18, 19, 20, 21, 22, 23, 24, 25, 26, 27, 28, 29, 30, 31, 32, 33, 34, 35, 36, 37, 38, 39, 40, 41, 42, 43, 44, 45, 46, 47, 48, 49, 50, 51, 52, 53, 54, 55, 56, 57, 58, 59, 60, 61, 62] (by decide +kernel) (by decide +kernel)
set_option maxRecDepth 20000 in
theorem gX13_source_X13_pinValue : GoodIn wsX13_source (wsV RX13 381 RX13 yX13_pinValue wsX13_pinValue) := goodIn_app (goodIn_of _ (by decide +kernel)) ggX13_source_X13_pinValue
set_option maxRecDepth 20000 in
theorem ggX13_source_X13_of : GoodIn wsX13_source wsX13_of := goodIn_r _ [15, 11, 16, 17, 18, 19, 20, 21, 22, 23, 24, 25, 26, 27, 28, 29, 30, 31, 32, 33, 34, 35, 36, 37, 38, 39, 40, 41, 42, 43, 44, 45, 46, 47, 48, 49, 50, 51, 52, 53, 54, 55, 56, 57, 58, 59, 60, 61, 62] (by decide +kernel) (by decide +kernel)
set_option maxRecDepth 20000 in
theorem gX13_source_X13_of : GoodIn wsX13_source (wsV RX13 238 RX13 yX13_of wsX13_of) := goodIn_app (goodIn_of _ (by decide +kernel)) ggX13_source_X13_of
theorem dX13_source_0 : decode cX13_source 0 = .ok (.iload_n 2, 1) := by decide +kernel
theorem dX13_source_1 : decode cX13_source 1 = .ok (.tableswitch 93 0 6 #[43, 49, 56, 93, 63, 70, 77], 43) := by decide +kernel
theorem dX13_source_44 : decode cX13_source 44 = .ok (.aload_n 0, 1) := by decide +kernel
theorem dX13_source_45 : decode cX13_source 45 = .ok (.iload_n 1, 1) := by decide +kernel
theorem dX13_source_46 : decode cX13_source 46 = .ok (.invokevirtual 381, 3) := by decide +kernel
theorem dX13_source_49 : decode cX13_source 49 = .ok (.ireturn, 1) := by decide +kernel
theorem dX13_source_50 : decode cX13_source 50 = .ok (.aload_n 0, 1) := by decide +kernel
theorem dX13_source_51 : decode cX13_source 51 = .ok (.iload_n 1, 1) := by decide +kernel
theorem dX13_source_52 : decode cX13_source 52 = .ok (.iconst 2, 1) := by decide +kernel
theorem dX13_source_53 : decode cX13_source 53 = .ok (.invokevirtual 238, 3) := by decide +kernel
theorem dX13_source_56 : decode cX13_source 56 = .ok (.ireturn, 1) := by decide +kernel
theorem dX13_source_57 : decode cX13_source 57 = .ok (.aload_n 0, 1) := by decide +kernel
theorem dX13_source_58 : decode cX13_source 58 = .ok (.iload_n 1, 1) := by decide +kernel
theorem dX13_source_59 : decode cX13_source 59 = .ok (.iconst 3, 1) := by decide +kernel
theorem dX13_source_60 : decode cX13_source 60 = .ok (.invokevirtual 238, 3) := by decide +kernel
theorem dX13_source_63 : decode cX13_source 63 = .ok (.ireturn, 1) := by decide +kernel
theorem dX13_source_64 : decode cX13_source 64 = .ok (.aload_n 0, 1) := by decide +kernel
theorem dX13_source_65 : decode cX13_source 65 = .ok (.iload_n 1, 1) := by decide +kernel
theorem dX13_source_66 : decode cX13_source 66 = .ok (.iconst 4, 1) := by decide +kernel
theorem dX13_source_67 : decode cX13_source 67 = .ok (.invokevirtual 238, 3) := by decide +kernel
theorem dX13_source_70 : decode cX13_source 70 = .ok (.ireturn, 1) := by decide +kernel
theorem dX13_source_71 : decode cX13_source 71 = .ok (.aload_n 0, 1) := by decide +kernel
theorem dX13_source_72 : decode cX13_source 72 = .ok (.iload_n 1, 1) := by decide +kernel
theorem dX13_source_73 : decode cX13_source 73 = .ok (.iconst 5, 1) := by decide +kernel
theorem dX13_source_74 : decode cX13_source 74 = .ok (.invokevirtual 238, 3) := by decide +kernel
theorem dX13_source_77 : decode cX13_source 77 = .ok (.ireturn, 1) := by decide +kernel
theorem dX13_source_78 : decode cX13_source 78 = .ok (.aload_n 0, 1) := by decide +kernel
theorem dX13_source_79 : decode cX13_source 79 = .ok (.iload_n 1, 1) := by decide +kernel
theorem dX13_source_80 : decode cX13_source 80 = .ok (.bipush 11, 2) := by decide +kernel
theorem dX13_source_82 : decode cX13_source 82 = .ok (.invokevirtual 238, 3) := by decide +kernel
theorem dX13_source_85 : decode cX13_source 85 = .ok (.ifCond .ne 7, 3) := by decide +kernel
theorem dX13_source_88 : decode cX13_source 88 = .ok (.iconst (-1), 1) := by decide +kernel
theorem dX13_source_89 : decode cX13_source 89 = .ok (.goto 4, 3) := by decide +kernel
theorem dX13_source_92 : decode cX13_source 92 = .ok (.iconst 0, 1) := by decide +kernel
theorem dX13_source_93 : decode cX13_source 93 = .ok (.ireturn, 1) := by decide +kernel
theorem dX13_source_94 : decode cX13_source 94 = .ok (.iconst 0, 1) := by decide +kernel
theorem dX13_source_95 : decode cX13_source 95 = .ok (.ireturn, 1) := by decide +kernel
theorem dX13_lowest_0 : decode cX13_lowest 0 = .ok (.iload_n 1, 1) := by decide +kernel
theorem dX13_lowest_1 : decode cX13_lowest 1 = .ok (.bipush 32, 2) := by decide +kernel
theorem dX13_lowest_3 : decode cX13_lowest 3 = .ok (.if_icmp .ne 7, 3) := by decide +kernel
theorem dX13_lowest_6 : decode cX13_lowest 6 = .ok (.iload_n 0, 1) := by decide +kernel
theorem dX13_lowest_7 : decode cX13_lowest 7 = .ok (.goto 10, 3) := by decide +kernel
theorem dX13_lowest_10 : decode cX13_lowest 10 = .ok (.iload_n 0, 1) := by decide +kernel
theorem dX13_lowest_11 : decode cX13_lowest 11 = .ok (.iconst 1, 1) := by decide +kernel
theorem dX13_lowest_12 : decode cX13_lowest 12 = .ok (.iload_n 1, 1) := by decide +kernel
theorem dX13_lowest_13 : decode cX13_lowest 13 = .ok (.ishl, 1) := by decide +kernel
theorem dX13_lowest_14 : decode cX13_lowest 14 = .ok (.iconst 1, 1) := by decide +kernel
theorem dX13_lowest_15 : decode cX13_lowest 15 = .ok (.isub, 1) := by decide +kernel
theorem dX13_lowest_16 : decode cX13_lowest 16 = .ok (.iand, 1) := by decide +kernel
theorem dX13_lowest_17 : decode cX13_lowest 17 = .ok (.ireturn, 1) := by decide +kernel
set_option maxRecDepth 20000 in
theorem ggX13_shiftIn_X13_of : GoodIn wsX13_shiftIn wsX13_of := goodIn_r _ [9, 10, 46, 47, 48, 49, 50, 51, 52, 53, 54, 55, 56, 57, 58, 59, 60, 61, 62, 63, 64, 65, 66, 67, 68, 69, 70, 71, 72, 73, 74, 75, 76, 77, 78, 79, 80, 81, 82, 83, 84, 85, 86, 87, 88, 89, 90, 91, 92] (by decide +kernel) (by decide +kernel)
set_option maxRecDepth 20000 in
theorem gX13_shiftIn_X13_of : GoodIn wsX13_shiftIn (wsV RX13 238 RX13 yX13_of wsX13_of) := goodIn_app (goodIn_of _ (by decide +kernel)) ggX13_shiftIn_X13_of
set_option maxRecDepth 20000 in
theorem ggX13_shiftIn_X13_setting : GoodIn wsX13_shiftIn wsX13_setting := goodIn_r _ [14, 10, 46, 47, 48, 49, 50, 51, 52, 53, 54, 55, 56, 57, 58, 59, 60, 61, 62, 63, 64, 65, 66, 67, 68, 69, 70, 71, 72, 73, 74, 75, 76, 77, 78, 79, 80, 81, 82, 83, 84, 85, 86, 87, 88, 89, 90, 91, 92] (by decide +kernel) (by decide +kernel)
set_option maxRecDepth 20000 in
theorem gX13_shiftIn_X13_setting : GoodIn wsX13_shiftIn (wsV RX13 249 RX13 yX13_setting wsX13_setting) := goodIn_app (goodIn_of _ (by decide +kernel)) ggX13_shiftIn_X13_setting
set_option maxRecDepth 20000 in
theorem ggX13_shiftIn_X13_lowest : GoodIn wsX13_shiftIn wsX13_lowest := goodIn_r _ [17] (by decide +kernel) (by decide +kernel)
set_option maxRecDepth 20000 in
theorem gX13_shiftIn_X13_lowest : GoodIn wsX13_shiftIn (va_wsS RX13 384 yX13_lowest wsX13_lowest) := goodIn_app (goodIn_of _ (by decide +kernel)) ggX13_shiftIn_X13_lowest
set_option maxRecDepth 20000 in
theorem ggX13_shiftIn_X13_isFull : GoodIn wsX13_shiftIn wsX13_isFull := goodIn_r _ [21, 5, 6, 7, 8, 9, 10, 11, 12, 13, 14, 46, 47, 48, 49, 50, 51, 52, 53, 54, 55, 56, 57, 58, 59, 60, 61, 62, 63, 64, 65, 66, 67, 68, 69, 70, 71, 72, 73, 74, 75, 76, 77, 78, 79, 80, 81, 82, 83, 84, 85, 86, 87, 88, 89, 90, 91, 92] (by decide +kernel) (by decide +kernel)
set_option maxRecDepth 20000 in
theorem gX13_shiftIn_X13_isFull : GoodIn wsX13_shiftIn (wsV RX13 392 RX13 yX13_isFull wsX13_isFull) := goodIn_app (goodIn_of _ (by decide +kernel)) ggX13_shiftIn_X13_isFull
set_option maxRecDepth 20000 in
theorem ggX13_shiftIn_X13_set : GoodIn wsX13_shiftIn wsX13_set := goodIn_r _ [25, 10, 46, 47, 48, 49, 50, 51, 52, 53, 54, 55, 56, 57, 58, 59, 60, 61, 62, 63, 64, 65, 66, 67, 68, 69, 70, 71, 72, 73, 74, 75, 76, 77, 78, 79, 80, 81, 82, 83, 84, 85, 86, 87, 88, 89, 90, 91, 92] (by decide +kernel) (by decide +kernel)
set_option maxRecDepth 20000 in
theorem gX13_shiftIn_X13_set : GoodIn wsX13_shiftIn (wsV RX13 282 RX13 yX13_set wsX13_set) := goodIn_app (goodIn_of _ (by decide +kernel)) ggX13_shiftIn_X13_set
set_option maxRecDepth 20000 in
theorem ggX13_shiftIn_X13_appendShifted : GoodIn wsX13_shiftIn wsX13_appendShifted := goodIn_r _ [29, 5, 6, 7, 8, 9, 10, 30, 31, 32, 33, 22, 23, 24, 25, 34, 35, 36, 37, 38, 39, 40, 41, 42, 43, 44, 45, 46, 47, 48, 49, 50, 51, 52, 53, 54, 55, 56, 57, 58, 59, 60, 61, 62, 63, 64, 65, 66, 67, 68, 69, 70, 71, 72, 73, 74, 75, 76, 77, 78, 79, 80, 81, 82, 83, 84, 85, 86, 87, 88, 89, 90, 91, 92] (by decide +kernel) (by decide +kernel)
set_option maxRecDepth 20000 in
theorem gX13_shiftIn_X13_appendShifted : GoodIn wsX13_shiftIn (wsV RX13 396 RX13 yX13_appendShifted wsX13_appendShifted) := goodIn_app (goodIn_of _ (by decide +kernel)) ggX13_shiftIn_X13_appendShifted
theorem dX13_shiftIn_0 : decode cX13_shiftIn 0 = .ok (.aload_n 0, 1) := by decide +kernel
theorem dX13_shiftIn_1 : decode cX13_shiftIn 1 = .ok (.iload_n 1, 1) := by decide +kernel
theorem dX13_shiftIn_2 : decode cX13_shiftIn 2 = .ok (.iconst 4, 1) := by decide +kernel
theorem dX13_shiftIn_3 : decode cX13_shiftIn 3 = .ok (.invokevirtual 238, 3) := by decide +kernel
theorem dX13_shiftIn_6 : decode cX13_shiftIn 6 = .ok (.istore 4, 2) := by decide +kernel
theorem dX13_shiftIn_8 : decode cX13_shiftIn 8 = .ok (.aload_n 0, 1) := by decide +kernel
theorem dX13_shiftIn_9 : decode cX13_shiftIn 9 = .ok (.iload_n 1, 1) := by decide +kernel
theorem dX13_shiftIn_10 : decode cX13_shiftIn 10 = .ok (.bipush 13, 2) := by decide +kernel
theorem dX13_shiftIn_12 : decode cX13_shiftIn 12 = .ok (.invokevirtual 249, 3) := by decide +kernel
theorem dX13_shiftIn_15 : decode cX13_shiftIn 15 = .ok (.iconst 1, 1) := by decide +kernel
theorem dX13_shiftIn_16 : decode cX13_shiftIn 16 = .ok (.if_icmp .ne 7, 3) := by decide +kernel
theorem dX13_shiftIn_19 : decode cX13_shiftIn 19 = .ok (.iconst 1, 1) := by decide +kernel
theorem dX13_shiftIn_20 : decode cX13_shiftIn 20 = .ok (.goto 4, 3) := by decide +kernel
theorem dX13_shiftIn_23 : decode cX13_shiftIn 23 = .ok (.iconst 0, 1) := by decide +kernel
theorem dX13_shiftIn_24 : decode cX13_shiftIn 24 = .ok (.istore 5, 2) := by decide +kernel
theorem dX13_shiftIn_26 : decode cX13_shiftIn 26 = .ok (.iload_n 2, 1) := by decide +kernel
theorem dX13_shiftIn_27 : decode cX13_shiftIn 27 = .ok (.iload_n 3, 1) := by decide +kernel
theorem dX13_shiftIn_28 : decode cX13_shiftIn 28 = .ok (.invokestatic 384, 3) := by decide +kernel
theorem dX13_shiftIn_31 : decode cX13_shiftIn 31 = .ok (.istore 6, 2) := by decide +kernel
theorem dX13_shiftIn_33 : decode cX13_shiftIn 33 = .ok (.iload_n 3, 1) := by decide +kernel
theorem dX13_shiftIn_34 : decode cX13_shiftIn 34 = .ok (.bipush 32, 2) := by decide +kernel
theorem dX13_shiftIn_36 : decode cX13_shiftIn 36 = .ok (.if_icmp .ne 7, 3) := by decide +kernel
theorem dX13_shiftIn_39 : decode cX13_shiftIn 39 = .ok (.iload_n 2, 1) := by decide +kernel
theorem dX13_shiftIn_40 : decode cX13_shiftIn 40 = .ok (.goto 30, 3) := by decide +kernel
theorem dX13_shiftIn_43 : decode cX13_shiftIn 43 = .ok (.iload 5, 2) := by decide +kernel
theorem dX13_shiftIn_45 : decode cX13_shiftIn 45 = .ok (.ifCond .eq 13, 3) := by decide +kernel
theorem dX13_shiftIn_48 : decode cX13_shiftIn 48 = .ok (.iload 4, 2) := by decide +kernel
theorem dX13_shiftIn_50 : decode cX13_shiftIn 50 = .ok (.iload_n 3, 1) := by decide +kernel
theorem dX13_shiftIn_51 : decode cX13_shiftIn 51 = .ok (.ishl, 1) := by decide +kernel
theorem dX13_shiftIn_52 : decode cX13_shiftIn 52 = .ok (.iload 6, 2) := by decide +kernel
theorem dX13_shiftIn_54 : decode cX13_shiftIn 54 = .ok (.ior, 1) := by decide +kernel
theorem dX13_shiftIn_55 : decode cX13_shiftIn 55 = .ok (.goto 15, 3) := by decide +kernel
theorem dX13_shiftIn_58 : decode cX13_shiftIn 58 = .ok (.iload 4, 2) := by decide +kernel
theorem dX13_shiftIn_60 : decode cX13_shiftIn 60 = .ok (.iload_n 3, 1) := by decide +kernel
theorem dX13_shiftIn_61 : decode cX13_shiftIn 61 = .ok (.iushr, 1) := by decide +kernel
theorem dX13_shiftIn_62 : decode cX13_shiftIn 62 = .ok (.iload 6, 2) := by decide +kernel
theorem dX13_shiftIn_64 : decode cX13_shiftIn 64 = .ok (.bipush 32, 2) := by decide +kernel
theorem dX13_shiftIn_66 : decode cX13_shiftIn 66 = .ok (.iload_n 3, 1) := by decide +kernel
theorem dX13_shiftIn_67 : decode cX13_shiftIn 67 = .ok (.isub, 1) := by decide +kernel
theorem dX13_shiftIn_68 : decode cX13_shiftIn 68 = .ok (.ishl, 1) := by decide +kernel
theorem dX13_shiftIn_69 : decode cX13_shiftIn 69 = .ok (.ior, 1) := by decide +kernel
theorem dX13_shiftIn_70 : decode cX13_shiftIn 70 = .ok (.istore 7, 2) := by decide +kernel
theorem dX13_shiftIn_72 : decode cX13_shiftIn 72 = .ok (.bipush 32, 2) := by decide +kernel
theorem dX13_shiftIn_74 : decode cX13_shiftIn 74 = .ok (.aload_n 0, 1) := by decide +kernel
theorem dX13_shiftIn_75 : decode cX13_shiftIn 75 = .ok (.iload_n 1, 1) := by decide +kernel
theorem dX13_shiftIn_76 : decode cX13_shiftIn 76 = .ok (.bipush 6, 2) := by decide +kernel
theorem dX13_shiftIn_78 : decode cX13_shiftIn 78 = .ok (.invokevirtual 238, 3) := by decide +kernel
theorem dX13_shiftIn_81 : decode cX13_shiftIn 81 = .ok (.iload_n 3, 1) := by decide +kernel
theorem dX13_shiftIn_82 : decode cX13_shiftIn 82 = .ok (.iadd, 1) := by decide +kernel
theorem dX13_shiftIn_83 : decode cX13_shiftIn 83 = .ok (.invokestatic 387, 3) := by decide +kernel
theorem dX13_shiftIn_86 : decode cX13_shiftIn 86 = .ok (.istore 8, 2) := by decide +kernel
theorem dX13_shiftIn_88 : decode cX13_shiftIn 88 = .ok (.aload_n 0, 1) := by decide +kernel
theorem dX13_shiftIn_89 : decode cX13_shiftIn 89 = .ok (.iload_n 1, 1) := by decide +kernel
theorem dX13_shiftIn_90 : decode cX13_shiftIn 90 = .ok (.bipush 16, 2) := by decide +kernel
theorem dX13_shiftIn_92 : decode cX13_shiftIn 92 = .ok (.invokevirtual 249, 3) := by decide +kernel
theorem dX13_shiftIn_95 : decode cX13_shiftIn 95 = .ok (.iconst 1, 1) := by decide +kernel
theorem dX13_shiftIn_96 : decode cX13_shiftIn 96 = .ok (.if_icmp .ne 19, 3) := by decide +kernel
theorem dX13_shiftIn_99 : decode cX13_shiftIn 99 = .ok (.iload 8, 2) := by decide +kernel
theorem dX13_shiftIn_101 : decode cX13_shiftIn 101 = .ok (.aload_n 0, 1) := by decide +kernel
theorem dX13_shiftIn_102 : decode cX13_shiftIn 102 = .ok (.iload_n 1, 1) := by decide +kernel
theorem dX13_shiftIn_103 : decode cX13_shiftIn 103 = .ok (.bipush 15, 2) := by decide +kernel
theorem dX13_shiftIn_105 : decode cX13_shiftIn 105 = .ok (.invokevirtual 249, 3) := by decide +kernel
theorem dX13_shiftIn_108 : decode cX13_shiftIn 108 = .ok (.if_icmp .lt 7, 3) := by decide +kernel
theorem dX13_shiftIn_111 : decode cX13_shiftIn 111 = .ok (.iconst 1, 1) := by decide +kernel
theorem dX13_shiftIn_112 : decode cX13_shiftIn 112 = .ok (.goto 4, 3) := by decide +kernel
theorem dX13_shiftIn_115 : decode cX13_shiftIn 115 = .ok (.iconst 0, 1) := by decide +kernel
theorem dX13_shiftIn_116 : decode cX13_shiftIn 116 = .ok (.istore 9, 2) := by decide +kernel
theorem dX13_shiftIn_118 : decode cX13_shiftIn 118 = .ok (.iload 9, 2) := by decide +kernel
theorem dX13_shiftIn_120 : decode cX13_shiftIn 120 = .ok (.ifCond .eq 14, 3) := by decide +kernel
theorem dX13_shiftIn_123 : decode cX13_shiftIn 123 = .ok (.aload_n 0, 1) := by decide +kernel
theorem dX13_shiftIn_124 : decode cX13_shiftIn 124 = .ok (.iload_n 1, 1) := by decide +kernel
theorem dX13_shiftIn_125 : decode cX13_shiftIn 125 = .ok (.iconst 1, 1) := by decide +kernel
theorem dX13_shiftIn_126 : decode cX13_shiftIn 126 = .ok (.invokevirtual 392, 3) := by decide +kernel
theorem dX13_shiftIn_129 : decode cX13_shiftIn 129 = .ok (.ifCond .eq 5, 3) := by decide +kernel
theorem dX13_shiftIn_132 : decode cX13_shiftIn 132 = .ok (.iconst 3, 1) := by decide +kernel
theorem dX13_shiftIn_133 : decode cX13_shiftIn 133 = .ok (.ireturn, 1) := by decide +kernel
theorem dX13_shiftIn_134 : decode cX13_shiftIn 134 = .ok (.aload_n 0, 1) := by decide +kernel
theorem dX13_shiftIn_135 : decode cX13_shiftIn 135 = .ok (.iload_n 1, 1) := by decide +kernel
theorem dX13_shiftIn_136 : decode cX13_shiftIn 136 = .ok (.iconst 4, 1) := by decide +kernel
theorem dX13_shiftIn_137 : decode cX13_shiftIn 137 = .ok (.iload 7, 2) := by decide +kernel
theorem dX13_shiftIn_139 : decode cX13_shiftIn 139 = .ok (.invokevirtual 282, 3) := by decide +kernel
theorem dX13_shiftIn_142 : decode cX13_shiftIn 142 = .ok (.aload_n 0, 1) := by decide +kernel
theorem dX13_shiftIn_143 : decode cX13_shiftIn 143 = .ok (.iload_n 1, 1) := by decide +kernel
theorem dX13_shiftIn_144 : decode cX13_shiftIn 144 = .ok (.bipush 6, 2) := by decide +kernel
theorem dX13_shiftIn_146 : decode cX13_shiftIn 146 = .ok (.iload 8, 2) := by decide +kernel
theorem dX13_shiftIn_148 : decode cX13_shiftIn 148 = .ok (.invokevirtual 282, 3) := by decide +kernel
theorem dX13_shiftIn_151 : decode cX13_shiftIn 151 = .ok (.iload 9, 2) := by decide +kernel
theorem dX13_shiftIn_153 : decode cX13_shiftIn 153 = .ok (.ifCond .eq 8, 3) := by decide +kernel
theorem dX13_shiftIn_156 : decode cX13_shiftIn 156 = .ok (.aload_n 0, 1) := by decide +kernel
theorem dX13_shiftIn_157 : decode cX13_shiftIn 157 = .ok (.iload_n 1, 1) := by decide +kernel
theorem dX13_shiftIn_158 : decode cX13_shiftIn 158 = .ok (.invokevirtual 396, 3) := by decide +kernel
theorem dX13_shiftIn_161 : decode cX13_shiftIn 161 = .ok (.iconst 0, 1) := by decide +kernel
theorem dX13_shiftIn_162 : decode cX13_shiftIn 162 = .ok (.ireturn, 1) := by decide +kernel
set_option maxRecDepth 20000 in
theorem ggX13_appendShifted_X13_of : GoodIn wsX13_appendShifted wsX13_of := goodIn_r _ [5, 6, 27, 28, 29, 30, 31, 32, 33, 34, 35, 36, 37, 38, 39, 40, 41, 42, 43, 44, 45, 46, 47, 48, 49, 50, 51, 52, 53, 54, 55, 56, 57, 58, 59, 60, 61, 62, 63, 64, 65, 66, 67, 68, 69, 70, 71, 72, 73] (by decide +kernel) (by decide +kernel)
set_option maxRecDepth 20000 in
theorem gX13_appendShifted_X13_of : GoodIn wsX13_appendShifted (wsV RX13 238 RX13 yX13_of wsX13_of) := goodIn_app (goodIn_of _ (by decide +kernel)) ggX13_appendShifted_X13_of
set_option maxRecDepth 20000 in
theorem ggX13_appendShifted_X13_append : GoodIn wsX13_appendShifted wsX13_append := goodIn_r _ [10, 1, 2, 3, 4, 5, 6, 11, 12, 13, 14, 15, 16, 17, 18, 27, 28, 29, 30, 31, 32, 33, 34, 35, 36, 37, 38, 39, 40, 41, 42, 43, 44, 45, 46, 47, 48, 49, 50, 51, 52, 53, 54, 55, 56, 57, 58, 59, 60, 61, 62, 63, 64, 65, 66, 67, 68, 69, 70, 71, 72, 73] (by decide +kernel) (by decide +kernel)
set_option maxRecDepth 20000 in
theorem gX13_appendShifted_X13_append : GoodIn wsX13_appendShifted (wsV RX13 399 RX13 yX13_append wsX13_append) := goodIn_app (goodIn_of _ (by decide +kernel)) ggX13_appendShifted_X13_append
set_option maxRecDepth 20000 in
theorem ggX13_appendShifted_X13_note : GoodIn wsX13_appendShifted wsX13_note := goodIn_r _ [22, 15, 16, 17, 4, 18, 6, 27, 28, 29, 30, 31, 32, 33, 34, 35, 36, 37, 38, 39, 40, 41, 42, 43, 44, 45, 46, 47, 48, 49, 50, 51, 52, 53, 54, 55, 56, 57, 58, 59, 60, 61, 62, 63, 64, 65, 66, 67, 68, 69, 70, 71, 72, 73] (by decide +kernel) (by decide +kernel)
set_option maxRecDepth 20000 in
theorem gX13_appendShifted_X13_note : GoodIn wsX13_appendShifted (wsV RX13 328 RX13 yX13_note wsX13_note) := goodIn_app (goodIn_of _ (by decide +kernel)) ggX13_appendShifted_X13_note
set_option maxRecDepth 20000 in
theorem ggX13_appendShifted_X13_emptyShifted : GoodIn wsX13_appendShifted wsX13_emptyShifted := goodIn_r _ [26, 11, 12, 13, 4, 14, 6, 27, 28, 29, 30, 31, 32, 33, 34, 35, 36, 37, 38, 39, 40, 41, 42, 43, 44, 45, 46, 47, 48, 49, 50, 51, 52, 53, 54, 55, 56, 57, 58, 59, 60, 61, 62, 63, 64, 65, 66, 67, 68, 69, 70, 71, 72, 73] (by decide +kernel) (by decide +kernel)
set_option maxRecDepth 20000 in
theorem gX13_appendShifted_X13_emptyShifted : GoodIn wsX13_appendShifted (wsV RX13 403 RX13 yX13_emptyShifted wsX13_emptyShifted) := goodIn_app (goodIn_of _ (by decide +kernel)) ggX13_appendShifted_X13_emptyShifted
theorem dX13_appendShifted_0 : decode cX13_appendShifted 0 = .ok (.aload_n 0, 1) := by decide +kernel
theorem dX13_appendShifted_1 : decode cX13_appendShifted 1 = .ok (.iload_n 1, 1) := by decide +kernel
theorem dX13_appendShifted_2 : decode cX13_appendShifted 2 = .ok (.iconst 1, 1) := by decide +kernel
theorem dX13_appendShifted_3 : decode cX13_appendShifted 3 = .ok (.aload_n 0, 1) := by decide +kernel
theorem dX13_appendShifted_4 : decode cX13_appendShifted 4 = .ok (.iload_n 1, 1) := by decide +kernel
theorem dX13_appendShifted_5 : decode cX13_appendShifted 5 = .ok (.iconst 4, 1) := by decide +kernel
theorem dX13_appendShifted_6 : decode cX13_appendShifted 6 = .ok (.invokevirtual 238, 3) := by decide +kernel
theorem dX13_appendShifted_9 : decode cX13_appendShifted 9 = .ok (.invokevirtual 399, 3) := by decide +kernel
theorem dX13_appendShifted_12 : decode cX13_appendShifted 12 = .ok (.aload_n 0, 1) := by decide +kernel
theorem dX13_appendShifted_13 : decode cX13_appendShifted 13 = .ok (.iload_n 1, 1) := by decide +kernel
theorem dX13_appendShifted_14 : decode cX13_appendShifted 14 = .ok (.iconst 3, 1) := by decide +kernel
theorem dX13_appendShifted_15 : decode cX13_appendShifted 15 = .ok (.invokevirtual 328, 3) := by decide +kernel
theorem dX13_appendShifted_18 : decode cX13_appendShifted 18 = .ok (.aload_n 0, 1) := by decide +kernel
theorem dX13_appendShifted_19 : decode cX13_appendShifted 19 = .ok (.iload_n 1, 1) := by decide +kernel
theorem dX13_appendShifted_20 : decode cX13_appendShifted 20 = .ok (.invokevirtual 403, 3) := by decide +kernel
theorem dX13_appendShifted_23 : decode cX13_appendShifted 23 = .ok (.return_, 1) := by decide +kernel
set_option maxRecDepth 20000 in
theorem ggX13_emptyShifted_X13_set : GoodIn wsX13_emptyShifted wsX13_set := goodIn_r _ [5, 6, 7, 8, 9, 10, 11, 12, 13, 14, 15, 16, 17, 18, 19, 20, 21, 22, 23, 24, 25, 26, 27, 28, 29, 30, 31, 32, 33, 34, 35, 36, 37, 38, 39, 40, 41, 42, 43, 44, 45, 46, 47, 48, 49, 50, 51, 52, 53] (by decide +kernel) (by decide +kernel)
set_option maxRecDepth 20000 in
theorem gX13_emptyShifted_X13_set : GoodIn wsX13_emptyShifted (wsV RX13 282 RX13 yX13_set wsX13_set) := goodIn_app (goodIn_of _ (by decide +kernel)) ggX13_emptyShifted_X13_set
theorem dX13_emptyShifted_0 : decode cX13_emptyShifted 0 = .ok (.aload_n 0, 1) := by decide +kernel
theorem dX13_emptyShifted_1 : decode cX13_emptyShifted 1 = .ok (.iload_n 1, 1) := by decide +kernel
theorem dX13_emptyShifted_2 : decode cX13_emptyShifted 2 = .ok (.iconst 4, 1) := by decide +kernel
theorem dX13_emptyShifted_3 : decode cX13_emptyShifted 3 = .ok (.iconst 0, 1) := by decide +kernel
theorem dX13_emptyShifted_4 : decode cX13_emptyShifted 4 = .ok (.invokevirtual 282, 3) := by decide +kernel
theorem dX13_emptyShifted_7 : decode cX13_emptyShifted 7 = .ok (.aload_n 0, 1) := by decide +kernel
theorem dX13_emptyShifted_8 : decode cX13_emptyShifted 8 = .ok (.iload_n 1, 1) := by decide +kernel
theorem dX13_emptyShifted_9 : decode cX13_emptyShifted 9 = .ok (.bipush 6, 2) := by decide +kernel
theorem dX13_emptyShifted_11 : decode cX13_emptyShifted 11 = .ok (.iconst 0, 1) := by decide +kernel
theorem dX13_emptyShifted_12 : decode cX13_emptyShifted 12 = .ok (.invokevirtual 282, 3) := by decide +kernel
theorem dX13_emptyShifted_15 : decode cX13_emptyShifted 15 = .ok (.return_, 1) := by decide +kernel
set_option maxRecDepth 20000 in
theorem ggX13_refill_X13_removeFirst : GoodIn wsX13_refill wsX13_removeFirst := goodIn_r _ [5, 6, 7, 8, 4, 9, 10, 11, 12, 13, 14, 15, 16, 17, 18, 23, 24, 25, 26, 27, 28, 29, 30, 31, 32, 33, 34, 35, 36, 37, 38, 39, 40, 41, 42, 43, 44, 45, 46, 47, 48, 49, 50, 51, 52, 53, 54, 55, 56, 57, 58, 59, 60, 61, 62, 63, 64, 65, 66, 67, 68, 69] (by decide +kernel) (by decide +kernel)
set_option maxRecDepth 20000 in
theorem gX13_refill_X13_removeFirst : GoodIn wsX13_refill (wsV RX13 406 RX13 yX13_removeFirst wsX13_removeFirst) := goodIn_app (goodIn_of _ (by decide +kernel)) ggX13_refill_X13_removeFirst
set_option maxRecDepth 20000 in
theorem ggX13_refill_X13_set : GoodIn wsX13_refill wsX13_set := goodIn_r _ [14, 10, 23, 24, 25, 26, 27, 28, 29, 30, 31, 32, 33, 34, 35, 36, 37, 38, 39, 40, 41, 42, 43, 44, 45, 46, 47, 48, 49, 50, 51, 52, 53, 54, 55, 56, 57, 58, 59, 60, 61, 62, 63, 64, 65, 66, 67, 68, 69] (by decide +kernel) (by decide +kernel)
set_option maxRecDepth 20000 in
theorem gX13_refill_X13_set : GoodIn wsX13_refill (wsV RX13 282 RX13 yX13_set wsX13_set) := goodIn_app (goodIn_of _ (by decide +kernel)) ggX13_refill_X13_set
set_option maxRecDepth 20000 in
theorem ggX13_refill_X13_note : GoodIn wsX13_refill wsX13_note := goodIn_r _ [22, 15, 16, 17, 4, 18, 10, 23, 24, 25, 26, 27, 28, 29, 30, 31, 32, 33, 34, 35, 36, 37, 38, 39, 40, 41, 42, 43, 44, 45, 46, 47, 48, 49, 50, 51, 52, 53, 54, 55, 56, 57, 58, 59, 60, 61, 62, 63, 64, 65, 66, 67, 68, 69] (by decide +kernel) (by decide +kernel)
set_option maxRecDepth 20000 in
theorem gX13_refill_X13_note : GoodIn wsX13_refill (wsV RX13 328 RX13 yX13_note wsX13_note) := goodIn_app (goodIn_of _ (by decide +kernel)) ggX13_refill_X13_note
theorem dX13_refill_0 : decode cX13_refill 0 = .ok (.aload_n 0, 1) := by decide +kernel
theorem dX13_refill_1 : decode cX13_refill 1 = .ok (.iload_n 1, 1) := by decide +kernel
theorem dX13_refill_2 : decode cX13_refill 2 = .ok (.iconst 5, 1) := by decide +kernel
theorem dX13_refill_3 : decode cX13_refill 3 = .ok (.aload_n 0, 1) := by decide +kernel
theorem dX13_refill_4 : decode cX13_refill 4 = .ok (.iload_n 1, 1) := by decide +kernel
theorem dX13_refill_5 : decode cX13_refill 5 = .ok (.iconst 0, 1) := by decide +kernel
theorem dX13_refill_6 : decode cX13_refill 6 = .ok (.invokevirtual 406, 3) := by decide +kernel
theorem dX13_refill_9 : decode cX13_refill 9 = .ok (.invokevirtual 282, 3) := by decide +kernel
theorem dX13_refill_12 : decode cX13_refill 12 = .ok (.aload_n 0, 1) := by decide +kernel
theorem dX13_refill_13 : decode cX13_refill 13 = .ok (.iload_n 1, 1) := by decide +kernel
theorem dX13_refill_14 : decode cX13_refill 14 = .ok (.bipush 7, 2) := by decide +kernel
theorem dX13_refill_16 : decode cX13_refill 16 = .ok (.iconst 0, 1) := by decide +kernel
theorem dX13_refill_17 : decode cX13_refill 17 = .ok (.invokevirtual 282, 3) := by decide +kernel
theorem dX13_refill_20 : decode cX13_refill 20 = .ok (.aload_n 0, 1) := by decide +kernel
theorem dX13_refill_21 : decode cX13_refill 21 = .ok (.iload_n 1, 1) := by decide +kernel
theorem dX13_refill_22 : decode cX13_refill 22 = .ok (.iconst 4, 1) := by decide +kernel
theorem dX13_refill_23 : decode cX13_refill 23 = .ok (.invokevirtual 328, 3) := by decide +kernel
theorem dX13_refill_26 : decode cX13_refill 26 = .ok (.return_, 1) := by decide +kernel
set_option maxRecDepth 20000 in
theorem ggX13_shiftOut_X13_setting : GoodIn wsX13_shiftOut wsX13_setting := goodIn_r _ [9, 10, 55, 56, 57, 58, 59, 60, 61, 62, 63, 64, 65, 66, 67, 68, 69, 70, 71, 72, 73, 74, 75, 76, 77, 78, 79, 80, 81, 82, 83, 84, 85, 86, 87, 88, 89, 90, 91, 92, 93, 94, 95, 96, 97, 98, 99, 100, 101] (by decide +kernel) (by decide +kernel)
set_option maxRecDepth 20000 in
theorem gX13_shiftOut_X13_setting : GoodIn wsX13_shiftOut (wsV RX13 249 RX13 yX13_setting wsX13_setting) := goodIn_app (goodIn_of _ (by decide +kernel)) ggX13_shiftOut_X13_setting
set_option maxRecDepth 20000 in
theorem ggX13_shiftOut_X13_of : GoodIn wsX13_shiftOut wsX13_of := goodIn_r _ [14, 10, 55, 56, 57, 58, 59, 60, 61, 62, 63, 64, 65, 66, 67, 68, 69, 70, 71, 72, 73, 74, 75, 76, 77, 78, 79, 80, 81, 82, 83, 84, 85, 86, 87, 88, 89, 90, 91, 92, 93, 94, 95, 96, 97, 98, 99, 100, 101] (by decide +kernel) (by decide +kernel)
set_option maxRecDepth 20000 in
theorem gX13_shiftOut_X13_of : GoodIn wsX13_shiftOut (wsV RX13 238 RX13 yX13_of wsX13_of) := goodIn_app (goodIn_of _ (by decide +kernel)) ggX13_shiftOut_X13_of
set_option maxRecDepth 20000 in
theorem ggX13_shiftOut_X13_refill : GoodIn wsX13_shiftOut wsX13_refill := goodIn_r _ [18, 19, 20, 21, 8, 22, 11, 12, 13, 14, 10, 23, 24, 25, 26, 27, 28, 29, 30, 31, 32, 33, 34, 55, 56, 57, 58, 59, 60, 61, 62, 63, 64, 65, 66, 67, 68, 69, 70, 71, 72, 73, 74, 75, 76, 77, 78, 79, 80, 81, 82, 83, 84, 85, 86, 87, 88, 89, 90, 91, 92, 93, 94, 95, 96, 97, 98, 99, 100, 101] (by decide +kernel) (by decide +kernel)
set_option maxRecDepth 20000 in
theorem gX13_shiftOut_X13_refill : GoodIn wsX13_shiftOut (wsV RX13 410 RX13 yX13_refill wsX13_refill) := goodIn_app (goodIn_of _ (by decide +kernel)) ggX13_shiftOut_X13_refill
set_option maxRecDepth 20000 in
theorem ggX13_shiftOut_X13_lowest : GoodIn wsX13_shiftOut wsX13_lowest := goodIn_r _ [37] (by decide +kernel) (by decide +kernel)
set_option maxRecDepth 20000 in
theorem gX13_shiftOut_X13_lowest : GoodIn wsX13_shiftOut (va_wsS RX13 384 yX13_lowest wsX13_lowest) := goodIn_app (goodIn_of _ (by decide +kernel)) ggX13_shiftOut_X13_lowest
set_option maxRecDepth 20000 in
theorem ggX13_shiftOut_X13_set : GoodIn wsX13_shiftOut wsX13_set := goodIn_r _ [26, 10, 55, 56, 57, 58, 59, 60, 61, 62, 63, 64, 65, 66, 67, 68, 69, 70, 71, 72, 73, 74, 75, 76, 77, 78, 79, 80, 81, 82, 83, 84, 85, 86, 87, 88, 89, 90, 91, 92, 93, 94, 95, 96, 97, 98, 99, 100, 101] (by decide +kernel) (by decide +kernel)
set_option maxRecDepth 20000 in
theorem gX13_shiftOut_X13_set : GoodIn wsX13_shiftOut (wsV RX13 282 RX13 yX13_set wsX13_set) := goodIn_app (goodIn_of _ (by decide +kernel)) ggX13_shiftOut_X13_set
set_option maxRecDepth 20000 in
theorem ggX13_shiftOut_X13_write : GoodIn wsX13_shiftOut wsX13_write := goodIn_r _ [41, 42, 43, 44, 45, 5, 6, 7, 8, 9, 10, 23, 24, 25, 26, 46, 47, 48, 49, 50, 51, 52, 53, 54, 55, 56, 57, 58, 59, 60, 61, 62, 63, 64, 65, 66, 67, 68, 69, 70, 71, 72, 73, 74, 75, 76, 77, 78, 79, 80, 81, 82, 83, 84, 85, 86, 87, 88, 89, 90, 91, 92, 93, 94, 95, 96, 97, 98, 99, 100, 101] (by decide +kernel) (by decide +kernel)
set_option maxRecDepth 20000 in
theorem gX13_shiftOut_X13_write : GoodIn wsX13_shiftOut (wsV RX13 413 RX13 yX13_write wsX13_write) := goodIn_app (goodIn_of _ (by decide +kernel)) ggX13_shiftOut_X13_write
theorem dX13_shiftOut_0 : decode cX13_shiftOut 0 = .ok (.aload_n 0, 1) := by decide +kernel
theorem dX13_shiftOut_1 : decode cX13_shiftOut 1 = .ok (.iload_n 1, 1) := by decide +kernel
theorem dX13_shiftOut_2 : decode cX13_shiftOut 2 = .ok (.bipush 18, 2) := by decide +kernel
theorem dX13_shiftOut_4 : decode cX13_shiftOut 4 = .ok (.invokevirtual 249, 3) := by decide +kernel
theorem dX13_shiftOut_7 : decode cX13_shiftOut 7 = .ok (.iconst 1, 1) := by decide +kernel
theorem dX13_shiftOut_8 : decode cX13_shiftOut 8 = .ok (.if_icmp .ne 37, 3) := by decide +kernel
theorem dX13_shiftOut_11 : decode cX13_shiftOut 11 = .ok (.aload_n 0, 1) := by decide +kernel
theorem dX13_shiftOut_12 : decode cX13_shiftOut 12 = .ok (.iload_n 1, 1) := by decide +kernel
theorem dX13_shiftOut_13 : decode cX13_shiftOut 13 = .ok (.bipush 7, 2) := by decide +kernel
theorem dX13_shiftOut_15 : decode cX13_shiftOut 15 = .ok (.invokevirtual 238, 3) := by decide +kernel
theorem dX13_shiftOut_18 : decode cX13_shiftOut 18 = .ok (.aload_n 0, 1) := by decide +kernel
theorem dX13_shiftOut_19 : decode cX13_shiftOut 19 = .ok (.iload_n 1, 1) := by decide +kernel
theorem dX13_shiftOut_20 : decode cX13_shiftOut 20 = .ok (.bipush 17, 2) := by decide +kernel
theorem dX13_shiftOut_22 : decode cX13_shiftOut 22 = .ok (.invokevirtual 249, 3) := by decide +kernel
theorem dX13_shiftOut_25 : decode cX13_shiftOut 25 = .ok (.if_icmp .lt 20, 3) := by decide +kernel
theorem dX13_shiftOut_28 : decode cX13_shiftOut 28 = .ok (.aload_n 0, 1) := by decide +kernel
theorem dX13_shiftOut_29 : decode cX13_shiftOut 29 = .ok (.iload_n 1, 1) := by decide +kernel
theorem dX13_shiftOut_30 : decode cX13_shiftOut 30 = .ok (.bipush 11, 2) := by decide +kernel
theorem dX13_shiftOut_32 : decode cX13_shiftOut 32 = .ok (.invokevirtual 238, 3) := by decide +kernel
theorem dX13_shiftOut_35 : decode cX13_shiftOut 35 = .ok (.ifCond .ne 5, 3) := by decide +kernel
theorem dX13_shiftOut_38 : decode cX13_shiftOut 38 = .ok (.iconst 2, 1) := by decide +kernel
theorem dX13_shiftOut_39 : decode cX13_shiftOut 39 = .ok (.ireturn, 1) := by decide +kernel
theorem dX13_shiftOut_40 : decode cX13_shiftOut 40 = .ok (.aload_n 0, 1) := by decide +kernel
theorem dX13_shiftOut_41 : decode cX13_shiftOut 41 = .ok (.iload_n 1, 1) := by decide +kernel
theorem dX13_shiftOut_42 : decode cX13_shiftOut 42 = .ok (.invokevirtual 410, 3) := by decide +kernel
theorem dX13_shiftOut_45 : decode cX13_shiftOut 45 = .ok (.aload_n 0, 1) := by decide +kernel
theorem dX13_shiftOut_46 : decode cX13_shiftOut 46 = .ok (.iload_n 1, 1) := by decide +kernel
theorem dX13_shiftOut_47 : decode cX13_shiftOut 47 = .ok (.iconst 5, 1) := by decide +kernel
theorem dX13_shiftOut_48 : decode cX13_shiftOut 48 = .ok (.invokevirtual 238, 3) := by decide +kernel
theorem dX13_shiftOut_51 : decode cX13_shiftOut 51 = .ok (.istore 4, 2) := by decide +kernel
theorem dX13_shiftOut_53 : decode cX13_shiftOut 53 = .ok (.aload_n 0, 1) := by decide +kernel
theorem dX13_shiftOut_54 : decode cX13_shiftOut 54 = .ok (.iload_n 1, 1) := by decide +kernel
theorem dX13_shiftOut_55 : decode cX13_shiftOut 55 = .ok (.bipush 14, 2) := by decide +kernel
theorem dX13_shiftOut_57 : decode cX13_shiftOut 57 = .ok (.invokevirtual 249, 3) := by decide +kernel
theorem dX13_shiftOut_60 : decode cX13_shiftOut 60 = .ok (.iconst 1, 1) := by decide +kernel
theorem dX13_shiftOut_61 : decode cX13_shiftOut 61 = .ok (.if_icmp .ne 7, 3) := by decide +kernel
theorem dX13_shiftOut_64 : decode cX13_shiftOut 64 = .ok (.iconst 1, 1) := by decide +kernel
theorem dX13_shiftOut_65 : decode cX13_shiftOut 65 = .ok (.goto 4, 3) := by decide +kernel
theorem dX13_shiftOut_68 : decode cX13_shiftOut 68 = .ok (.iconst 0, 1) := by decide +kernel
theorem dX13_shiftOut_69 : decode cX13_shiftOut 69 = .ok (.istore 5, 2) := by decide +kernel
theorem dX13_shiftOut_71 : decode cX13_shiftOut 71 = .ok (.iload 5, 2) := by decide +kernel
theorem dX13_shiftOut_73 : decode cX13_shiftOut 73 = .ok (.ifCond .eq 13, 3) := by decide +kernel
theorem dX13_shiftOut_76 : decode cX13_shiftOut 76 = .ok (.iload 4, 2) := by decide +kernel
theorem dX13_shiftOut_78 : decode cX13_shiftOut 78 = .ok (.bipush 32, 2) := by decide +kernel
theorem dX13_shiftOut_80 : decode cX13_shiftOut 80 = .ok (.iload_n 3, 1) := by decide +kernel
theorem dX13_shiftOut_81 : decode cX13_shiftOut 81 = .ok (.isub, 1) := by decide +kernel
theorem dX13_shiftOut_82 : decode cX13_shiftOut 82 = .ok (.iushr, 1) := by decide +kernel
theorem dX13_shiftOut_83 : decode cX13_shiftOut 83 = .ok (.goto 9, 3) := by decide +kernel
theorem dX13_shiftOut_86 : decode cX13_shiftOut 86 = .ok (.iload 4, 2) := by decide +kernel
theorem dX13_shiftOut_88 : decode cX13_shiftOut 88 = .ok (.iload_n 3, 1) := by decide +kernel
theorem dX13_shiftOut_89 : decode cX13_shiftOut 89 = .ok (.invokestatic 384, 3) := by decide +kernel
theorem dX13_shiftOut_92 : decode cX13_shiftOut 92 = .ok (.istore 6, 2) := by decide +kernel
theorem dX13_shiftOut_94 : decode cX13_shiftOut 94 = .ok (.aload_n 0, 1) := by decide +kernel
theorem dX13_shiftOut_95 : decode cX13_shiftOut 95 = .ok (.iload_n 1, 1) := by decide +kernel
theorem dX13_shiftOut_96 : decode cX13_shiftOut 96 = .ok (.iconst 5, 1) := by decide +kernel
theorem dX13_shiftOut_97 : decode cX13_shiftOut 97 = .ok (.iload_n 3, 1) := by decide +kernel
theorem dX13_shiftOut_98 : decode cX13_shiftOut 98 = .ok (.bipush 32, 2) := by decide +kernel
theorem dX13_shiftOut_100 : decode cX13_shiftOut 100 = .ok (.if_icmp .ne 7, 3) := by decide +kernel
theorem dX13_shiftOut_103 : decode cX13_shiftOut 103 = .ok (.iconst 0, 1) := by decide +kernel
theorem dX13_shiftOut_104 : decode cX13_shiftOut 104 = .ok (.goto 19, 3) := by decide +kernel
theorem dX13_shiftOut_107 : decode cX13_shiftOut 107 = .ok (.iload 5, 2) := by decide +kernel
theorem dX13_shiftOut_109 : decode cX13_shiftOut 109 = .ok (.ifCond .eq 10, 3) := by decide +kernel
theorem dX13_shiftOut_112 : decode cX13_shiftOut 112 = .ok (.iload 4, 2) := by decide +kernel
theorem dX13_shiftOut_114 : decode cX13_shiftOut 114 = .ok (.iload_n 3, 1) := by decide +kernel
theorem dX13_shiftOut_115 : decode cX13_shiftOut 115 = .ok (.ishl, 1) := by decide +kernel
theorem dX13_shiftOut_116 : decode cX13_shiftOut 116 = .ok (.goto 7, 3) := by decide +kernel
theorem dX13_shiftOut_119 : decode cX13_shiftOut 119 = .ok (.iload 4, 2) := by decide +kernel
theorem dX13_shiftOut_121 : decode cX13_shiftOut 121 = .ok (.iload_n 3, 1) := by decide +kernel
theorem dX13_shiftOut_122 : decode cX13_shiftOut 122 = .ok (.iushr, 1) := by decide +kernel
theorem dX13_shiftOut_123 : decode cX13_shiftOut 123 = .ok (.invokevirtual 282, 3) := by decide +kernel
theorem dX13_shiftOut_126 : decode cX13_shiftOut 126 = .ok (.aload_n 0, 1) := by decide +kernel
theorem dX13_shiftOut_127 : decode cX13_shiftOut 127 = .ok (.iload_n 1, 1) := by decide +kernel
theorem dX13_shiftOut_128 : decode cX13_shiftOut 128 = .ok (.bipush 7, 2) := by decide +kernel
theorem dX13_shiftOut_130 : decode cX13_shiftOut 130 = .ok (.bipush 32, 2) := by decide +kernel
theorem dX13_shiftOut_132 : decode cX13_shiftOut 132 = .ok (.aload_n 0, 1) := by decide +kernel
theorem dX13_shiftOut_133 : decode cX13_shiftOut 133 = .ok (.iload_n 1, 1) := by decide +kernel
theorem dX13_shiftOut_134 : decode cX13_shiftOut 134 = .ok (.bipush 7, 2) := by decide +kernel
theorem dX13_shiftOut_136 : decode cX13_shiftOut 136 = .ok (.invokevirtual 238, 3) := by decide +kernel
theorem dX13_shiftOut_139 : decode cX13_shiftOut 139 = .ok (.iload_n 3, 1) := by decide +kernel
theorem dX13_shiftOut_140 : decode cX13_shiftOut 140 = .ok (.iadd, 1) := by decide +kernel
theorem dX13_shiftOut_141 : decode cX13_shiftOut 141 = .ok (.invokestatic 387, 3) := by decide +kernel
theorem dX13_shiftOut_144 : decode cX13_shiftOut 144 = .ok (.invokevirtual 282, 3) := by decide +kernel
theorem dX13_shiftOut_147 : decode cX13_shiftOut 147 = .ok (.iload_n 2, 1) := by decide +kernel
theorem dX13_shiftOut_148 : decode cX13_shiftOut 148 = .ok (.iconst 4, 1) := by decide +kernel
theorem dX13_shiftOut_149 : decode cX13_shiftOut 149 = .ok (.if_icmp .ne 21, 3) := by decide +kernel
theorem dX13_shiftOut_152 : decode cX13_shiftOut 152 = .ok (.aload_n 0, 1) := by decide +kernel
theorem dX13_shiftOut_153 : decode cX13_shiftOut 153 = .ok (.iload_n 1, 1) := by decide +kernel
theorem dX13_shiftOut_154 : decode cX13_shiftOut 154 = .ok (.iconst 4, 1) := by decide +kernel
theorem dX13_shiftOut_155 : decode cX13_shiftOut 155 = .ok (.iload 6, 2) := by decide +kernel
theorem dX13_shiftOut_157 : decode cX13_shiftOut 157 = .ok (.invokevirtual 282, 3) := by decide +kernel
theorem dX13_shiftOut_160 : decode cX13_shiftOut 160 = .ok (.aload_n 0, 1) := by decide +kernel
theorem dX13_shiftOut_161 : decode cX13_shiftOut 161 = .ok (.iload_n 1, 1) := by decide +kernel
theorem dX13_shiftOut_162 : decode cX13_shiftOut 162 = .ok (.bipush 6, 2) := by decide +kernel
theorem dX13_shiftOut_164 : decode cX13_shiftOut 164 = .ok (.iload_n 3, 1) := by decide +kernel
theorem dX13_shiftOut_165 : decode cX13_shiftOut 165 = .ok (.invokevirtual 282, 3) := by decide +kernel
theorem dX13_shiftOut_168 : decode cX13_shiftOut 168 = .ok (.iconst 0, 1) := by decide +kernel
theorem dX13_shiftOut_169 : decode cX13_shiftOut 169 = .ok (.ireturn, 1) := by decide +kernel
