set_option maxRecDepth 20000 in
theorem gX11_init_X6_init : GoodIn wsX11_init (wsX6_init) := ggX11_init_X6_init
set_option maxRecDepth 20000 in
theorem ggX11_init_X7_init : GoodIn wsX11_init wsX7_init := goodIn_r _ [58, 59, 2, 3, 60, 61, 62, 344, 345] (by decide +kernel) (by decide +kernel)
set_option maxRecDepth 20000 in
theorem gX11_init_X7_init_n28 : GoodIn wsX11_init (wsX7_init) := ggX11_init_X7_init
set_option maxRecDepth 20000 in
theorem ggX11_init_X3_init : GoodIn wsX11_init wsX3_init := goodIn_r _ [64, 65, 2, 3, 66, 67, 68, 69, 70, 71, 72, 73, 74, 60, 75, 76, 77, 365, 366, 367, 346, 347, 348] (by decide +kernel) (by decide +kernel)
set_option maxRecDepth 20000 in
theorem gX11_init_X3_init_n35 : GoodIn wsX11_init (wsX3_init) := ggX11_init_X3_init
set_option maxRecDepth 20000 in
theorem ggX11_init_X9_init : GoodIn wsX11_init wsX9_init := goodIn_r _ [80, 81, 2, 3, 82, 83, 84, 85, 86, 87, 88, 89, 60, 90, 91, 92, 93, 349, 350, 368, 369, 370, 371] (by decide +kernel) (by decide +kernel)
set_option maxRecDepth 20000 in
theorem gX11_init_X9_init : GoodIn wsX11_init (wsX9_init) := ggX11_init_X9_init
set_option maxRecDepth 20000 in
theorem ggX11_init_X4_init : GoodIn wsX11_init wsX4_init := goodIn_r _ [96, 97, 2, 3, 98, 351] (by decide +kernel) (by decide +kernel)
set_option maxRecDepth 20000 in
theorem gX11_init_X4_init : GoodIn wsX11_init (wsX4_init) := ggX11_init_X4_init
set_option maxRecDepth 20000 in
theorem ggX11_init_X0_init : GoodIn wsX11_init wsX0_init := goodIn_r _ [100, 101, 2, 3] (by decide +kernel) (by decide +kernel)
set_option maxRecDepth 20000 in
theorem gX11_init_X0_init_n58 : GoodIn wsX11_init (wsX0_init) := ggX11_init_X0_init
set_option maxRecDepth 20000 in
theorem ggX11_init_X2_init : GoodIn wsX11_init wsX2_init := goodIn_r _ [103, 104, 2, 3, 105, 106, 355, 356] (by decide +kernel) (by decide +kernel)
set_option maxRecDepth 20000 in
theorem gX11_init_X2_init_n65 : GoodIn wsX11_init (wsX2_init) := ggX11_init_X2_init
set_option maxRecDepth 20000 in
theorem ggX11_init_X5_init : GoodIn wsX11_init wsX5_init := goodIn_r _ [108, 109, 2, 3, 110, 111, 60, 112, 357, 358, 359] (by decide +kernel) (by decide +kernel)
set_option maxRecDepth 20000 in
theorem gX11_init_X5_init_n76 : GoodIn wsX11_init (wsX5_init) := ggX11_init_X5_init
set_option maxRecDepth 20000 in
theorem ggX11_init_J0_length_8abf5 : GoodIn wsX11_init wsJ0_length_8abf5 := goodIn_r _ [117, 118, 119, 120, 121, 116, 122, 123, 124] (by decide +kernel) (by decide +kernel)
set_option maxRecDepth 20000 in
theorem gX11_init_J0_length_8abf5 : GoodIn wsX11_init (wsV RX11 79 RJ0 yJ0_length_8abf5 wsJ0_length_8abf5) := goodIn_app (goodIn_of _ (by decide +kernel)) ggX11_init_J0_length_8abf5
set_option maxRecDepth 20000 in
theorem ggX11_init_J0_charAt_5068e : GoodIn wsX11_init wsJ0_charAt_5068e := goodIn_r _ [128, 118, 129, 130, 131, 116, 132, 123, 124, 133, 134, 135, 136, 137, 138, 139, 140, 141, 142, 143, 144, 145, 146, 147, 148, 149, 150, 151, 152, 153, 154, 155, 156, 157, 158, 159, 160, 161] (by decide +kernel) (by decide +kernel)
set_option maxRecDepth 20000 in
theorem gX11_init_J0_charAt_5068e : GoodIn wsX11_init (wsV RX11 85 RJ0 yJ0_charAt_5068e wsJ0_charAt_5068e) := goodIn_app (goodIn_of _ (by decide +kernel)) ggX11_init_J0_charAt_5068e
set_option maxRecDepth 20000 in
theorem ggX11_init_X7_take : GoodIn wsX11_init wsX7_take := goodIn_r _ [165, 62, 61, 344, 345] (by decide +kernel) (by decide +kernel)
set_option maxRecDepth 20000 in
theorem gX11_init_X7_take : GoodIn wsX11_init (wsV RX11 89 RX7 yX7_take wsX7_take) := goodIn_app (goodIn_of _ (by decide +kernel)) ggX11_init_X7_take
set_option maxRecDepth 20000 in
theorem ggX11_init_X11_text : GoodIn wsX11_init wsX11_text := goodIn_r _ [170, 22, 171, 18, 14, 172, 173, 174, 175, 176, 17, 177, 69, 70, 71, 178, 179, 180, 181, 68, 182, 77, 183, 184, 185, 186, 187, 188, 189, 13, 190, 191, 192, 193, 194, 62, 61, 195, 196, 197, 198, 199, 200, 201, 202, 203, 204, 205, 206, 207, 208, 209, 210, 211, 212, 213, 214, 215, 114, 115, 116, 117, 118, 119, 120, 121, 122, 123, 124, 216, 126, 127, 128, 129, 130, 131, 132, 133, 134, 135, 136, 137, 138, 139, 140, 141, 142, 143, 144, 145, 146, 147, 148, 149, 150, 151, 152, 153, 154, 155, 156, 157, 158, 159, 160, 161, 217, 218, 219, 220, 221, 222, 223, 224, 225, 226, 227, 228, 229, 230, 231, 232, 233, 234, 235, 236, 237, 238, 239, 240, 241, 242, 243, 244, 245, 246, 247, 248, 249, 250, 251, 252, 253, 254, 255, 256, 257, 258, 259, 260, 261, 262, 263, 264, 265, 266, 267, 268, 269, 270, 271, 272, 273, 274, 275, 276, 277, 278, 279, 280, 281, 282, 283, 284, 285, 75, 76, 286, 287, 288, 289, 290, 291, 292, 293, 294, 295, 296, 297, 298, 299, 300, 301, 302, 303, 304, 305, 306, 307, 308, 309, 310, 311, 312, 313, 314, 315, 316, 317, 86, 318, 93, 90, 319, 320, 321, 322, 323, 324, 91, 333, 334, 335, 336, 337, 338, 339, 340, 341, 342, 343, 349, 350, 344, 345, 346, 347, 348, 368, 369, 370, 371, 365, 366, 367] (by decide +kernel) (by decide +kernel)
set_option maxRecDepth 20000 in
theorem gX11_init_X11_text : GoodIn wsX11_init (wsV RX11 93 RX11 yX11_text wsX11_text) := goodIn_app (goodIn_of _ (by decide +kernel)) ggX11_init_X11_text
theorem dX11_init_0 : decode cX11_init 0 = .ok (.aload_n 0, 1) := by decide +kernel
theorem dX11_init_1 : decode cX11_init 1 = .ok (.invokespecial 1, 3) := by decide +kernel
theorem dX11_init_4 : decode cX11_init 4 = .ok (.aload_n 0, 1) := by decide +kernel
theorem dX11_init_5 : decode cX11_init 5 = .ok (.new 7, 3) := by decide +kernel
theorem dX11_init_8 : decode cX11_init 8 = .ok (.dup, 1) := by decide +kernel
theorem dX11_init_9 : decode cX11_init 9 = .ok (.invokespecial 9, 3) := by decide +kernel
theorem dX11_init_12 : decode cX11_init 12 = .ok (.putfield 10, 3) := by decide +kernel
theorem dX11_init_15 : decode cX11_init 15 = .ok (.aload_n 0, 1) := by decide +kernel
theorem dX11_init_16 : decode cX11_init 16 = .ok (.new 7, 3) := by decide +kernel
theorem dX11_init_19 : decode cX11_init 19 = .ok (.dup, 1) := by decide +kernel
theorem dX11_init_20 : decode cX11_init 20 = .ok (.invokespecial 9, 3) := by decide +kernel
theorem dX11_init_23 : decode cX11_init 23 = .ok (.putfield 16, 3) := by decide +kernel
theorem dX11_init_26 : decode cX11_init 26 = .ok (.aload_n 0, 1) := by decide +kernel
theorem dX11_init_27 : decode cX11_init 27 = .ok (.new 7, 3) := by decide +kernel
theorem dX11_init_30 : decode cX11_init 30 = .ok (.dup, 1) := by decide +kernel
theorem dX11_init_31 : decode cX11_init 31 = .ok (.invokespecial 9, 3) := by decide +kernel
theorem dX11_init_34 : decode cX11_init 34 = .ok (.putfield 19, 3) := by decide +kernel
theorem dX11_init_37 : decode cX11_init 37 = .ok (.aload_n 0, 1) := by decide +kernel
theorem dX11_init_38 : decode cX11_init 38 = .ok (.iconst 0, 1) := by decide +kernel
theorem dX11_init_39 : decode cX11_init 39 = .ok (.putfield 22, 3) := by decide +kernel
theorem dX11_init_42 : decode cX11_init 42 = .ok (.aload_n 0, 1) := by decide +kernel
theorem dX11_init_43 : decode cX11_init 43 = .ok (.new 26, 3) := by decide +kernel
theorem dX11_init_46 : decode cX11_init 46 = .ok (.dup, 1) := by decide +kernel
theorem dX11_init_47 : decode cX11_init 47 = .ok (.invokespecial 28, 3) := by decide +kernel
theorem dX11_init_50 : decode cX11_init 50 = .ok (.putfield 29, 3) := by decide +kernel
theorem dX11_init_53 : decode cX11_init 53 = .ok (.aload_n 0, 1) := by decide +kernel
theorem dX11_init_54 : decode cX11_init 54 = .ok (.new 33, 3) := by decide +kernel
theorem dX11_init_57 : decode cX11_init 57 = .ok (.dup, 1) := by decide +kernel
theorem dX11_init_58 : decode cX11_init 58 = .ok (.invokespecial 35, 3) := by decide +kernel
theorem dX11_init_61 : decode cX11_init 61 = .ok (.putfield 36, 3) := by decide +kernel
theorem dX11_init_64 : decode cX11_init 64 = .ok (.aload_n 0, 1) := by decide +kernel
theorem dX11_init_65 : decode cX11_init 65 = .ok (.new 40, 3) := by decide +kernel
theorem dX11_init_68 : decode cX11_init 68 = .ok (.dup, 1) := by decide +kernel
theorem dX11_init_69 : decode cX11_init 69 = .ok (.invokespecial 42, 3) := by decide +kernel
theorem dX11_init_72 : decode cX11_init 72 = .ok (.putfield 43, 3) := by decide +kernel
theorem dX11_init_75 : decode cX11_init 75 = .ok (.aload_n 0, 1) := by decide +kernel
theorem dX11_init_76 : decode cX11_init 76 = .ok (.new 47, 3) := by decide +kernel
theorem dX11_init_79 : decode cX11_init 79 = .ok (.dup, 1) := by decide +kernel
theorem dX11_init_80 : decode cX11_init 80 = .ok (.aload_n 0, 1) := by decide +kernel
theorem dX11_init_81 : decode cX11_init 81 = .ok (.getfield 43, 3) := by decide +kernel
theorem dX11_init_84 : decode cX11_init 84 = .ok (.invokespecial 49, 3) := by decide +kernel
theorem dX11_init_87 : decode cX11_init 87 = .ok (.putfield 52, 3) := by decide +kernel
theorem dX11_init_90 : decode cX11_init 90 = .ok (.aload_n 0, 1) := by decide +kernel
theorem dX11_init_91 : decode cX11_init 91 = .ok (.new 56, 3) := by decide +kernel
theorem dX11_init_94 : decode cX11_init 94 = .ok (.dup, 1) := by decide +kernel
theorem dX11_init_95 : decode cX11_init 95 = .ok (.invokespecial 58, 3) := by decide +kernel
theorem dX11_init_98 : decode cX11_init 98 = .ok (.putfield 59, 3) := by decide +kernel
theorem dX11_init_101 : decode cX11_init 101 = .ok (.aload_n 0, 1) := by decide +kernel
theorem dX11_init_102 : decode cX11_init 102 = .ok (.new 63, 3) := by decide +kernel
theorem dX11_init_105 : decode cX11_init 105 = .ok (.dup, 1) := by decide +kernel
theorem dX11_init_106 : decode cX11_init 106 = .ok (.invokespecial 65, 3) := by decide +kernel
theorem dX11_init_109 : decode cX11_init 109 = .ok (.putfield 66, 3) := by decide +kernel
theorem dX11_init_112 : decode cX11_init 112 = .ok (.aload_n 0, 1) := by decide +kernel
theorem dX11_init_113 : decode cX11_init 113 = .ok (.iconst 4, 1) := by decide +kernel
theorem dX11_init_114 : decode cX11_init 114 = .ok (.anewarray 70, 3) := by decide +kernel
theorem dX11_init_117 : decode cX11_init 117 = .ok (.putfield 72, 3) := by decide +kernel
theorem dX11_init_120 : decode cX11_init 120 = .ok (.iconst 0, 1) := by decide +kernel
theorem dX11_init_121 : decode cX11_init 121 = .ok (.istore_n 1, 1) := by decide +kernel
theorem dX11_init_122 : decode cX11_init 122 = .ok (.iload_n 1, 1) := by decide +kernel
theorem dX11_init_123 : decode cX11_init 123 = .ok (.iconst 4, 1) := by decide +kernel
theorem dX11_init_124 : decode cX11_init 124 = .ok (.if_icmp .ge 22, 3) := by decide +kernel
theorem dX11_init_127 : decode cX11_init 127 = .ok (.aload_n 0, 1) := by decide +kernel
theorem dX11_init_128 : decode cX11_init 128 = .ok (.getfield 72, 3) := by decide +kernel
theorem dX11_init_131 : decode cX11_init 131 = .ok (.iload_n 1, 1) := by decide +kernel
theorem dX11_init_132 : decode cX11_init 132 = .ok (.new 70, 3) := by decide +kernel
theorem dX11_init_135 : decode cX11_init 135 = .ok (.dup, 1) := by decide +kernel
theorem dX11_init_136 : decode cX11_init 136 = .ok (.invokespecial 76, 3) := by decide +kernel
theorem dX11_init_139 : decode cX11_init 139 = .ok (.aastore, 1) := by decide +kernel
theorem dX11_init_140 : decode cX11_init 140 = .ok (.iinc 1 1, 3) := by decide +kernel
theorem dX11_init_143 : decode cX11_init 143 = .ok (.goto (-21), 3) := by decide +kernel
theorem dX11_init_146 : decode cX11_init 146 = .ok (.iconst 0, 1) := by decide +kernel
theorem dX11_init_147 : decode cX11_init 147 = .ok (.istore_n 1, 1) := by decide +kernel
theorem dX11_init_148 : decode cX11_init 148 = .ok (.iload_n 1, 1) := by decide +kernel
theorem dX11_init_149 : decode cX11_init 149 = .ok (.ldc 77, 2) := by decide +kernel
theorem dX11_init_151 : decode cX11_init 151 = .ok (.invokevirtual 79, 3) := by decide +kernel
theorem dX11_init_154 : decode cX11_init 154 = .ok (.if_icmp .ge 23, 3) := by decide +kernel
theorem dX11_init_157 : decode cX11_init 157 = .ok (.aload_n 0, 1) := by decide +kernel
theorem dX11_init_158 : decode cX11_init 158 = .ok (.getfield 29, 3) := by decide +kernel
theorem dX11_init_161 : decode cX11_init 161 = .ok (.ldc 77, 2) := by decide +kernel
theorem dX11_init_163 : decode cX11_init 163 = .ok (.iload_n 1, 1) := by decide +kernel
theorem dX11_init_164 : decode cX11_init 164 = .ok (.invokevirtual 85, 3) := by decide +kernel
theorem dX11_init_167 : decode cX11_init 167 = .ok (.invokevirtual 89, 3) := by decide +kernel
theorem dX11_init_170 : decode cX11_init 170 = .ok (.pop, 1) := by decide +kernel
theorem dX11_init_171 : decode cX11_init 171 = .ok (.iinc 1 1, 3) := by decide +kernel
theorem dX11_init_174 : decode cX11_init 174 = .ok (.goto (-26), 3) := by decide +kernel
theorem dX11_init_177 : decode cX11_init 177 = .ok (.aload_n 0, 1) := by decide +kernel
theorem dX11_init_178 : decode cX11_init 178 = .ok (.invokevirtual 93, 3) := by decide +kernel
theorem dX11_init_181 : decode cX11_init 181 = .ok (.pop, 1) := by decide +kernel
theorem dX11_init_182 : decode cX11_init 182 = .ok (.return_, 1) := by decide +kernel
set_option maxRecDepth 20000 in
theorem ggX11_set_X11_isWithin : GoodIn wsX11_set wsX11_isWithin := goodIn_r _ [8] (by decide +kernel) (by decide +kernel)
set_option maxRecDepth 20000 in
theorem gX11_set_X11_isWithin : GoodIn wsX11_set (va_wsS RX11 103 yX11_isWithin wsX11_isWithin) := goodIn_app (goodIn_of _ (by decide +kernel)) ggX11_set_X11_isWithin
set_option maxRecDepth 20000 in
theorem ggX11_set_X6_reading : GoodIn wsX11_set wsX6_reading := goodIn_r _ [13, 14, 15, 16, 17, 18, 53, 54, 55, 56, 57, 58, 59, 60] (by decide +kernel) (by decide +kernel)
set_option maxRecDepth 20000 in
theorem gX11_set_X6_reading : GoodIn wsX11_set (wsV RX11 107 RX6 yX6_reading wsX6_reading) := goodIn_app (goodIn_of _ (by decide +kernel)) ggX11_set_X6_reading
set_option maxRecDepth 20000 in
theorem ggX11_set_X6_lay : GoodIn wsX11_set wsX6_lay := goodIn_r _ [22, 14, 15, 16, 17, 18, 53, 54, 55, 56, 57, 58, 59, 60] (by decide +kernel) (by decide +kernel)
set_option maxRecDepth 20000 in
theorem gX11_set_X6_lay : GoodIn wsX11_set (wsV RX11 111 RX6 yX6_lay wsX6_lay) := goodIn_app (goodIn_of _ (by decide +kernel)) ggX11_set_X6_lay
set_option maxRecDepth 20000 in
theorem ggX11_set_X6_has : GoodIn wsX11_set wsX6_has := goodIn_r _ [26, 27, 53, 54, 55, 56, 57, 58, 59, 60] (by decide +kernel) (by decide +kernel)
set_option maxRecDepth 20000 in
theorem gX11_set_X6_has : GoodIn wsX11_set (wsV RX11 115 RX6 yX6_has wsX6_has) := goodIn_app (goodIn_of _ (by decide +kernel)) ggX11_set_X6_has
set_option maxRecDepth 20000 in
theorem ggX11_set_X1_reading : GoodIn wsX11_set wsX1_reading := goodIn_r _ [32, 33, 34, 35, 36, 37, 61, 62, 63, 64, 65] (by decide +kernel) (by decide +kernel)
set_option maxRecDepth 20000 in
theorem gX11_set_X1_reading : GoodIn wsX11_set (wsV RX11 122 RX1 yX1_reading wsX1_reading) := goodIn_app (goodIn_of _ (by decide +kernel)) ggX11_set_X1_reading
set_option maxRecDepth 20000 in
theorem ggX11_set_X1_lay : GoodIn wsX11_set wsX1_lay := goodIn_r _ [41, 33, 34, 35, 61, 62, 63, 64, 65] (by decide +kernel) (by decide +kernel)
set_option maxRecDepth 20000 in
theorem gX11_set_X1_lay : GoodIn wsX11_set (wsV RX11 125 RX1 yX1_lay wsX1_lay) := goodIn_app (goodIn_of _ (by decide +kernel)) ggX11_set_X1_lay
theorem dX11_set_0 : decode cX11_set 0 = .ok (.iload_n 1, 1) := by decide +kernel
theorem dX11_set_1 : decode cX11_set 1 = .ok (.ifCond .lt 26, 3) := by decide +kernel
theorem dX11_set_4 : decode cX11_set 4 = .ok (.iload_n 1, 1) := by decide +kernel
theorem dX11_set_5 : decode cX11_set 5 = .ok (.bipush 7, 2) := by decide +kernel
theorem dX11_set_7 : decode cX11_set 7 = .ok (.if_icmp .gt 20, 3) := by decide +kernel
theorem dX11_set_10 : decode cX11_set 10 = .ok (.iload_n 3, 1) := by decide +kernel
theorem dX11_set_11 : decode cX11_set 11 = .ok (.getstatic 96, 3) := by decide +kernel
theorem dX11_set_14 : decode cX11_set 14 = .ok (.iload_n 1, 1) := by decide +kernel
theorem dX11_set_15 : decode cX11_set 15 = .ok (.iaload, 1) := by decide +kernel
theorem dX11_set_16 : decode cX11_set 16 = .ok (.getstatic 100, 3) := by decide +kernel
theorem dX11_set_19 : decode cX11_set 19 = .ok (.iload_n 1, 1) := by decide +kernel
theorem dX11_set_20 : decode cX11_set 20 = .ok (.iaload, 1) := by decide +kernel
theorem dX11_set_21 : decode cX11_set 21 = .ok (.invokestatic 103, 3) := by decide +kernel
theorem dX11_set_24 : decode cX11_set 24 = .ok (.ifCond .ne 6, 3) := by decide +kernel
theorem dX11_set_27 : decode cX11_set 27 = .ok (.bipush (-2), 2) := by decide +kernel
theorem dX11_set_29 : decode cX11_set 29 = .ok (.ireturn, 1) := by decide +kernel
theorem dX11_set_30 : decode cX11_set 30 = .ok (.iload_n 1, 1) := by decide +kernel
theorem dX11_set_31 : decode cX11_set 31 = .ok (.iconst 4, 1) := by decide +kernel
theorem dX11_set_32 : decode cX11_set 32 = .ok (.if_icmp .gt 25, 3) := by decide +kernel
theorem dX11_set_35 : decode cX11_set 35 = .ok (.aload_n 0, 1) := by decide +kernel
theorem dX11_set_36 : decode cX11_set 36 = .ok (.getfield 10, 3) := by decide +kernel
theorem dX11_set_39 : decode cX11_set 39 = .ok (.iload_n 1, 1) := by decide +kernel
theorem dX11_set_40 : decode cX11_set 40 = .ok (.invokevirtual 107, 3) := by decide +kernel
theorem dX11_set_43 : decode cX11_set 43 = .ok (.istore 4, 2) := by decide +kernel
theorem dX11_set_45 : decode cX11_set 45 = .ok (.aload_n 0, 1) := by decide +kernel
theorem dX11_set_46 : decode cX11_set 46 = .ok (.getfield 10, 3) := by decide +kernel
theorem dX11_set_49 : decode cX11_set 49 = .ok (.iload_n 1, 1) := by decide +kernel
theorem dX11_set_50 : decode cX11_set 50 = .ok (.iload_n 3, 1) := by decide +kernel
theorem dX11_set_51 : decode cX11_set 51 = .ok (.invokevirtual 111, 3) := by decide +kernel
theorem dX11_set_54 : decode cX11_set 54 = .ok (.iload 4, 2) := by decide +kernel
theorem dX11_set_56 : decode cX11_set 56 = .ok (.ireturn, 1) := by decide +kernel
theorem dX11_set_57 : decode cX11_set 57 = .ok (.aload_n 0, 1) := by decide +kernel
theorem dX11_set_58 : decode cX11_set 58 = .ok (.getfield 10, 3) := by decide +kernel
theorem dX11_set_61 : decode cX11_set 61 = .ok (.iload_n 2, 1) := by decide +kernel
theorem dX11_set_62 : decode cX11_set 62 = .ok (.invokevirtual 115, 3) := by decide +kernel
theorem dX11_set_65 : decode cX11_set 65 = .ok (.ifCond .ne 6, 3) := by decide +kernel
theorem dX11_set_68 : decode cX11_set 68 = .ok (.bipush (-2), 2) := by decide +kernel
theorem dX11_set_70 : decode cX11_set 70 = .ok (.ireturn, 1) := by decide +kernel
theorem dX11_set_71 : decode cX11_set 71 = .ok (.aload_n 0, 1) := by decide +kernel
theorem dX11_set_72 : decode cX11_set 72 = .ok (.getfield 10, 3) := by decide +kernel
theorem dX11_set_75 : decode cX11_set 75 = .ok (.getfield 118, 3) := by decide +kernel
theorem dX11_set_78 : decode cX11_set 78 = .ok (.iload_n 2, 1) := by decide +kernel
theorem dX11_set_79 : decode cX11_set 79 = .ok (.aaload, 1) := by decide +kernel
theorem dX11_set_80 : decode cX11_set 80 = .ok (.iload_n 1, 1) := by decide +kernel
theorem dX11_set_81 : decode cX11_set 81 = .ok (.invokevirtual 122, 3) := by decide +kernel
theorem dX11_set_84 : decode cX11_set 84 = .ok (.istore 4, 2) := by decide +kernel
theorem dX11_set_86 : decode cX11_set 86 = .ok (.aload_n 0, 1) := by decide +kernel
theorem dX11_set_87 : decode cX11_set 87 = .ok (.getfield 10, 3) := by decide +kernel
theorem dX11_set_90 : decode cX11_set 90 = .ok (.getfield 118, 3) := by decide +kernel
theorem dX11_set_93 : decode cX11_set 93 = .ok (.iload_n 2, 1) := by decide +kernel
theorem dX11_set_94 : decode cX11_set 94 = .ok (.aaload, 1) := by decide +kernel
theorem dX11_set_95 : decode cX11_set 95 = .ok (.iload_n 1, 1) := by decide +kernel
theorem dX11_set_96 : decode cX11_set 96 = .ok (.iload_n 3, 1) := by decide +kernel
theorem dX11_set_97 : decode cX11_set 97 = .ok (.invokevirtual 125, 3) := by decide +kernel
theorem dX11_set_100 : decode cX11_set 100 = .ok (.iload 4, 2) := by decide +kernel
theorem dX11_set_102 : decode cX11_set 102 = .ok (.ireturn, 1) := by decide +kernel
set_option maxRecDepth 20000 in
theorem ggX11_customer_X11_isWithin : GoodIn wsX11_customer wsX11_isWithin := goodIn_r _ [7] (by decide +kernel) (by decide +kernel)
set_option maxRecDepth 20000 in
theorem gX11_customer_X11_isWithin : GoodIn wsX11_customer (va_wsS RX11 103 yX11_isWithin wsX11_isWithin) := goodIn_app (goodIn_of _ (by decide +kernel)) ggX11_customer_X11_isWithin
set_option maxRecDepth 20000 in
theorem ggX11_customer_X11_isHour : GoodIn wsX11_customer wsX11_isHour := goodIn_r _ [10] (by decide +kernel) (by decide +kernel)
set_option maxRecDepth 20000 in
theorem gX11_customer_X11_isHour : GoodIn wsX11_customer (va_wsS RX11 126 yX11_isHour wsX11_isHour) := goodIn_app (goodIn_of _ (by decide +kernel)) ggX11_customer_X11_isHour
set_option maxRecDepth 20000 in
theorem ggX11_customer_X1_come : GoodIn wsX11_customer wsX1_come := goodIn_r _ [15, 16, 17, 18, 19, 20, 40, 41, 42, 43, 44] (by decide +kernel) (by decide +kernel)
set_option maxRecDepth 20000 in
theorem gX11_customer_X1_come : GoodIn wsX11_customer (wsV RX11 133 RX1 yX1_come wsX1_come) := goodIn_app (goodIn_of _ (by decide +kernel)) ggX11_customer_X1_come
theorem dX11_customer_0 : decode cX11_customer 0 = .ok (.iload_n 1, 1) := by decide +kernel
theorem dX11_customer_1 : decode cX11_customer 1 = .ok (.iconst 0, 1) := by decide +kernel
theorem dX11_customer_2 : decode cX11_customer 2 = .ok (.iconst 5, 1) := by decide +kernel
theorem dX11_customer_3 : decode cX11_customer 3 = .ok (.invokestatic 103, 3) := by decide +kernel
theorem dX11_customer_6 : decode cX11_customer 6 = .ok (.ifCond .eq 20, 3) := by decide +kernel
theorem dX11_customer_9 : decode cX11_customer 9 = .ok (.iload_n 2, 1) := by decide +kernel
theorem dX11_customer_10 : decode cX11_customer 10 = .ok (.iconst 0, 1) := by decide +kernel
theorem dX11_customer_11 : decode cX11_customer 11 = .ok (.bipush 9, 2) := by decide +kernel
theorem dX11_customer_13 : decode cX11_customer 13 = .ok (.invokestatic 103, 3) := by decide +kernel
theorem dX11_customer_16 : decode cX11_customer 16 = .ok (.ifCond .eq 10, 3) := by decide +kernel
theorem dX11_customer_19 : decode cX11_customer 19 = .ok (.iload_n 3, 1) := by decide +kernel
theorem dX11_customer_20 : decode cX11_customer 20 = .ok (.invokestatic 126, 3) := by decide +kernel
theorem dX11_customer_23 : decode cX11_customer 23 = .ok (.ifCond .ne 6, 3) := by decide +kernel
theorem dX11_customer_26 : decode cX11_customer 26 = .ok (.bipush (-2), 2) := by decide +kernel
theorem dX11_customer_28 : decode cX11_customer 28 = .ok (.ireturn, 1) := by decide +kernel
theorem dX11_customer_29 : decode cX11_customer 29 = .ok (.aload_n 0, 1) := by decide +kernel
theorem dX11_customer_30 : decode cX11_customer 30 = .ok (.getfield 10, 3) := by decide +kernel
theorem dX11_customer_33 : decode cX11_customer 33 = .ok (.getfield 129, 3) := by decide +kernel
theorem dX11_customer_36 : decode cX11_customer 36 = .ok (.bipush 8, 2) := by decide +kernel
theorem dX11_customer_38 : decode cX11_customer 38 = .ok (.if_icmp .lt 6, 3) := by decide +kernel
theorem dX11_customer_41 : decode cX11_customer 41 = .ok (.bipush (-4), 2) := by decide +kernel
theorem dX11_customer_43 : decode cX11_customer 43 = .ok (.ireturn, 1) := by decide +kernel
theorem dX11_customer_44 : decode cX11_customer 44 = .ok (.aload_n 0, 1) := by decide +kernel
theorem dX11_customer_45 : decode cX11_customer 45 = .ok (.getfield 10, 3) := by decide +kernel
theorem dX11_customer_48 : decode cX11_customer 48 = .ok (.getfield 118, 3) := by decide +kernel
theorem dX11_customer_51 : decode cX11_customer 51 = .ok (.aload_n 0, 1) := by decide +kernel
theorem dX11_customer_52 : decode cX11_customer 52 = .ok (.getfield 10, 3) := by decide +kernel
theorem dX11_customer_55 : decode cX11_customer 55 = .ok (.getfield 129, 3) := by decide +kernel
theorem dX11_customer_58 : decode cX11_customer 58 = .ok (.aaload, 1) := by decide +kernel
theorem dX11_customer_59 : decode cX11_customer 59 = .ok (.iload_n 1, 1) := by decide +kernel
theorem dX11_customer_60 : decode cX11_customer 60 = .ok (.iload_n 2, 1) := by decide +kernel
theorem dX11_customer_61 : decode cX11_customer 61 = .ok (.iload_n 3, 1) := by decide +kernel
theorem dX11_customer_62 : decode cX11_customer 62 = .ok (.invokevirtual 133, 3) := by decide +kernel
theorem dX11_customer_65 : decode cX11_customer 65 = .ok (.aload_n 0, 1) := by decide +kernel
theorem dX11_customer_66 : decode cX11_customer 66 = .ok (.getfield 10, 3) := by decide +kernel
theorem dX11_customer_69 : decode cX11_customer 69 = .ok (.dup, 1) := by decide +kernel
theorem dX11_customer_70 : decode cX11_customer 70 = .ok (.getfield 129, 3) := by decide +kernel
theorem dX11_customer_73 : decode cX11_customer 73 = .ok (.iconst 1, 1) := by decide +kernel
theorem dX11_customer_74 : decode cX11_customer 74 = .ok (.iadd, 1) := by decide +kernel
theorem dX11_customer_75 : decode cX11_customer 75 = .ok (.putfield 129, 3) := by decide +kernel
theorem dX11_customer_78 : decode cX11_customer 78 = .ok (.aload_n 0, 1) := by decide +kernel
theorem dX11_customer_79 : decode cX11_customer 79 = .ok (.getfield 10, 3) := by decide +kernel
theorem dX11_customer_82 : decode cX11_customer 82 = .ok (.getfield 129, 3) := by decide +kernel
theorem dX11_customer_85 : decode cX11_customer 85 = .ok (.iconst 1, 1) := by decide +kernel
theorem dX11_customer_86 : decode cX11_customer 86 = .ok (.isub, 1) := by decide +kernel
theorem dX11_customer_87 : decode cX11_customer 87 = .ok (.ireturn, 1) := by decide +kernel
set_option maxRecDepth 20000 in
theorem ggX11_told_X6_reading : GoodIn wsX11_told wsX6_reading := goodIn_r _ [9, 10, 11, 12, 13, 14, 132, 133, 134, 135, 136, 137, 138, 139] (by decide +kernel) (by decide +kernel)
set_option maxRecDepth 20000 in
theorem gX11_told_X6_reading : GoodIn wsX11_told (wsV RX11 107 RX6 yX6_reading wsX6_reading) := goodIn_app (goodIn_of _ (by decide +kernel)) ggX11_told_X6_reading
set_option maxRecDepth 20000 in
theorem ggX11_told_X6_has : GoodIn wsX11_told wsX6_has := goodIn_r _ [18, 19, 132, 133, 134, 135, 136, 137, 138, 139] (by decide +kernel) (by decide +kernel)
set_option maxRecDepth 20000 in
theorem gX11_told_X6_has : GoodIn wsX11_told (wsV RX11 115 RX6 yX6_has wsX6_has) := goodIn_app (goodIn_of _ (by decide +kernel)) ggX11_told_X6_has
set_option maxRecDepth 20000 in
theorem ggX11_told_X1_reading : GoodIn wsX11_told wsX1_reading := goodIn_r _ [24, 25, 26, 27, 28, 29, 140, 141, 142, 143, 144] (by decide +kernel) (by decide +kernel)
set_option maxRecDepth 20000 in
theorem gX11_told_X1_reading : GoodIn wsX11_told (wsV RX11 122 RX1 yX1_reading wsX1_reading) := goodIn_app (goodIn_of _ (by decide +kernel)) ggX11_told_X1_reading
set_option maxRecDepth 20000 in
theorem ggX11_told_X4_eatsOf : GoodIn wsX11_told wsX4_eatsOf := goodIn_r _ [34, 35, 36, 37, 38, 39, 40, 41, 42, 43, 44, 45, 46, 47, 48, 49, 50, 51, 52, 53, 54, 55, 56, 57, 58, 59, 60, 61, 62, 63, 64, 65, 66, 67, 68, 69, 70, 71, 72, 73, 74, 75, 76, 77, 78, 79, 80, 81, 82, 83, 84, 85, 140, 141, 142, 143, 144, 132, 133, 134, 135, 136, 137, 138, 139, 145, 146, 147, 148, 149, 150, 151] (by decide +kernel) (by decide +kernel)
set_option maxRecDepth 20000 in
theorem gX11_told_X4_eatsOf : GoodIn wsX11_told (wsV RX11 138 RX4 yX4_eatsOf wsX4_eatsOf) := goodIn_app (goodIn_of _ (by decide +kernel)) ggX11_told_X4_eatsOf
set_option maxRecDepth 20000 in
theorem ggX11_told_X4_triesOf : GoodIn wsX11_told wsX4_triesOf := goodIn_r _ [89, 35, 38, 37, 90, 44, 45, 46, 47, 48, 49, 50, 51, 52, 53, 54, 55, 56, 57, 58, 59, 60, 61, 62, 63, 64, 65, 66, 67, 68, 69, 70, 71, 72, 73, 74, 75, 76, 77, 78, 79, 80, 81, 82, 40, 41, 42, 83, 84, 85, 140, 141, 142, 143, 144, 132, 133, 134, 135, 136, 137, 138, 139, 145, 146, 147, 148, 149, 150, 151] (by decide +kernel) (by decide +kernel)
set_option maxRecDepth 20000 in
theorem gX11_told_X4_triesOf : GoodIn wsX11_told (wsV RX11 142 RX4 yX4_triesOf wsX4_triesOf) := goodIn_app (goodIn_of _ (by decide +kernel)) ggX11_told_X4_triesOf
set_option maxRecDepth 20000 in
theorem ggX11_told_X4_spendsOf : GoodIn wsX11_told wsX4_spendsOf := goodIn_r _ [94, 35, 37, 90, 44, 45, 46, 47, 48, 49, 50, 51, 52, 53, 54, 55, 56, 57, 58, 59, 60, 61, 62, 63, 64, 65, 66, 67, 68, 69, 70, 71, 72, 73, 74, 75, 76, 77, 78, 79, 80, 81, 82, 40, 41, 42, 83, 84, 85, 140, 141, 142, 143, 144, 145, 132, 133, 134, 135, 136, 137, 138, 139, 146, 147, 148, 149, 150, 151] (by decide +kernel) (by decide +kernel)
set_option maxRecDepth 20000 in
theorem gX11_told_X4_spendsOf : GoodIn wsX11_told (wsV RX11 145 RX4 yX4_spendsOf wsX4_spendsOf) := goodIn_app (goodIn_of _ (by decide +kernel)) ggX11_told_X4_spendsOf
set_option maxRecDepth 20000 in
theorem ggX11_told_X6_isThere : GoodIn wsX11_told wsX6_isThere := goodIn_r _ [98, 13, 99, 132, 133, 134, 135, 136, 137, 138, 139, 140, 141, 142, 143, 144] (by decide +kernel) (by decide +kernel)
set_option maxRecDepth 20000 in
theorem gX11_told_X6_isThere : GoodIn wsX11_told (wsV RX11 148 RX6 yX6_isThere wsX6_isThere) := goodIn_app (goodIn_of _ (by decide +kernel)) ggX11_told_X6_isThere
set_option maxRecDepth 20000 in
theorem ggX11_told_X4_costOf : GoodIn wsX11_told wsX4_costOf := goodIn_r _ [103, 104, 105, 106, 33, 107, 108, 96, 97, 8, 98, 13, 99, 109, 31, 32, 34, 35, 36, 37, 38, 39, 40, 41, 42, 43, 44, 45, 46, 47, 48, 49, 50, 51, 52, 53, 54, 55, 56, 57, 58, 59, 60, 61, 62, 63, 64, 65, 66, 67, 68, 69, 70, 71, 72, 73, 74, 75, 76, 77, 78, 79, 80, 81, 82, 83, 84, 85, 110, 111, 112, 113, 114, 132, 133, 134, 135, 136, 137, 138, 139, 140, 141, 142, 143, 144, 145, 146, 147, 148, 149, 150, 151] (by decide +kernel) (by decide +kernel)
set_option maxRecDepth 20000 in
theorem gX11_told_X4_costOf : GoodIn wsX11_told (wsV RX11 152 RX4 yX4_costOf wsX4_costOf) := goodIn_app (goodIn_of _ (by decide +kernel)) ggX11_told_X4_costOf
set_option maxRecDepth 20000 in
theorem ggX11_told_X4_gainOf : GoodIn wsX11_told wsX4_gainOf := goodIn_r _ [118, 108, 96, 97, 8, 98, 13, 99, 119, 87, 88, 33, 89, 35, 38, 37, 90, 44, 45, 46, 47, 48, 49, 50, 51, 52, 53, 54, 55, 56, 57, 58, 59, 60, 61, 62, 63, 64, 65, 66, 67, 68, 69, 70, 71, 72, 73, 74, 75, 76, 77, 78, 79, 80, 81, 82, 40, 41, 42, 83, 84, 85, 120, 92, 93, 94, 109, 31, 32, 34, 36, 39, 43, 110, 111, 112, 113, 114, 132, 133, 134, 135, 136, 137, 138, 139, 140, 141, 142, 143, 144, 145, 146, 147, 148, 149, 150, 151] (by decide +kernel) (by decide +kernel)
set_option maxRecDepth 20000 in
theorem gX11_told_X4_gainOf : GoodIn wsX11_told (wsV RX11 155 RX4 yX4_gainOf wsX4_gainOf) := goodIn_app (goodIn_of _ (by decide +kernel)) ggX11_told_X4_gainOf
theorem dX11_told_0 : decode cX11_told 0 = .ok (.iload_n 2, 1) := by decide +kernel
theorem dX11_told_1 : decode cX11_told 1 = .ok (.ifCond .lt 17, 3) := by decide +kernel
theorem dX11_told_4 : decode cX11_told 4 = .ok (.iload_n 2, 1) := by decide +kernel
theorem dX11_told_5 : decode cX11_told 5 = .ok (.iconst 4, 1) := by decide +kernel
theorem dX11_told_6 : decode cX11_told 6 = .ok (.if_icmp .gt 12, 3) := by decide +kernel
theorem dX11_told_9 : decode cX11_told 9 = .ok (.aload_n 0, 1) := by decide +kernel
theorem dX11_told_10 : decode cX11_told 10 = .ok (.getfield 10, 3) := by decide +kernel
theorem dX11_told_13 : decode cX11_told 13 = .ok (.iload_n 2, 1) := by decide +kernel
theorem dX11_told_14 : decode cX11_told 14 = .ok (.invokevirtual 107, 3) := by decide +kernel
theorem dX11_told_17 : decode cX11_told 17 = .ok (.ireturn, 1) := by decide +kernel
theorem dX11_told_18 : decode cX11_told 18 = .ok (.aload_n 0, 1) := by decide +kernel
theorem dX11_told_19 : decode cX11_told 19 = .ok (.getfield 10, 3) := by decide +kernel
theorem dX11_told_22 : decode cX11_told 22 = .ok (.iload_n 1, 1) := by decide +kernel
theorem dX11_told_23 : decode cX11_told 23 = .ok (.invokevirtual 115, 3) := by decide +kernel
theorem dX11_told_26 : decode cX11_told 26 = .ok (.ifCond .ne 6, 3) := by decide +kernel
theorem dX11_told_29 : decode cX11_told 29 = .ok (.ldc 137, 2) := by decide +kernel
theorem dX11_told_31 : decode cX11_told 31 = .ok (.ireturn, 1) := by decide +kernel
theorem dX11_told_32 : decode cX11_told 32 = .ok (.aload_n 0, 1) := by decide +kernel
theorem dX11_told_33 : decode cX11_told 33 = .ok (.getfield 10, 3) := by decide +kernel
theorem dX11_told_36 : decode cX11_told 36 = .ok (.getfield 118, 3) := by decide +kernel
theorem dX11_told_39 : decode cX11_told 39 = .ok (.iload_n 1, 1) := by decide +kernel
theorem dX11_told_40 : decode cX11_told 40 = .ok (.aaload, 1) := by decide +kernel
theorem dX11_told_41 : decode cX11_told 41 = .ok (.astore_n 3, 1) := by decide +kernel
theorem dX11_told_42 : decode cX11_told 42 = .ok (.iload_n 2, 1) := by decide +kernel
theorem dX11_told_43 : decode cX11_told 43 = .ok (.iconst 5, 1) := by decide +kernel
theorem dX11_told_44 : decode cX11_told 44 = .ok (.if_icmp .lt 15, 3) := by decide +kernel
theorem dX11_told_47 : decode cX11_told 47 = .ok (.iload_n 2, 1) := by decide +kernel
theorem dX11_told_48 : decode cX11_told 48 = .ok (.bipush 9, 2) := by decide +kernel
theorem dX11_told_50 : decode cX11_told 50 = .ok (.if_icmp .gt 9, 3) := by decide +kernel
theorem dX11_told_53 : decode cX11_told 53 = .ok (.aload_n 3, 1) := by decide +kernel
theorem dX11_told_54 : decode cX11_told 54 = .ok (.iload_n 2, 1) := by decide +kernel
theorem dX11_told_55 : decode cX11_told 55 = .ok (.invokevirtual 122, 3) := by decide +kernel
theorem dX11_told_58 : decode cX11_told 58 = .ok (.ireturn, 1) := by decide +kernel
theorem dX11_told_59 : decode cX11_told 59 = .ok (.iload_n 2, 1) := by decide +kernel
theorem dX11_told_60 : decode cX11_told 60 = .ok (.tableswitch 122 10 15 #[40, 53, 66, 79, 96, 109], 40) := by decide +kernel
theorem dX11_told_100 : decode cX11_told 100 = .ok (.aload_n 0, 1) := by decide +kernel
theorem dX11_told_101 : decode cX11_told 101 = .ok (.getfield 52, 3) := by decide +kernel
theorem dX11_told_104 : decode cX11_told 104 = .ok (.aload_n 0, 1) := by decide +kernel
theorem dX11_told_105 : decode cX11_told 105 = .ok (.getfield 10, 3) := by decide +kernel
theorem dX11_told_108 : decode cX11_told 108 = .ok (.aload_n 3, 1) := by decide +kernel
theorem dX11_told_109 : decode cX11_told 109 = .ok (.invokevirtual 138, 3) := by decide +kernel
theorem dX11_told_112 : decode cX11_told 112 = .ok (.ireturn, 1) := by decide +kernel
theorem dX11_told_113 : decode cX11_told 113 = .ok (.aload_n 0, 1) := by decide +kernel
theorem dX11_told_114 : decode cX11_told 114 = .ok (.getfield 52, 3) := by decide +kernel
theorem dX11_told_117 : decode cX11_told 117 = .ok (.aload_n 0, 1) := by decide +kernel
theorem dX11_told_118 : decode cX11_told 118 = .ok (.getfield 10, 3) := by decide +kernel
theorem dX11_told_121 : decode cX11_told 121 = .ok (.aload_n 3, 1) := by decide +kernel
theorem dX11_told_122 : decode cX11_told 122 = .ok (.invokevirtual 142, 3) := by decide +kernel
theorem dX11_told_125 : decode cX11_told 125 = .ok (.ireturn, 1) := by decide +kernel
theorem dX11_told_126 : decode cX11_told 126 = .ok (.aload_n 0, 1) := by decide +kernel
theorem dX11_told_127 : decode cX11_told 127 = .ok (.getfield 52, 3) := by decide +kernel
theorem dX11_told_130 : decode cX11_told 130 = .ok (.aload_n 0, 1) := by decide +kernel
theorem dX11_told_131 : decode cX11_told 131 = .ok (.getfield 10, 3) := by decide +kernel
theorem dX11_told_134 : decode cX11_told 134 = .ok (.aload_n 3, 1) := by decide +kernel
theorem dX11_told_135 : decode cX11_told 135 = .ok (.invokevirtual 145, 3) := by decide +kernel
theorem dX11_told_138 : decode cX11_told 138 = .ok (.ireturn, 1) := by decide +kernel
theorem dX11_told_139 : decode cX11_told 139 = .ok (.aload_n 0, 1) := by decide +kernel
theorem dX11_told_140 : decode cX11_told 140 = .ok (.getfield 10, 3) := by decide +kernel
theorem dX11_told_143 : decode cX11_told 143 = .ok (.aload_n 3, 1) := by decide +kernel
theorem dX11_told_144 : decode cX11_told 144 = .ok (.invokevirtual 148, 3) := by decide +kernel
theorem dX11_told_147 : decode cX11_told 147 = .ok (.ifCond .eq 7, 3) := by decide +kernel
theorem dX11_told_150 : decode cX11_told 150 = .ok (.iconst 1, 1) := by decide +kernel
theorem dX11_told_151 : decode cX11_told 151 = .ok (.goto 4, 3) := by decide +kernel
theorem dX11_told_154 : decode cX11_told 154 = .ok (.iconst 0, 1) := by decide +kernel
theorem dX11_told_155 : decode cX11_told 155 = .ok (.ireturn, 1) := by decide +kernel
theorem dX11_told_156 : decode cX11_told 156 = .ok (.aload_n 0, 1) := by decide +kernel
theorem dX11_told_157 : decode cX11_told 157 = .ok (.getfield 52, 3) := by decide +kernel
theorem dX11_told_160 : decode cX11_told 160 = .ok (.aload_n 0, 1) := by decide +kernel
theorem dX11_told_161 : decode cX11_told 161 = .ok (.getfield 10, 3) := by decide +kernel
theorem dX11_told_164 : decode cX11_told 164 = .ok (.aload_n 3, 1) := by decide +kernel
theorem dX11_told_165 : decode cX11_told 165 = .ok (.invokevirtual 152, 3) := by decide +kernel
theorem dX11_told_168 : decode cX11_told 168 = .ok (.ireturn, 1) := by decide +kernel
theorem dX11_told_169 : decode cX11_told 169 = .ok (.aload_n 0, 1) := by decide +kernel
theorem dX11_told_170 : decode cX11_told 170 = .ok (.getfield 52, 3) := by decide +kernel
theorem dX11_told_173 : decode cX11_told 173 = .ok (.aload_n 0, 1) := by decide +kernel
theorem dX11_told_174 : decode cX11_told 174 = .ok (.getfield 10, 3) := by decide +kernel
theorem dX11_told_177 : decode cX11_told 177 = .ok (.aload_n 3, 1) := by decide +kernel
theorem dX11_told_178 : decode cX11_told 178 = .ok (.invokevirtual 155, 3) := by decide +kernel
theorem dX11_told_181 : decode cX11_told 181 = .ok (.ireturn, 1) := by decide +kernel
theorem dX11_told_182 : decode cX11_told 182 = .ok (.ldc 137, 2) := by decide +kernel
theorem dX11_told_184 : decode cX11_told 184 = .ok (.ireturn, 1) := by decide +kernel
set_option maxRecDepth 20000 in
theorem ggX11_feed_X11_isWithin : GoodIn wsX11_feed wsX11_isWithin := goodIn_r _ [6] (by decide +kernel) (by decide +kernel)
set_option maxRecDepth 20000 in
theorem gX11_feed_X11_isWithin : GoodIn wsX11_feed (va_wsS RX11 103 yX11_isWithin wsX11_isWithin) := goodIn_app (goodIn_of _ (by decide +kernel)) ggX11_feed_X11_isWithin
set_option maxRecDepth 20000 in
theorem ggX11_feed_X7_take : GoodIn wsX11_feed wsX7_take := goodIn_r _ [11, 12, 13, 25, 26] (by decide +kernel) (by decide +kernel)
set_option maxRecDepth 20000 in
theorem gX11_feed_X7_take : GoodIn wsX11_feed (wsV RX11 89 RX7 yX7_take wsX7_take) := goodIn_app (goodIn_of _ (by decide +kernel)) ggX11_feed_X7_take
theorem dX11_feed_0 : decode cX11_feed 0 = .ok (.iload_n 1, 1) := by decide +kernel
theorem dX11_feed_1 : decode cX11_feed 1 = .ok (.iconst 0, 1) := by decide +kernel
theorem dX11_feed_2 : decode cX11_feed 2 = .ok (.sipush 255, 3) := by decide +kernel
theorem dX11_feed_5 : decode cX11_feed 5 = .ok (.invokestatic 103, 3) := by decide +kernel
theorem dX11_feed_8 : decode cX11_feed 8 = .ok (.ifCond .ne 6, 3) := by decide +kernel
theorem dX11_feed_11 : decode cX11_feed 11 = .ok (.bipush (-2), 2) := by decide +kernel
theorem dX11_feed_13 : decode cX11_feed 13 = .ok (.ireturn, 1) := by decide +kernel
theorem dX11_feed_14 : decode cX11_feed 14 = .ok (.aload_n 0, 1) := by decide +kernel
theorem dX11_feed_15 : decode cX11_feed 15 = .ok (.getfield 29, 3) := by decide +kernel
theorem dX11_feed_18 : decode cX11_feed 18 = .ok (.iload_n 1, 1) := by decide +kernel
theorem dX11_feed_19 : decode cX11_feed 19 = .ok (.invokevirtual 89, 3) := by decide +kernel
theorem dX11_feed_22 : decode cX11_feed 22 = .ok (.ifCond .eq 13, 3) := by decide +kernel
theorem dX11_feed_25 : decode cX11_feed 25 = .ok (.aload_n 0, 1) := by decide +kernel
theorem dX11_feed_26 : decode cX11_feed 26 = .ok (.getfield 29, 3) := by decide +kernel
theorem dX11_feed_29 : decode cX11_feed 29 = .ok (.getfield 158, 3) := by decide +kernel
theorem dX11_feed_32 : decode cX11_feed 32 = .ok (.goto 5, 3) := by decide +kernel
theorem dX11_feed_35 : decode cX11_feed 35 = .ok (.bipush (-4), 2) := by decide +kernel
theorem dX11_feed_37 : decode cX11_feed 37 = .ok (.ireturn, 1) := by decide +kernel
set_option maxRecDepth 20000 in
theorem ggX11_text_X3_read : GoodIn wsX11_text wsX3_read := goodIn_r _ [11, 12, 13, 14, 15, 16, 17, 18, 19, 20, 21, 22, 23, 24, 25, 26, 27, 28, 29, 30, 31, 32, 33, 34, 35, 36, 37, 38, 39, 40, 41, 42, 43, 44, 45, 46, 47, 48, 49, 50, 51, 52, 53, 54, 55, 56, 57, 58, 59, 60, 61, 62, 63, 64, 65, 66, 67, 68, 69, 70, 71, 72, 73, 74, 75, 76, 77, 78, 79, 80, 81, 82, 83, 84, 85, 86, 87, 88, 89, 90, 91, 92, 93, 94, 95, 96, 97, 98, 99, 100, 101, 102, 103, 104, 105, 106, 107, 108, 109, 110, 111, 112, 113, 114, 115, 116, 117, 118, 119, 120, 121, 122, 123, 124, 125, 126, 127, 128, 129, 130, 131, 132, 133, 134, 135, 136, 137, 138, 139, 140, 141, 142, 143, 144, 145, 146, 147, 148, 149, 150, 151, 152, 153, 154, 155, 156, 157, 158, 159, 160, 161, 162, 163, 164, 165, 166, 167, 168, 169, 170, 171, 172, 173, 174, 175, 176, 177, 178, 179, 10, 180, 181, 182, 183, 184, 185, 186, 187, 188, 189, 190, 191, 192, 193, 194, 195, 196, 197, 198, 199, 200, 201, 202, 203, 204, 205, 206, 207, 208, 209, 210, 211, 212, 213, 214, 215, 216, 217, 218, 219, 235, 236, 237, 238, 239, 240, 241, 242, 243, 244, 233, 234] (by decide +kernel) (by decide +kernel)
set_option maxRecDepth 20000 in
theorem gX11_text_X3_read : GoodIn wsX11_text (wsV RX11 164 RX3 yX3_read wsX3_read) := goodIn_app (goodIn_of _ (by decide +kernel)) ggX11_text_X3_read
theorem dX11_text_0 : decode cX11_text 0 = .ok (.aload_n 0, 1) := by decide +kernel
theorem dX11_text_1 : decode cX11_text 1 = .ok (.getfield 43, 3) := by decide +kernel
theorem dX11_text_4 : decode cX11_text 4 = .ok (.getfield 159, 3) := by decide +kernel
theorem dX11_text_7 : decode cX11_text 7 = .ok (.bipush 6, 2) := by decide +kernel
theorem dX11_text_9 : decode cX11_text 9 = .ok (.if_icmp .lt 6, 3) := by decide +kernel
theorem dX11_text_12 : decode cX11_text 12 = .ok (.bipush (-4), 2) := by decide +kernel
theorem dX11_text_14 : decode cX11_text 14 = .ok (.ireturn, 1) := by decide +kernel
theorem dX11_text_15 : decode cX11_text 15 = .ok (.aload_n 0, 1) := by decide +kernel
theorem dX11_text_16 : decode cX11_text 16 = .ok (.getfield 36, 3) := by decide +kernel
theorem dX11_text_19 : decode cX11_text 19 = .ok (.aload_n 0, 1) := by decide +kernel
theorem dX11_text_20 : decode cX11_text 20 = .ok (.getfield 29, 3) := by decide +kernel
theorem dX11_text_23 : decode cX11_text 23 = .ok (.aload_n 0, 1) := by decide +kernel
theorem dX11_text_24 : decode cX11_text 24 = .ok (.getfield 43, 3) := by decide +kernel
theorem dX11_text_27 : decode cX11_text 27 = .ok (.getfield 160, 3) := by decide +kernel
theorem dX11_text_30 : decode cX11_text 30 = .ok (.aload_n 0, 1) := by decide +kernel
theorem dX11_text_31 : decode cX11_text 31 = .ok (.getfield 43, 3) := by decide +kernel
theorem dX11_text_34 : decode cX11_text 34 = .ok (.getfield 159, 3) := by decide +kernel
theorem dX11_text_37 : decode cX11_text 37 = .ok (.aaload, 1) := by decide +kernel
theorem dX11_text_38 : decode cX11_text 38 = .ok (.invokevirtual 164, 3) := by decide +kernel
theorem dX11_text_41 : decode cX11_text 41 = .ok (.istore_n 1, 1) := by decide +kernel
theorem dX11_text_42 : decode cX11_text 42 = .ok (.aload_n 0, 1) := by decide +kernel
theorem dX11_text_43 : decode cX11_text 43 = .ok (.getfield 29, 3) := by decide +kernel
theorem dX11_text_46 : decode cX11_text 46 = .ok (.iconst 0, 1) := by decide +kernel
theorem dX11_text_47 : decode cX11_text 47 = .ok (.putfield 158, 3) := by decide +kernel
theorem dX11_text_50 : decode cX11_text 50 = .ok (.iload_n 1, 1) := by decide +kernel
theorem dX11_text_51 : decode cX11_text 51 = .ok (.iconst (-1), 1) := by decide +kernel
theorem dX11_text_52 : decode cX11_text 52 = .ok (.if_icmp .eq 8, 3) := by decide +kernel
theorem dX11_text_55 : decode cX11_text 55 = .ok (.bipush (-100), 2) := by decide +kernel
theorem dX11_text_57 : decode cX11_text 57 = .ok (.iload_n 1, 1) := by decide +kernel
theorem dX11_text_58 : decode cX11_text 58 = .ok (.isub, 1) := by decide +kernel
theorem dX11_text_59 : decode cX11_text 59 = .ok (.ireturn, 1) := by decide +kernel
theorem dX11_text_60 : decode cX11_text 60 = .ok (.aload_n 0, 1) := by decide +kernel
theorem dX11_text_61 : decode cX11_text 61 = .ok (.getfield 43, 3) := by decide +kernel
theorem dX11_text_64 : decode cX11_text 64 = .ok (.dup, 1) := by decide +kernel
theorem dX11_text_65 : decode cX11_text 65 = .ok (.getfield 159, 3) := by decide +kernel
theorem dX11_text_68 : decode cX11_text 68 = .ok (.iconst 1, 1) := by decide +kernel
theorem dX11_text_69 : decode cX11_text 69 = .ok (.iadd, 1) := by decide +kernel
theorem dX11_text_70 : decode cX11_text 70 = .ok (.putfield 159, 3) := by decide +kernel
theorem dX11_text_73 : decode cX11_text 73 = .ok (.aload_n 0, 1) := by decide +kernel
theorem dX11_text_74 : decode cX11_text 74 = .ok (.getfield 43, 3) := by decide +kernel
theorem dX11_text_77 : decode cX11_text 77 = .ok (.getfield 159, 3) := by decide +kernel
theorem dX11_text_80 : decode cX11_text 80 = .ok (.iconst 1, 1) := by decide +kernel
theorem dX11_text_81 : decode cX11_text 81 = .ok (.isub, 1) := by decide +kernel
theorem dX11_text_82 : decode cX11_text 82 = .ok (.ireturn, 1) := by decide +kernel
set_option maxRecDepth 20000 in
theorem ggX11_force_X9_has : GoodIn wsX11_force wsX9_has := goodIn_r _ [8, 9, 29, 30] (by decide +kernel) (by decide +kernel)
set_option maxRecDepth 20000 in
theorem gX11_force_X9_has : GoodIn wsX11_force (wsV RX11 168 RX9 yX9_has wsX9_has) := goodIn_app (goodIn_of _ (by decide +kernel)) ggX11_force_X9_has
theorem dX11_force_0 : decode cX11_force 0 = .ok (.aload_n 0, 1) := by decide +kernel
theorem dX11_force_1 : decode cX11_force 1 = .ok (.getfield 43, 3) := by decide +kernel
theorem dX11_force_4 : decode cX11_force 4 = .ok (.iload_n 1, 1) := by decide +kernel
theorem dX11_force_5 : decode cX11_force 5 = .ok (.invokevirtual 168, 3) := by decide +kernel
theorem dX11_force_8 : decode cX11_force 8 = .ok (.ifCond .ne 6, 3) := by decide +kernel
theorem dX11_force_11 : decode cX11_force 11 = .ok (.bipush (-2), 2) := by decide +kernel
theorem dX11_force_13 : decode cX11_force 13 = .ok (.ireturn, 1) := by decide +kernel
theorem dX11_force_14 : decode cX11_force 14 = .ok (.aload_n 0, 1) := by decide +kernel
theorem dX11_force_15 : decode cX11_force 15 = .ok (.getfield 10, 3) := by decide +kernel
theorem dX11_force_18 : decode cX11_force 18 = .ok (.getfield 169, 3) := by decide +kernel
theorem dX11_force_21 : decode cX11_force 21 = .ok (.istore_n 2, 1) := by decide +kernel
theorem dX11_force_22 : decode cX11_force 22 = .ok (.aload_n 0, 1) := by decide +kernel
theorem dX11_force_23 : decode cX11_force 23 = .ok (.getfield 10, 3) := by decide +kernel
theorem dX11_force_26 : decode cX11_force 26 = .ok (.iload_n 1, 1) := by decide +kernel
theorem dX11_force_27 : decode cX11_force 27 = .ok (.putfield 169, 3) := by decide +kernel
theorem dX11_force_30 : decode cX11_force 30 = .ok (.iload_n 2, 1) := by decide +kernel
theorem dX11_force_31 : decode cX11_force 31 = .ok (.ireturn, 1) := by decide +kernel
set_option maxRecDepth 20000 in
theorem ggX11_board_X4_allGainOf : GoodIn wsX11_board wsX4_allGainOf := goodIn_r _ [8, 9, 10, 11, 12, 13, 7, 14, 15, 16, 17, 18, 19, 20, 21, 22, 23, 24, 25, 26, 27, 28, 29, 30, 31, 32, 33, 34, 35, 36, 37, 38, 39, 40, 41, 42, 43, 44, 45, 46, 47, 48, 49, 50, 51, 52, 53, 54, 55, 56, 57, 58, 59, 60, 61, 62, 63, 64, 65, 66, 67, 68, 69, 70, 71, 72, 73, 74, 75, 76, 77, 78, 79, 80, 81, 82, 83, 84, 85, 86, 87, 88, 89, 90, 153, 154, 155, 156, 157, 158, 159, 160, 161, 162, 163, 164, 165, 166, 167, 168, 169, 170, 171, 172] (by decide +kernel) (by decide +kernel)
set_option maxRecDepth 20000 in
theorem gX11_board_X4_allGainOf : GoodIn wsX11_board (wsV RX11 172 RX4 yX4_allGainOf wsX4_allGainOf) := goodIn_app (goodIn_of _ (by decide +kernel)) ggX11_board_X4_allGainOf
set_option maxRecDepth 20000 in
theorem ggX11_board_X4_allEatenOf : GoodIn wsX11_board wsX4_allEatenOf := goodIn_r _ [94, 9, 10, 95, 96, 97, 7, 98, 15, 16, 17, 18, 19, 20, 21, 79, 80, 81, 82, 26, 83, 28, 27, 84, 69, 70, 71, 85, 30, 31, 32, 33, 34, 35, 36, 37, 38, 39, 40, 41, 42, 43, 44, 45, 46, 47, 48, 49, 50, 51, 52, 53, 54, 55, 56, 57, 58, 59, 60, 61, 62, 63, 64, 65, 66, 67, 68, 72, 73, 74, 153, 154, 155, 156, 157, 158, 159, 160, 161, 162, 163, 164, 165, 166, 167, 168, 169, 170, 171, 172] (by decide +kernel) (by decide +kernel)
set_option maxRecDepth 20000 in
theorem gX11_board_X4_allEatenOf : GoodIn wsX11_board (wsV RX11 176 RX4 yX4_allEatenOf wsX4_allEatenOf) := goodIn_app (goodIn_of _ (by decide +kernel)) ggX11_board_X4_allEatenOf
set_option maxRecDepth 20000 in
theorem ggX11_board_X4_allCostOf : GoodIn wsX11_board wsX4_allCostOf := goodIn_r _ [102, 9, 10, 103, 104, 105, 7, 106, 95, 96, 97, 98, 15, 16, 17, 18, 19, 20, 21, 79, 80, 81, 82, 26, 83, 28, 27, 84, 69, 70, 71, 85, 30, 31, 32, 33, 34, 35, 36, 37, 38, 39, 40, 41, 42, 43, 44, 45, 46, 47, 48, 49, 50, 51, 52, 53, 54, 55, 56, 57, 58, 59, 60, 61, 62, 63, 64, 65, 66, 67, 68, 72, 73, 74, 86, 87, 88, 89, 90, 153, 154, 155, 156, 157, 158, 159, 160, 161, 162, 163, 164, 165, 166, 167, 168, 169, 170, 171, 172] (by decide +kernel) (by decide +kernel)
set_option maxRecDepth 20000 in
theorem gX11_board_X4_allCostOf : GoodIn wsX11_board (wsV RX11 179 RX4 yX4_allCostOf wsX4_allCostOf) := goodIn_app (goodIn_of _ (by decide +kernel)) ggX11_board_X4_allCostOf
set_option maxRecDepth 20000 in
theorem ggX11_board_X4_onlyEatersOf : GoodIn wsX11_board wsX4_onlyEatersOf := goodIn_r _ [110, 9, 10, 95, 96, 97, 7, 98, 15, 16, 17, 18, 19, 20, 21, 79, 80, 81, 82, 26, 83, 28, 27, 84, 69, 70, 71, 85, 30, 31, 32, 33, 34, 35, 36, 37, 38, 39, 40, 41, 42, 43, 44, 45, 46, 47, 48, 49, 50, 51, 52, 53, 54, 55, 56, 57, 58, 59, 60, 61, 62, 63, 64, 65, 66, 67, 68, 72, 73, 74, 22, 23, 24, 25, 29, 153, 154, 155, 156, 157, 158, 159, 160, 161, 162, 163, 164, 165, 166, 167, 168, 169, 170, 171, 172] (by decide +kernel) (by decide +kernel)
set_option maxRecDepth 20000 in
theorem gX11_board_X4_onlyEatersOf : GoodIn wsX11_board (wsV RX11 182 RX4 yX4_onlyEatersOf wsX4_onlyEatersOf) := goodIn_app (goodIn_of _ (by decide +kernel)) ggX11_board_X4_onlyEatersOf
set_option maxRecDepth 20000 in
theorem ggX11_board_X11_crowdedHour : GoodIn wsX11_board wsX11_crowdedHour := goodIn_r _ [114, 115, 1, 2, 116, 117, 118, 119, 120, 121, 122, 123, 124, 125, 126, 127, 7, 128, 9, 10, 129, 95, 96, 97, 98, 15, 16, 17, 18, 19, 20, 21, 79, 80, 81, 82, 26, 83, 28, 27, 84, 69, 70, 71, 85, 30, 31, 32, 33, 34, 35, 36, 37, 38, 39, 40, 41, 42, 43, 44, 45, 46, 47, 48, 49, 50, 51, 52, 53, 54, 55, 56, 57, 58, 59, 60, 61, 62, 63, 64, 65, 66, 67, 68, 72, 73, 74, 130, 131, 132, 133, 134, 142, 143, 144, 145, 146, 147, 148, 149, 150, 151, 152, 173, 174, 175, 153, 154, 155, 156, 157, 158, 159, 160, 161, 162, 163, 164, 165, 166, 167, 168, 169, 170, 171, 172] (by decide +kernel) (by decide +kernel)
set_option maxRecDepth 20000 in
theorem gX11_board_X11_crowdedHour : GoodIn wsX11_board (wsV RX11 185 RX11 yX11_crowdedHour wsX11_crowdedHour) := goodIn_app (goodIn_of _ (by decide +kernel)) ggX11_board_X11_crowdedHour
set_option maxRecDepth 20000 in
theorem ggX11_board_X6_thereAmong : GoodIn wsX11_board wsX6_thereAmong := goodIn_r _ [138, 139, 140, 21, 141, 16, 17, 18, 19, 20, 153, 154, 155, 156, 157, 158, 159, 160, 161, 162, 163, 164, 165] (by decide +kernel) (by decide +kernel)
set_option maxRecDepth 20000 in
theorem gX11_board_X6_thereAmong : GoodIn wsX11_board (wsV RX11 188 RX6 yX6_thereAmong wsX6_thereAmong) := goodIn_app (goodIn_of _ (by decide +kernel)) ggX11_board_X6_thereAmong
theorem dX11_board_0 : decode cX11_board 0 = .ok (.iload_n 1, 1) := by decide +kernel
theorem dX11_board_1 : decode cX11_board 1 = .ok (.tableswitch 103 0 5 #[39, 51, 63, 75, 87, 92], 39) := by decide +kernel
theorem dX11_board_40 : decode cX11_board 40 = .ok (.aload_n 0, 1) := by decide +kernel
theorem dX11_board_41 : decode cX11_board 41 = .ok (.getfield 52, 3) := by decide +kernel
theorem dX11_board_44 : decode cX11_board 44 = .ok (.aload_n 0, 1) := by decide +kernel
theorem dX11_board_45 : decode cX11_board 45 = .ok (.getfield 10, 3) := by decide +kernel
theorem dX11_board_48 : decode cX11_board 48 = .ok (.invokevirtual 172, 3) := by decide +kernel
theorem dX11_board_51 : decode cX11_board 51 = .ok (.ireturn, 1) := by decide +kernel
theorem dX11_board_52 : decode cX11_board 52 = .ok (.aload_n 0, 1) := by decide +kernel
theorem dX11_board_53 : decode cX11_board 53 = .ok (.getfield 52, 3) := by decide +kernel
theorem dX11_board_56 : decode cX11_board 56 = .ok (.aload_n 0, 1) := by decide +kernel
theorem dX11_board_57 : decode cX11_board 57 = .ok (.getfield 10, 3) := by decide +kernel
theorem dX11_board_60 : decode cX11_board 60 = .ok (.invokevirtual 176, 3) := by decide +kernel
theorem dX11_board_63 : decode cX11_board 63 = .ok (.ireturn, 1) := by decide +kernel
theorem dX11_board_64 : decode cX11_board 64 = .ok (.aload_n 0, 1) := by decide +kernel
theorem dX11_board_65 : decode cX11_board 65 = .ok (.getfield 52, 3) := by decide +kernel
theorem dX11_board_68 : decode cX11_board 68 = .ok (.aload_n 0, 1) := by decide +kernel
theorem dX11_board_69 : decode cX11_board 69 = .ok (.getfield 10, 3) := by decide +kernel
theorem dX11_board_72 : decode cX11_board 72 = .ok (.invokevirtual 179, 3) := by decide +kernel
theorem dX11_board_75 : decode cX11_board 75 = .ok (.ireturn, 1) := by decide +kernel
theorem dX11_board_76 : decode cX11_board 76 = .ok (.aload_n 0, 1) := by decide +kernel
theorem dX11_board_77 : decode cX11_board 77 = .ok (.getfield 52, 3) := by decide +kernel
theorem dX11_board_80 : decode cX11_board 80 = .ok (.aload_n 0, 1) := by decide +kernel
theorem dX11_board_81 : decode cX11_board 81 = .ok (.getfield 10, 3) := by decide +kernel
theorem dX11_board_84 : decode cX11_board 84 = .ok (.invokevirtual 182, 3) := by decide +kernel
theorem dX11_board_87 : decode cX11_board 87 = .ok (.ireturn, 1) := by decide +kernel
theorem dX11_board_88 : decode cX11_board 88 = .ok (.aload_n 0, 1) := by decide +kernel
theorem dX11_board_89 : decode cX11_board 89 = .ok (.invokevirtual 185, 3) := by decide +kernel
theorem dX11_board_92 : decode cX11_board 92 = .ok (.ireturn, 1) := by decide +kernel
theorem dX11_board_93 : decode cX11_board 93 = .ok (.aload_n 0, 1) := by decide +kernel
theorem dX11_board_94 : decode cX11_board 94 = .ok (.getfield 10, 3) := by decide +kernel
theorem dX11_board_97 : decode cX11_board 97 = .ok (.sipush 1023, 3) := by decide +kernel
theorem dX11_board_100 : decode cX11_board 100 = .ok (.invokevirtual 188, 3) := by decide +kernel
theorem dX11_board_103 : decode cX11_board 103 = .ok (.ireturn, 1) := by decide +kernel
theorem dX11_board_104 : decode cX11_board 104 = .ok (.ldc 137, 2) := by decide +kernel
theorem dX11_board_106 : decode cX11_board 106 = .ok (.ireturn, 1) := by decide +kernel
set_option maxRecDepth 20000 in
theorem ggX11_fair_X11_isZeroOrOne : GoodIn wsX11_fair wsX11_isZeroOrOne := goodIn_r _ [10] (by decide +kernel) (by decide +kernel)
set_option maxRecDepth 20000 in
theorem gX11_fair_X11_isZeroOrOne : GoodIn wsX11_fair (va_wsS RX11 191 yX11_isZeroOrOne wsX11_isZeroOrOne) := goodIn_app (goodIn_of _ (by decide +kernel)) ggX11_fair_X11_isZeroOrOne
set_option maxRecDepth 20000 in
theorem ggX11_fair_X2_lay : GoodIn wsX11_fair wsX2_lay := goodIn_r _ [15, 16, 17, 18, 19, 14, 20, 117, 118] (by decide +kernel) (by decide +kernel)
set_option maxRecDepth 20000 in
theorem gX11_fair_X2_lay : GoodIn wsX11_fair (wsV RX11 196 RX2 yX2_lay wsX2_lay) := goodIn_app (goodIn_of _ (by decide +kernel)) ggX11_fair_X2_lay
set_option maxRecDepth 20000 in
theorem ggX11_fair_X4_triesIfThere : GoodIn wsX11_fair wsX4_triesIfThere := goodIn_r _ [25, 26, 27, 28, 29, 30, 31, 32, 33, 34, 35, 24, 36, 37, 38, 39, 40, 41, 42, 43, 44, 45, 46, 47, 48, 49, 50, 51, 52, 53, 54, 55, 56, 57, 58, 59, 60, 61, 62, 63, 64, 65, 66, 67, 68, 69, 70, 71, 72, 73, 74, 75, 76, 9, 77, 78, 79, 80, 81, 82, 83, 84, 109, 110, 111, 112, 113, 114, 115, 116, 119, 120, 121, 122, 123, 124, 125, 126, 127, 128, 129, 130] (by decide +kernel) (by decide +kernel)
set_option maxRecDepth 20000 in
theorem gX11_fair_X4_triesIfThere : GoodIn wsX11_fair (wsV RX11 199 RX4 yX4_triesIfThere wsX4_triesIfThere) := goodIn_app (goodIn_of _ (by decide +kernel)) ggX11_fair_X4_triesIfThere
set_option maxRecDepth 20000 in
theorem ggX11_fair_X4_spendsOf : GoodIn wsX11_fair wsX4_spendsOf := goodIn_r _ [88, 37, 39, 40, 41, 42, 43, 44, 45, 46, 47, 48, 49, 50, 51, 52, 53, 54, 55, 56, 57, 58, 59, 60, 61, 62, 63, 64, 65, 66, 67, 68, 69, 70, 71, 72, 73, 74, 75, 76, 9, 77, 78, 79, 80, 81, 82, 83, 84, 119, 120, 121, 122, 123, 124, 109, 110, 111, 112, 113, 114, 115, 116, 125, 126, 127, 128, 129, 130] (by decide +kernel) (by decide +kernel)
set_option maxRecDepth 20000 in
theorem gX11_fair_X4_spendsOf : GoodIn wsX11_fair (wsV RX11 145 RX4 yX4_spendsOf wsX4_spendsOf) := goodIn_app (goodIn_of _ (by decide +kernel)) ggX11_fair_X4_spendsOf
set_option maxRecDepth 20000 in
theorem ggX11_fair_X2_plus : GoodIn wsX11_fair wsX2_plus := goodIn_r _ [92, 16, 17, 93, 12, 13, 14, 15, 18, 19, 20, 117, 118] (by decide +kernel) (by decide +kernel)
set_option maxRecDepth 20000 in
theorem gX11_fair_X2_plus : GoodIn wsX11_fair (wsV RX11 202 RX2 yX2_plus wsX2_plus) := goodIn_app (goodIn_of _ (by decide +kernel)) ggX11_fair_X2_plus
set_option maxRecDepth 20000 in
theorem ggX11_fair_X2_part : GoodIn wsX11_fair wsX2_part := goodIn_r _ [97, 16, 17, 117, 118] (by decide +kernel) (by decide +kernel)
set_option maxRecDepth 20000 in
theorem gX11_fair_X2_part : GoodIn wsX11_fair (wsV RX11 205 RX2 yX2_part wsX2_part) := goodIn_app (goodIn_of _ (by decide +kernel)) ggX11_fair_X2_part
theorem dX11_fair_0 : decode cX11_fair 0 = .ok (.iload_n 1, 1) := by decide +kernel
theorem dX11_fair_1 : decode cX11_fair 1 = .ok (.invokestatic 191, 3) := by decide +kernel
theorem dX11_fair_4 : decode cX11_fair 4 = .ok (.ifCond .ne 7, 3) := by decide +kernel
theorem dX11_fair_7 : decode cX11_fair 7 = .ok (.ldc2_w 194, 3) := by decide +kernel
theorem dX11_fair_10 : decode cX11_fair 10 = .ok (.lreturn, 1) := by decide +kernel
theorem dX11_fair_11 : decode cX11_fair 11 = .ok (.aload_n 0, 1) := by decide +kernel
theorem dX11_fair_12 : decode cX11_fair 12 = .ok (.getfield 66, 3) := by decide +kernel
theorem dX11_fair_15 : decode cX11_fair 15 = .ok (.lconst 0, 1) := by decide +kernel
theorem dX11_fair_16 : decode cX11_fair 16 = .ok (.lconst 1, 1) := by decide +kernel
theorem dX11_fair_17 : decode cX11_fair 17 = .ok (.invokevirtual 196, 3) := by decide +kernel
theorem dX11_fair_20 : decode cX11_fair 20 = .ok (.iconst 0, 1) := by decide +kernel
theorem dX11_fair_21 : decode cX11_fair 21 = .ok (.istore_n 2, 1) := by decide +kernel
theorem dX11_fair_22 : decode cX11_fair 22 = .ok (.iload_n 2, 1) := by decide +kernel
theorem dX11_fair_23 : decode cX11_fair 23 = .ok (.aload_n 0, 1) := by decide +kernel
theorem dX11_fair_24 : decode cX11_fair 24 = .ok (.getfield 10, 3) := by decide +kernel
theorem dX11_fair_27 : decode cX11_fair 27 = .ok (.getfield 129, 3) := by decide +kernel
theorem dX11_fair_30 : decode cX11_fair 30 = .ok (.if_icmp .ge 67, 3) := by decide +kernel
theorem dX11_fair_33 : decode cX11_fair 33 = .ok (.iload_n 2, 1) := by decide +kernel
theorem dX11_fair_34 : decode cX11_fair 34 = .ok (.bipush 8, 2) := by decide +kernel
theorem dX11_fair_36 : decode cX11_fair 36 = .ok (.if_icmp .ge 61, 3) := by decide +kernel
theorem dX11_fair_39 : decode cX11_fair 39 = .ok (.aload_n 0, 1) := by decide +kernel
theorem dX11_fair_40 : decode cX11_fair 40 = .ok (.getfield 10, 3) := by decide +kernel
theorem dX11_fair_43 : decode cX11_fair 43 = .ok (.getfield 118, 3) := by decide +kernel
theorem dX11_fair_46 : decode cX11_fair 46 = .ok (.iload_n 2, 1) := by decide +kernel
theorem dX11_fair_47 : decode cX11_fair 47 = .ok (.aaload, 1) := by decide +kernel
theorem dX11_fair_48 : decode cX11_fair 48 = .ok (.astore_n 3, 1) := by decide +kernel
theorem dX11_fair_49 : decode cX11_fair 49 = .ok (.aload_n 0, 1) := by decide +kernel
theorem dX11_fair_50 : decode cX11_fair 50 = .ok (.getfield 52, 3) := by decide +kernel
theorem dX11_fair_53 : decode cX11_fair 53 = .ok (.aload_n 0, 1) := by decide +kernel
theorem dX11_fair_54 : decode cX11_fair 54 = .ok (.getfield 10, 3) := by decide +kernel
theorem dX11_fair_57 : decode cX11_fair 57 = .ok (.aload_n 3, 1) := by decide +kernel
theorem dX11_fair_58 : decode cX11_fair 58 = .ok (.invokevirtual 199, 3) := by decide +kernel
theorem dX11_fair_61 : decode cX11_fair 61 = .ok (.istore 4, 2) := by decide +kernel
theorem dX11_fair_63 : decode cX11_fair 63 = .ok (.iload 4, 2) := by decide +kernel
theorem dX11_fair_65 : decode cX11_fair 65 = .ok (.ifCond .le 26, 3) := by decide +kernel
theorem dX11_fair_68 : decode cX11_fair 68 = .ok (.aload_n 0, 1) := by decide +kernel
theorem dX11_fair_69 : decode cX11_fair 69 = .ok (.getfield 66, 3) := by decide +kernel
theorem dX11_fair_72 : decode cX11_fair 72 = .ok (.aload_n 0, 1) := by decide +kernel
theorem dX11_fair_73 : decode cX11_fair 73 = .ok (.getfield 52, 3) := by decide +kernel
theorem dX11_fair_76 : decode cX11_fair 76 = .ok (.aload_n 0, 1) := by decide +kernel
theorem dX11_fair_77 : decode cX11_fair 77 = .ok (.getfield 10, 3) := by decide +kernel
theorem dX11_fair_80 : decode cX11_fair 80 = .ok (.aload_n 3, 1) := by decide +kernel
theorem dX11_fair_81 : decode cX11_fair 81 = .ok (.invokevirtual 145, 3) := by decide +kernel
theorem dX11_fair_84 : decode cX11_fair 84 = .ok (.i2l, 1) := by decide +kernel
theorem dX11_fair_85 : decode cX11_fair 85 = .ok (.iload 4, 2) := by decide +kernel
theorem dX11_fair_87 : decode cX11_fair 87 = .ok (.i2l, 1) := by decide +kernel
theorem dX11_fair_88 : decode cX11_fair 88 = .ok (.invokevirtual 202, 3) := by decide +kernel
theorem dX11_fair_91 : decode cX11_fair 91 = .ok (.iinc 2 1, 3) := by decide +kernel
theorem dX11_fair_94 : decode cX11_fair 94 = .ok (.goto (-72), 3) := by decide +kernel
theorem dX11_fair_97 : decode cX11_fair 97 = .ok (.aload_n 0, 1) := by decide +kernel
theorem dX11_fair_98 : decode cX11_fair 98 = .ok (.getfield 66, 3) := by decide +kernel
theorem dX11_fair_101 : decode cX11_fair 101 = .ok (.iload_n 1, 1) := by decide +kernel
theorem dX11_fair_102 : decode cX11_fair 102 = .ok (.invokevirtual 205, 3) := by decide +kernel
theorem dX11_fair_105 : decode cX11_fair 105 = .ok (.lreturn, 1) := by decide +kernel
set_option maxRecDepth 20000 in
theorem ggX11_buysOne_X11_isZeroOrOne : GoodIn wsX11_buysOne wsX11_isZeroOrOne := goodIn_r _ [12] (by decide +kernel) (by decide +kernel)
set_option maxRecDepth 20000 in
theorem gX11_buysOne_X11_isZeroOrOne : GoodIn wsX11_buysOne (va_wsS RX11 191 yX11_isZeroOrOne wsX11_isZeroOrOne) := goodIn_app (goodIn_of _ (by decide +kernel)) ggX11_buysOne_X11_isZeroOrOne
set_option maxRecDepth 20000 in
theorem ggX11_buysOne_X2_lay : GoodIn wsX11_buysOne wsX2_lay := goodIn_r _ [17, 18, 19, 20, 21, 16, 22, 115, 116] (by decide +kernel) (by decide +kernel)
set_option maxRecDepth 20000 in
theorem gX11_buysOne_X2_lay : GoodIn wsX11_buysOne (wsV RX11 196 RX2 yX2_lay wsX2_lay) := goodIn_app (goodIn_of _ (by decide +kernel)) ggX11_buysOne_X2_lay
set_option maxRecDepth 20000 in
theorem ggX11_buysOne_X4_triesIfThere : GoodIn wsX11_buysOne wsX4_triesIfThere := goodIn_r _ [27, 28, 29, 30, 31, 32, 33, 34, 35, 36, 37, 26, 38, 39, 40, 41, 42, 43, 44, 45, 46, 47, 48, 49, 50, 51, 52, 53, 54, 55, 56, 57, 58, 59, 60, 61, 62, 63, 64, 65, 66, 67, 68, 69, 70, 71, 72, 73, 74, 75, 76, 77, 78, 11, 79, 80, 81, 82, 83, 84, 85, 86, 107, 108, 109, 110, 111, 112, 113, 114, 117, 118, 119, 120, 121, 122, 123, 124, 125, 126, 127, 128] (by decide +kernel) (by decide +kernel)
set_option maxRecDepth 20000 in
theorem gX11_buysOne_X4_triesIfThere : GoodIn wsX11_buysOne (wsV RX11 199 RX4 yX4_triesIfThere wsX4_triesIfThere) := goodIn_app (goodIn_of _ (by decide +kernel)) ggX11_buysOne_X4_triesIfThere
set_option maxRecDepth 20000 in
theorem ggX11_buysOne_X2_times : GoodIn wsX11_buysOne wsX2_times := goodIn_r _ [90, 18, 19, 91, 14, 15, 16, 17, 20, 21, 22, 115, 116] (by decide +kernel) (by decide +kernel)
set_option maxRecDepth 20000 in
theorem gX11_buysOne_X2_times : GoodIn wsX11_buysOne (wsV RX11 209 RX2 yX2_times wsX2_times) := goodIn_app (goodIn_of _ (by decide +kernel)) ggX11_buysOne_X2_times
set_option maxRecDepth 20000 in
theorem ggX11_buysOne_X2_part : GoodIn wsX11_buysOne wsX2_part := goodIn_r _ [95, 18, 19, 115, 116] (by decide +kernel) (by decide +kernel)
set_option maxRecDepth 20000 in
theorem gX11_buysOne_X2_part : GoodIn wsX11_buysOne (wsV RX11 205 RX2 yX2_part wsX2_part) := goodIn_app (goodIn_of _ (by decide +kernel)) ggX11_buysOne_X2_part
theorem dX11_buysOne_0 : decode cX11_buysOne 0 = .ok (.iload_n 1, 1) := by decide +kernel
theorem dX11_buysOne_1 : decode cX11_buysOne 1 = .ok (.invokestatic 191, 3) := by decide +kernel
theorem dX11_buysOne_4 : decode cX11_buysOne 4 = .ok (.ifCond .ne 7, 3) := by decide +kernel
theorem dX11_buysOne_7 : decode cX11_buysOne 7 = .ok (.ldc2_w 194, 3) := by decide +kernel
theorem dX11_buysOne_10 : decode cX11_buysOne 10 = .ok (.lreturn, 1) := by decide +kernel
theorem dX11_buysOne_11 : decode cX11_buysOne 11 = .ok (.aload_n 0, 1) := by decide +kernel
theorem dX11_buysOne_12 : decode cX11_buysOne 12 = .ok (.getfield 66, 3) := by decide +kernel
theorem dX11_buysOne_15 : decode cX11_buysOne 15 = .ok (.lconst 1, 1) := by decide +kernel
theorem dX11_buysOne_16 : decode cX11_buysOne 16 = .ok (.lconst 1, 1) := by decide +kernel
theorem dX11_buysOne_17 : decode cX11_buysOne 17 = .ok (.invokevirtual 196, 3) := by decide +kernel
theorem dX11_buysOne_20 : decode cX11_buysOne 20 = .ok (.iconst 0, 1) := by decide +kernel
theorem dX11_buysOne_21 : decode cX11_buysOne 21 = .ok (.istore_n 2, 1) := by decide +kernel
theorem dX11_buysOne_22 : decode cX11_buysOne 22 = .ok (.iload_n 2, 1) := by decide +kernel
theorem dX11_buysOne_23 : decode cX11_buysOne 23 = .ok (.aload_n 0, 1) := by decide +kernel
theorem dX11_buysOne_24 : decode cX11_buysOne 24 = .ok (.getfield 10, 3) := by decide +kernel
theorem dX11_buysOne_27 : decode cX11_buysOne 27 = .ok (.getfield 129, 3) := by decide +kernel
theorem dX11_buysOne_30 : decode cX11_buysOne 30 = .ok (.if_icmp .ge 53, 3) := by decide +kernel
theorem dX11_buysOne_33 : decode cX11_buysOne 33 = .ok (.iload_n 2, 1) := by decide +kernel
theorem dX11_buysOne_34 : decode cX11_buysOne 34 = .ok (.bipush 8, 2) := by decide +kernel
theorem dX11_buysOne_36 : decode cX11_buysOne 36 = .ok (.if_icmp .ge 47, 3) := by decide +kernel
theorem dX11_buysOne_39 : decode cX11_buysOne 39 = .ok (.aload_n 0, 1) := by decide +kernel
theorem dX11_buysOne_40 : decode cX11_buysOne 40 = .ok (.getfield 52, 3) := by decide +kernel
theorem dX11_buysOne_43 : decode cX11_buysOne 43 = .ok (.aload_n 0, 1) := by decide +kernel
theorem dX11_buysOne_44 : decode cX11_buysOne 44 = .ok (.getfield 10, 3) := by decide +kernel
theorem dX11_buysOne_47 : decode cX11_buysOne 47 = .ok (.aload_n 0, 1) := by decide +kernel
theorem dX11_buysOne_48 : decode cX11_buysOne 48 = .ok (.getfield 10, 3) := by decide +kernel
theorem dX11_buysOne_51 : decode cX11_buysOne 51 = .ok (.getfield 118, 3) := by decide +kernel
theorem dX11_buysOne_54 : decode cX11_buysOne 54 = .ok (.iload_n 2, 1) := by decide +kernel
theorem dX11_buysOne_55 : decode cX11_buysOne 55 = .ok (.aaload, 1) := by decide +kernel
theorem dX11_buysOne_56 : decode cX11_buysOne 56 = .ok (.invokevirtual 199, 3) := by decide +kernel
theorem dX11_buysOne_59 : decode cX11_buysOne 59 = .ok (.istore_n 3, 1) := by decide +kernel
theorem dX11_buysOne_60 : decode cX11_buysOne 60 = .ok (.iload_n 3, 1) := by decide +kernel
theorem dX11_buysOne_61 : decode cX11_buysOne 61 = .ok (.ifCond .le 16, 3) := by decide +kernel
theorem dX11_buysOne_64 : decode cX11_buysOne 64 = .ok (.aload_n 0, 1) := by decide +kernel
theorem dX11_buysOne_65 : decode cX11_buysOne 65 = .ok (.getfield 66, 3) := by decide +kernel
theorem dX11_buysOne_68 : decode cX11_buysOne 68 = .ok (.iload_n 3, 1) := by decide +kernel
theorem dX11_buysOne_69 : decode cX11_buysOne 69 = .ok (.iconst 1, 1) := by decide +kernel
theorem dX11_buysOne_70 : decode cX11_buysOne 70 = .ok (.isub, 1) := by decide +kernel
theorem dX11_buysOne_71 : decode cX11_buysOne 71 = .ok (.i2l, 1) := by decide +kernel
theorem dX11_buysOne_72 : decode cX11_buysOne 72 = .ok (.iload_n 3, 1) := by decide +kernel
theorem dX11_buysOne_73 : decode cX11_buysOne 73 = .ok (.i2l, 1) := by decide +kernel
theorem dX11_buysOne_74 : decode cX11_buysOne 74 = .ok (.invokevirtual 209, 3) := by decide +kernel
theorem dX11_buysOne_77 : decode cX11_buysOne 77 = .ok (.iinc 2 1, 3) := by decide +kernel
theorem dX11_buysOne_80 : decode cX11_buysOne 80 = .ok (.goto (-58), 3) := by decide +kernel
theorem dX11_buysOne_83 : decode cX11_buysOne 83 = .ok (.aload_n 0, 1) := by decide +kernel
theorem dX11_buysOne_84 : decode cX11_buysOne 84 = .ok (.getfield 66, 3) := by decide +kernel
theorem dX11_buysOne_87 : decode cX11_buysOne 87 = .ok (.aload_n 0, 1) := by decide +kernel
theorem dX11_buysOne_88 : decode cX11_buysOne 88 = .ok (.getfield 66, 3) := by decide +kernel
theorem dX11_buysOne_91 : decode cX11_buysOne 91 = .ok (.getfield 212, 3) := by decide +kernel
theorem dX11_buysOne_94 : decode cX11_buysOne 94 = .ok (.aload_n 0, 1) := by decide +kernel
theorem dX11_buysOne_95 : decode cX11_buysOne 95 = .ok (.getfield 66, 3) := by decide +kernel
theorem dX11_buysOne_98 : decode cX11_buysOne 98 = .ok (.getfield 216, 3) := by decide +kernel
theorem dX11_buysOne_101 : decode cX11_buysOne 101 = .ok (.lsub, 1) := by decide +kernel
theorem dX11_buysOne_102 : decode cX11_buysOne 102 = .ok (.aload_n 0, 1) := by decide +kernel
theorem dX11_buysOne_103 : decode cX11_buysOne 103 = .ok (.getfield 66, 3) := by decide +kernel
theorem dX11_buysOne_106 : decode cX11_buysOne 106 = .ok (.getfield 212, 3) := by decide +kernel
theorem dX11_buysOne_109 : decode cX11_buysOne 109 = .ok (.invokevirtual 196, 3) := by decide +kernel
theorem dX11_buysOne_112 : decode cX11_buysOne 112 = .ok (.aload_n 0, 1) := by decide +kernel
theorem dX11_buysOne_113 : decode cX11_buysOne 113 = .ok (.getfield 66, 3) := by decide +kernel
theorem dX11_buysOne_116 : decode cX11_buysOne 116 = .ok (.iload_n 1, 1) := by decide +kernel
theorem dX11_buysOne_117 : decode cX11_buysOne 117 = .ok (.invokevirtual 205, 3) := by decide +kernel
theorem dX11_buysOne_120 : decode cX11_buysOne 120 = .ok (.lreturn, 1) := by decide +kernel
set_option maxRecDepth 20000 in
theorem ggX11_hour_X11_isHour : GoodIn wsX11_hour wsX11_isHour := goodIn_r _ [6] (by decide +kernel) (by decide +kernel)
set_option maxRecDepth 20000 in
theorem gX11_hour_X11_isHour : GoodIn wsX11_hour (va_wsS RX11 126 yX11_isHour wsX11_isHour) := goodIn_app (goodIn_of _ (by decide +kernel)) ggX11_hour_X11_isHour
set_option maxRecDepth 20000 in
theorem ggX11_hour_X11_isZeroOrOne : GoodIn wsX11_hour wsX11_isZeroOrOne := goodIn_r _ [9] (by decide +kernel) (by decide +kernel)
set_option maxRecDepth 20000 in
theorem gX11_hour_X11_isZeroOrOne : GoodIn wsX11_hour (va_wsS RX11 191 yX11_isZeroOrOne wsX11_isZeroOrOne) := goodIn_app (goodIn_of _ (by decide +kernel)) ggX11_hour_X11_isZeroOrOne
set_option maxRecDepth 20000 in
theorem ggX11_hour_X4_eatenIn : GoodIn wsX11_hour wsX4_eatenIn := goodIn_r _ [14, 15, 16, 17, 18, 19, 20, 13, 21, 22, 23, 24, 25, 26, 27, 28, 29, 30, 31, 32, 33, 34, 35, 36, 37, 38, 39, 40, 41, 42, 43, 44, 45, 46, 47, 48, 49, 50, 51, 52, 53, 54, 55, 56, 57, 58, 59, 60, 61, 62, 63, 64, 65, 66, 67, 68, 69, 70, 71, 72, 73, 74, 75, 76, 77, 5, 78, 79, 80, 81, 82, 101, 102, 103, 104, 105, 106, 107, 108, 109, 110, 111, 112, 113, 114, 115, 116, 117, 118, 119, 120] (by decide +kernel) (by decide +kernel)
set_option maxRecDepth 20000 in
theorem gX11_hour_X4_eatenIn : GoodIn wsX11_hour (wsV RX11 219 RX4 yX4_eatenIn wsX4_eatenIn) := goodIn_app (goodIn_of _ (by decide +kernel)) ggX11_hour_X4_eatenIn
set_option maxRecDepth 20000 in
theorem ggX11_hour_X6_thereAmong : GoodIn wsX11_hour wsX6_thereAmong := goodIn_r _ [86, 87, 88, 28, 89, 23, 24, 25, 26, 27, 101, 102, 103, 104, 105, 106, 107, 108, 109, 110, 111, 112, 113] (by decide +kernel) (by decide +kernel)
set_option maxRecDepth 20000 in
theorem gX11_hour_X6_thereAmong : GoodIn wsX11_hour (wsV RX11 188 RX6 yX6_thereAmong wsX6_thereAmong) := goodIn_app (goodIn_of _ (by decide +kernel)) ggX11_hour_X6_thereAmong
theorem dX11_hour_0 : decode cX11_hour 0 = .ok (.iload_n 1, 1) := by decide +kernel
theorem dX11_hour_1 : decode cX11_hour 1 = .ok (.invokestatic 126, 3) := by decide +kernel
theorem dX11_hour_4 : decode cX11_hour 4 = .ok (.ifCond .eq 10, 3) := by decide +kernel
theorem dX11_hour_7 : decode cX11_hour 7 = .ok (.iload_n 2, 1) := by decide +kernel
theorem dX11_hour_8 : decode cX11_hour 8 = .ok (.invokestatic 191, 3) := by decide +kernel
theorem dX11_hour_11 : decode cX11_hour 11 = .ok (.ifCond .ne 6, 3) := by decide +kernel
theorem dX11_hour_14 : decode cX11_hour 14 = .ok (.bipush (-2), 2) := by decide +kernel
theorem dX11_hour_16 : decode cX11_hour 16 = .ok (.ireturn, 1) := by decide +kernel
theorem dX11_hour_17 : decode cX11_hour 17 = .ok (.iload_n 2, 1) := by decide +kernel
theorem dX11_hour_18 : decode cX11_hour 18 = .ok (.ifCond .ne 18, 3) := by decide +kernel
theorem dX11_hour_21 : decode cX11_hour 21 = .ok (.aload_n 0, 1) := by decide +kernel
theorem dX11_hour_22 : decode cX11_hour 22 = .ok (.getfield 52, 3) := by decide +kernel
theorem dX11_hour_25 : decode cX11_hour 25 = .ok (.aload_n 0, 1) := by decide +kernel
theorem dX11_hour_26 : decode cX11_hour 26 = .ok (.getfield 10, 3) := by decide +kernel
theorem dX11_hour_29 : decode cX11_hour 29 = .ok (.iload_n 1, 1) := by decide +kernel
theorem dX11_hour_30 : decode cX11_hour 30 = .ok (.invokevirtual 219, 3) := by decide +kernel
theorem dX11_hour_33 : decode cX11_hour 33 = .ok (.goto 13, 3) := by decide +kernel
theorem dX11_hour_36 : decode cX11_hour 36 = .ok (.aload_n 0, 1) := by decide +kernel
theorem dX11_hour_37 : decode cX11_hour 37 = .ok (.getfield 10, 3) := by decide +kernel
theorem dX11_hour_40 : decode cX11_hour 40 = .ok (.iconst 1, 1) := by decide +kernel
theorem dX11_hour_41 : decode cX11_hour 41 = .ok (.iload_n 1, 1) := by decide +kernel
theorem dX11_hour_42 : decode cX11_hour 42 = .ok (.ishl, 1) := by decide +kernel
theorem dX11_hour_43 : decode cX11_hour 43 = .ok (.invokevirtual 188, 3) := by decide +kernel
theorem dX11_hour_46 : decode cX11_hour 46 = .ok (.ireturn, 1) := by decide +kernel
set_option maxRecDepth 20000 in
theorem ggX11_crowdedHour_X0_beginWith : GoodIn wsX11_crowdedHour wsX0_beginWith := goodIn_r _ [9, 10, 11, 12, 103, 104, 105] (by decide +kernel) (by decide +kernel)
set_option maxRecDepth 20000 in
theorem gX11_crowdedHour_X0_beginWith : GoodIn wsX11_crowdedHour (wsV RX11 223 RX0 yX0_beginWith wsX0_beginWith) := goodIn_app (goodIn_of _ (by decide +kernel)) ggX11_crowdedHour_X0_beginWith
set_option maxRecDepth 20000 in
theorem ggX11_crowdedHour_X4_eatenIn : GoodIn wsX11_crowdedHour wsX4_eatenIn := goodIn_r _ [17, 18, 19, 20, 21, 22, 23, 16, 24, 25, 26, 27, 28, 29, 30, 31, 32, 33, 34, 35, 36, 37, 38, 39, 40, 41, 42, 43, 44, 45, 46, 47, 48, 49, 50, 51, 52, 53, 54, 55, 56, 57, 58, 59, 60, 61, 62, 63, 64, 65, 66, 67, 68, 69, 70, 71, 72, 73, 74, 75, 76, 77, 78, 79, 80, 81, 82, 83, 84, 85, 86, 106, 107, 108, 109, 110, 111, 112, 113, 114, 115, 116, 117, 118, 119, 120, 121, 122, 123, 124, 125] (by decide +kernel) (by decide +kernel)
set_option maxRecDepth 20000 in
theorem gX11_crowdedHour_X4_eatenIn : GoodIn wsX11_crowdedHour (wsV RX11 219 RX4 yX4_eatenIn wsX4_eatenIn) := goodIn_app (goodIn_of _ (by decide +kernel)) ggX11_crowdedHour_X4_eatenIn
set_option maxRecDepth 20000 in
theorem ggX11_crowdedHour_X0_offer : GoodIn wsX11_crowdedHour wsX0_offer := goodIn_r _ [90, 10, 12, 91, 6, 7, 8, 9, 11, 103, 104, 105] (by decide +kernel) (by decide +kernel)
set_option maxRecDepth 20000 in
theorem gX11_crowdedHour_X0_offer : GoodIn wsX11_crowdedHour (wsV RX11 226 RX0 yX0_offer wsX0_offer) := goodIn_app (goodIn_of _ (by decide +kernel)) ggX11_crowdedHour_X0_offer
theorem dX11_crowdedHour_0 : decode cX11_crowdedHour 0 = .ok (.aload_n 0, 1) := by decide +kernel
theorem dX11_crowdedHour_1 : decode cX11_crowdedHour 1 = .ok (.getfield 59, 3) := by decide +kernel
theorem dX11_crowdedHour_4 : decode cX11_crowdedHour 4 = .ok (.iconst (-1), 1) := by decide +kernel
theorem dX11_crowdedHour_5 : decode cX11_crowdedHour 5 = .ok (.iconst 0, 1) := by decide +kernel
theorem dX11_crowdedHour_6 : decode cX11_crowdedHour 6 = .ok (.invokevirtual 223, 3) := by decide +kernel
theorem dX11_crowdedHour_9 : decode cX11_crowdedHour 9 = .ok (.iconst 0, 1) := by decide +kernel
theorem dX11_crowdedHour_10 : decode cX11_crowdedHour 10 = .ok (.istore_n 1, 1) := by decide +kernel
theorem dX11_crowdedHour_11 : decode cX11_crowdedHour 11 = .ok (.iload_n 1, 1) := by decide +kernel
theorem dX11_crowdedHour_12 : decode cX11_crowdedHour 12 = .ok (.bipush 10, 2) := by decide +kernel
theorem dX11_crowdedHour_14 : decode cX11_crowdedHour 14 = .ok (.if_icmp .ge 29, 3) := by decide +kernel
theorem dX11_crowdedHour_17 : decode cX11_crowdedHour 17 = .ok (.aload_n 0, 1) := by decide +kernel
theorem dX11_crowdedHour_18 : decode cX11_crowdedHour 18 = .ok (.getfield 59, 3) := by decide +kernel
theorem dX11_crowdedHour_21 : decode cX11_crowdedHour 21 = .ok (.iload_n 1, 1) := by decide +kernel
theorem dX11_crowdedHour_22 : decode cX11_crowdedHour 22 = .ok (.aload_n 0, 1) := by decide +kernel
theorem dX11_crowdedHour_23 : decode cX11_crowdedHour 23 = .ok (.getfield 52, 3) := by decide +kernel
theorem dX11_crowdedHour_26 : decode cX11_crowdedHour 26 = .ok (.aload_n 0, 1) := by decide +kernel
theorem dX11_crowdedHour_27 : decode cX11_crowdedHour 27 = .ok (.getfield 10, 3) := by decide +kernel
theorem dX11_crowdedHour_30 : decode cX11_crowdedHour 30 = .ok (.iload_n 1, 1) := by decide +kernel
theorem dX11_crowdedHour_31 : decode cX11_crowdedHour 31 = .ok (.invokevirtual 219, 3) := by decide +kernel
theorem dX11_crowdedHour_34 : decode cX11_crowdedHour 34 = .ok (.invokevirtual 226, 3) := by decide +kernel
theorem dX11_crowdedHour_37 : decode cX11_crowdedHour 37 = .ok (.iinc 1 1, 3) := by decide +kernel
theorem dX11_crowdedHour_40 : decode cX11_crowdedHour 40 = .ok (.goto (-29), 3) := by decide +kernel
theorem dX11_crowdedHour_43 : decode cX11_crowdedHour 43 = .ok (.aload_n 0, 1) := by decide +kernel
theorem dX11_crowdedHour_44 : decode cX11_crowdedHour 44 = .ok (.getfield 59, 3) := by decide +kernel
theorem dX11_crowdedHour_47 : decode cX11_crowdedHour 47 = .ok (.getfield 229, 3) := by decide +kernel
theorem dX11_crowdedHour_50 : decode cX11_crowdedHour 50 = .ok (.ireturn, 1) := by decide +kernel
set_option maxRecDepth 20000 in
theorem ggX11_cubes_X11_isZeroOrOne : GoodIn wsX11_cubes wsX11_isZeroOrOne := goodIn_r _ [5] (by decide +kernel) (by decide +kernel)
set_option maxRecDepth 20000 in
theorem gX11_cubes_X11_isZeroOrOne : GoodIn wsX11_cubes (va_wsS RX11 191 yX11_isZeroOrOne wsX11_isZeroOrOne) := goodIn_app (goodIn_of _ (by decide +kernel)) ggX11_cubes_X11_isZeroOrOne
set_option maxRecDepth 20000 in
theorem ggX11_cubes_X11_bestOf : GoodIn wsX11_cubes wsX11_bestOf := goodIn_r _ [9, 10, 11, 12, 13, 14, 15, 16, 17, 18, 19, 20, 21, 22, 23, 24, 25, 26, 27, 28, 29, 30, 31, 32, 33, 34, 35, 36, 37, 38, 39, 40, 41, 42, 43, 44, 45, 46, 47, 48, 49, 50, 51, 52, 53, 54, 55, 56, 57, 58, 59, 60, 61, 62, 63, 64, 65, 66, 67, 68, 69, 70, 71, 72, 73, 74, 75, 76, 77, 78, 79, 80, 81, 82, 83, 84, 85, 86, 87, 88, 89, 90, 91, 92, 93, 94, 95, 96, 97, 98, 99, 100, 101, 102, 103, 104, 105, 106, 107, 108, 4, 109, 110, 111, 112, 113, 114, 115, 116, 117, 118, 119, 120, 121, 122, 123, 124, 125, 126, 127, 128, 129, 130, 131, 132, 133, 134, 135, 136, 137, 138, 139, 140, 141, 142, 143, 144, 145, 146, 147, 148, 149, 150, 151, 152, 153, 154, 155, 156, 157, 158, 159, 160, 161, 162, 163, 164, 165, 166, 167, 168, 169, 170, 171, 172, 173, 174, 175, 176, 177, 178] (by decide +kernel) (by decide +kernel)
set_option maxRecDepth 20000 in
theorem gX11_cubes_X11_bestOf : GoodIn wsX11_cubes (wsV RX11 232 RX11 yX11_bestOf wsX11_bestOf) := goodIn_app (goodIn_of _ (by decide +kernel)) ggX11_cubes_X11_bestOf
theorem dX11_cubes_0 : decode cX11_cubes 0 = .ok (.iload_n 1, 1) := by decide +kernel
theorem dX11_cubes_1 : decode cX11_cubes 1 = .ok (.invokestatic 191, 3) := by decide +kernel
theorem dX11_cubes_4 : decode cX11_cubes 4 = .ok (.ifCond .eq 15, 3) := by decide +kernel
theorem dX11_cubes_7 : decode cX11_cubes 7 = .ok (.aload_n 0, 1) := by decide +kernel
theorem dX11_cubes_8 : decode cX11_cubes 8 = .ok (.iconst 0, 1) := by decide +kernel
theorem dX11_cubes_9 : decode cX11_cubes 9 = .ok (.iconst 1, 1) := by decide +kernel
theorem dX11_cubes_10 : decode cX11_cubes 10 = .ok (.bipush 40, 2) := by decide +kernel
theorem dX11_cubes_12 : decode cX11_cubes 12 = .ok (.iload_n 1, 1) := by decide +kernel
theorem dX11_cubes_13 : decode cX11_cubes 13 = .ok (.invokevirtual 232, 3) := by decide +kernel
theorem dX11_cubes_16 : decode cX11_cubes 16 = .ok (.goto 5, 3) := by decide +kernel
theorem dX11_cubes_19 : decode cX11_cubes 19 = .ok (.ldc 137, 2) := by decide +kernel
theorem dX11_cubes_21 : decode cX11_cubes 21 = .ok (.ireturn, 1) := by decide +kernel
set_option maxRecDepth 20000 in
theorem ggX11_shelf_X11_isZeroOrOne : GoodIn wsX11_shelf wsX11_isZeroOrOne := goodIn_r _ [5] (by decide +kernel) (by decide +kernel)
set_option maxRecDepth 20000 in
theorem gX11_shelf_X11_isZeroOrOne : GoodIn wsX11_shelf (va_wsS RX11 191 yX11_isZeroOrOne wsX11_isZeroOrOne) := goodIn_app (goodIn_of _ (by decide +kernel)) ggX11_shelf_X11_isZeroOrOne
set_option maxRecDepth 20000 in
theorem ggX11_shelf_X11_bestOf : GoodIn wsX11_shelf wsX11_bestOf := goodIn_r _ [9, 10, 11, 12, 13, 14, 15, 16, 17, 18, 19, 20, 21, 22, 23, 24, 25, 26, 27, 28, 29, 30, 31, 32, 33, 34, 35, 36, 37, 38, 39, 40, 41, 42, 43, 44, 45, 46, 47, 48, 49, 50, 51, 52, 53, 54, 55, 56, 57, 58, 59, 60, 61, 62, 63, 64, 65, 66, 67, 68, 69, 70, 71, 72, 73, 74, 75, 76, 77, 78, 79, 80, 81, 82, 83, 84, 85, 86, 87, 88, 89, 90, 91, 92, 93, 94, 95, 96, 97, 98, 99, 100, 101, 102, 103, 104, 105, 106, 107, 108, 4, 109, 110, 111, 112, 113, 114, 115, 116, 117, 118, 119, 120, 121, 122, 123, 124, 125, 126, 127, 128, 129, 130, 131, 132, 133, 134, 135, 136, 137, 138, 139, 140, 141, 142, 143, 144, 145, 146, 147, 148, 149, 150, 151, 152, 153, 154, 155, 156, 157, 158, 159, 160, 161, 162, 163, 164, 165, 166, 167, 168, 169, 170, 171, 172, 173, 174, 175, 176, 177, 178] (by decide +kernel) (by decide +kernel)
set_option maxRecDepth 20000 in
theorem gX11_shelf_X11_bestOf : GoodIn wsX11_shelf (wsV RX11 232 RX11 yX11_bestOf wsX11_bestOf) := goodIn_app (goodIn_of _ (by decide +kernel)) ggX11_shelf_X11_bestOf
theorem dX11_shelf_0 : decode cX11_shelf 0 = .ok (.iload_n 1, 1) := by decide +kernel
theorem dX11_shelf_1 : decode cX11_shelf 1 = .ok (.invokestatic 191, 3) := by decide +kernel
theorem dX11_shelf_4 : decode cX11_shelf 4 = .ok (.ifCond .eq 15, 3) := by decide +kernel
theorem dX11_shelf_7 : decode cX11_shelf 7 = .ok (.aload_n 0, 1) := by decide +kernel
theorem dX11_shelf_8 : decode cX11_shelf 8 = .ok (.iconst 1, 1) := by decide +kernel
theorem dX11_shelf_9 : decode cX11_shelf 9 = .ok (.iconst 1, 1) := by decide +kernel
theorem dX11_shelf_10 : decode cX11_shelf 10 = .ok (.bipush 6, 2) := by decide +kernel
theorem dX11_shelf_12 : decode cX11_shelf 12 = .ok (.iload_n 1, 1) := by decide +kernel
theorem dX11_shelf_13 : decode cX11_shelf 13 = .ok (.invokevirtual 232, 3) := by decide +kernel
theorem dX11_shelf_16 : decode cX11_shelf 16 = .ok (.goto 5, 3) := by decide +kernel
theorem dX11_shelf_19 : decode cX11_shelf 19 = .ok (.ldc 137, 2) := by decide +kernel
theorem dX11_shelf_21 : decode cX11_shelf 21 = .ok (.ireturn, 1) := by decide +kernel
set_option maxRecDepth 20000 in
theorem ggX11_apron_X11_isZeroOrOne : GoodIn wsX11_apron wsX11_isZeroOrOne := goodIn_r _ [5] (by decide +kernel) (by decide +kernel)
set_option maxRecDepth 20000 in
theorem gX11_apron_X11_isZeroOrOne : GoodIn wsX11_apron (va_wsS RX11 191 yX11_isZeroOrOne wsX11_isZeroOrOne) := goodIn_app (goodIn_of _ (by decide +kernel)) ggX11_apron_X11_isZeroOrOne
set_option maxRecDepth 20000 in
theorem ggX11_apron_X11_bestOf : GoodIn wsX11_apron wsX11_bestOf := goodIn_r _ [9, 10, 11, 12, 13, 14, 15, 16, 17, 18, 19, 20, 21, 22, 23, 24, 25, 26, 27, 28, 29, 30, 31, 32, 33, 34, 35, 36, 37, 38, 39, 40, 41, 42, 43, 44, 45, 46, 47, 48, 49, 50, 51, 52, 53, 54, 55, 56, 57, 58, 59, 60, 61, 62, 63, 64, 65, 66, 67, 68, 69, 70, 71, 72, 73, 74, 75, 76, 77, 78, 79, 80, 81, 82, 83, 84, 85, 86, 87, 88, 89, 90, 91, 92, 93, 94, 95, 96, 97, 98, 99, 100, 101, 102, 103, 104, 105, 106, 107, 108, 4, 109, 110, 111, 112, 113, 114, 115, 116, 117, 118, 119, 120, 121, 122, 123, 124, 125, 126, 127, 128, 129, 130, 131, 132, 133, 134, 135, 136, 137, 138, 139, 140, 141, 142, 143, 144, 145, 146, 147, 148, 149, 150, 151, 152, 153, 154, 155, 156, 157, 158, 159, 160, 161, 162, 163, 164, 165, 166, 167, 168, 169, 170, 171, 172, 173, 174, 175, 176, 177, 178] (by decide +kernel) (by decide +kernel)
set_option maxRecDepth 20000 in
theorem gX11_apron_X11_bestOf : GoodIn wsX11_apron (wsV RX11 232 RX11 yX11_bestOf wsX11_bestOf) := goodIn_app (goodIn_of _ (by decide +kernel)) ggX11_apron_X11_bestOf
theorem dX11_apron_0 : decode cX11_apron 0 = .ok (.iload_n 1, 1) := by decide +kernel
theorem dX11_apron_1 : decode cX11_apron 1 = .ok (.invokestatic 191, 3) := by decide +kernel
theorem dX11_apron_4 : decode cX11_apron 4 = .ok (.ifCond .eq 14, 3) := by decide +kernel
theorem dX11_apron_7 : decode cX11_apron 7 = .ok (.aload_n 0, 1) := by decide +kernel
theorem dX11_apron_8 : decode cX11_apron 8 = .ok (.iconst 2, 1) := by decide +kernel
theorem dX11_apron_9 : decode cX11_apron 9 = .ok (.iconst 0, 1) := by decide +kernel
theorem dX11_apron_10 : decode cX11_apron 10 = .ok (.iconst 1, 1) := by decide +kernel
theorem dX11_apron_11 : decode cX11_apron 11 = .ok (.iload_n 1, 1) := by decide +kernel
theorem dX11_apron_12 : decode cX11_apron 12 = .ok (.invokevirtual 232, 3) := by decide +kernel
theorem dX11_apron_15 : decode cX11_apron 15 = .ok (.goto 5, 3) := by decide +kernel
theorem dX11_apron_18 : decode cX11_apron 18 = .ok (.ldc 137, 2) := by decide +kernel
theorem dX11_apron_20 : decode cX11_apron 20 = .ok (.ireturn, 1) := by decide +kernel
set_option maxRecDepth 20000 in
theorem ggX11_stand_X11_isWithin : GoodIn wsX11_stand wsX11_isWithin := goodIn_r _ [10] (by decide +kernel) (by decide +kernel)
set_option maxRecDepth 20000 in
theorem gX11_stand_X11_isWithin : GoodIn wsX11_stand (va_wsS RX11 103 yX11_isWithin wsX11_isWithin) := goodIn_app (goodIn_of _ (by decide +kernel)) ggX11_stand_X11_isWithin
set_option maxRecDepth 20000 in
theorem ggX11_stand_X11_isZeroOrOne : GoodIn wsX11_stand wsX11_isZeroOrOne := goodIn_r _ [13] (by decide +kernel) (by decide +kernel)
set_option maxRecDepth 20000 in
theorem gX11_stand_X11_isZeroOrOne : GoodIn wsX11_stand (va_wsS RX11 191 yX11_isZeroOrOne wsX11_isZeroOrOne) := goodIn_app (goodIn_of _ (by decide +kernel)) ggX11_stand_X11_isZeroOrOne
set_option maxRecDepth 20000 in
theorem ggX11_stand_X6_become : GoodIn wsX11_stand wsX6_become := goodIn_r _ [18, 19, 20, 21, 22, 23, 24, 25, 26, 27, 28, 29, 30, 31, 32, 33, 34, 35, 36, 152, 153, 154, 155, 156, 157, 158, 159, 160, 161, 162, 163, 164] (by decide +kernel) (by decide +kernel)
set_option maxRecDepth 20000 in
theorem gX11_stand_X6_become : GoodIn wsX11_stand (wsV RX11 236 RX6 yX6_become wsX6_become) := goodIn_app (goodIn_of _ (by decide +kernel)) ggX11_stand_X6_become
set_option maxRecDepth 20000 in
theorem ggX11_stand_X0_begin : GoodIn wsX11_stand wsX0_begin := goodIn_r _ [41, 42, 43, 44, 165, 166, 167] (by decide +kernel) (by decide +kernel)
set_option maxRecDepth 20000 in
theorem gX11_stand_X0_begin : GoodIn wsX11_stand (wsV RX11 240 RX0 yX0_begin wsX0_begin) := goodIn_app (goodIn_of _ (by decide +kernel)) ggX11_stand_X0_begin
set_option maxRecDepth 20000 in
theorem ggX11_stand_X4_allGainOf : GoodIn wsX11_stand wsX4_allGainOf := goodIn_r _ [49, 50, 51, 52, 53, 54, 48, 55, 56, 57, 58, 17, 59, 22, 60, 61, 62, 63, 64, 65, 66, 67, 68, 69, 70, 71, 72, 73, 74, 75, 76, 77, 78, 79, 80, 81, 82, 83, 84, 85, 86, 87, 88, 89, 90, 91, 92, 93, 94, 95, 96, 97, 98, 99, 100, 101, 102, 103, 104, 9, 105, 106, 107, 108, 109, 110, 111, 112, 113, 114, 115, 116, 117, 118, 119, 120, 121, 122, 123, 124, 125, 126, 127, 128, 152, 153, 154, 155, 156, 157, 158, 159, 160, 161, 162, 163, 164, 168, 169, 170, 171, 172, 173, 174] (by decide +kernel) (by decide +kernel)
set_option maxRecDepth 20000 in
theorem gX11_stand_X4_allGainOf : GoodIn wsX11_stand (wsV RX11 172 RX4 yX4_allGainOf wsX4_allGainOf) := goodIn_app (goodIn_of _ (by decide +kernel)) ggX11_stand_X4_allGainOf
set_option maxRecDepth 20000 in
theorem ggX11_stand_X0_offer : GoodIn wsX11_stand wsX0_offer := goodIn_r _ [132, 42, 44, 133, 134, 135, 40, 136, 43, 165, 166, 167] (by decide +kernel) (by decide +kernel)
set_option maxRecDepth 20000 in
theorem gX11_stand_X0_offer : GoodIn wsX11_stand (wsV RX11 226 RX0 yX0_offer wsX0_offer) := goodIn_app (goodIn_of _ (by decide +kernel)) ggX11_stand_X0_offer
set_option maxRecDepth 20000 in
theorem ggX11_stand_X0_answer : GoodIn wsX11_stand wsX0_answer := goodIn_r _ [140, 43, 44, 165, 166, 167] (by decide +kernel) (by decide +kernel)
set_option maxRecDepth 20000 in
theorem gX11_stand_X0_answer : GoodIn wsX11_stand (wsV RX11 246 RX0 yX0_answer wsX0_answer) := goodIn_app (goodIn_of _ (by decide +kernel)) ggX11_stand_X0_answer
theorem dX11_stand_0 : decode cX11_stand 0 = .ok (.iload_n 1, 1) := by decide +kernel
theorem dX11_stand_1 : decode cX11_stand 1 = .ok (.iconst 0, 1) := by decide +kernel
theorem dX11_stand_2 : decode cX11_stand 2 = .ok (.bipush 10, 2) := by decide +kernel
theorem dX11_stand_4 : decode cX11_stand 4 = .ok (.invokestatic 103, 3) := by decide +kernel
theorem dX11_stand_7 : decode cX11_stand 7 = .ok (.ifCond .eq 10, 3) := by decide +kernel
theorem dX11_stand_10 : decode cX11_stand 10 = .ok (.iload_n 2, 1) := by decide +kernel
theorem dX11_stand_11 : decode cX11_stand 11 = .ok (.invokestatic 191, 3) := by decide +kernel
theorem dX11_stand_14 : decode cX11_stand 14 = .ok (.ifCond .ne 6, 3) := by decide +kernel
theorem dX11_stand_17 : decode cX11_stand 17 = .ok (.ldc 137, 2) := by decide +kernel
theorem dX11_stand_19 : decode cX11_stand 19 = .ok (.ireturn, 1) := by decide +kernel
theorem dX11_stand_20 : decode cX11_stand 20 = .ok (.aload_n 0, 1) := by decide +kernel
theorem dX11_stand_21 : decode cX11_stand 21 = .ok (.getfield 16, 3) := by decide +kernel
theorem dX11_stand_24 : decode cX11_stand 24 = .ok (.aload_n 0, 1) := by decide +kernel
theorem dX11_stand_25 : decode cX11_stand 25 = .ok (.getfield 10, 3) := by decide +kernel
theorem dX11_stand_28 : decode cX11_stand 28 = .ok (.invokevirtual 236, 3) := by decide +kernel
theorem dX11_stand_31 : decode cX11_stand 31 = .ok (.aload_n 0, 1) := by decide +kernel
theorem dX11_stand_32 : decode cX11_stand 32 = .ok (.getfield 59, 3) := by decide +kernel
theorem dX11_stand_35 : decode cX11_stand 35 = .ok (.invokevirtual 240, 3) := by decide +kernel
theorem dX11_stand_38 : decode cX11_stand 38 = .ok (.iconst 0, 1) := by decide +kernel
theorem dX11_stand_39 : decode cX11_stand 39 = .ok (.istore_n 3, 1) := by decide +kernel
theorem dX11_stand_40 : decode cX11_stand 40 = .ok (.iload_n 3, 1) := by decide +kernel
theorem dX11_stand_41 : decode cX11_stand 41 = .ok (.bipush 10, 2) := by decide +kernel
theorem dX11_stand_43 : decode cX11_stand 43 = .ok (.iload_n 1, 1) := by decide +kernel
theorem dX11_stand_44 : decode cX11_stand 44 = .ok (.isub, 1) := by decide +kernel
theorem dX11_stand_45 : decode cX11_stand 45 = .ok (.if_icmp .gt 42, 3) := by decide +kernel
theorem dX11_stand_48 : decode cX11_stand 48 = .ok (.aload_n 0, 1) := by decide +kernel
theorem dX11_stand_49 : decode cX11_stand 49 = .ok (.getfield 16, 3) := by decide +kernel
theorem dX11_stand_52 : decode cX11_stand 52 = .ok (.iconst 1, 1) := by decide +kernel
theorem dX11_stand_53 : decode cX11_stand 53 = .ok (.iload_n 1, 1) := by decide +kernel
theorem dX11_stand_54 : decode cX11_stand 54 = .ok (.ishl, 1) := by decide +kernel
theorem dX11_stand_55 : decode cX11_stand 55 = .ok (.iconst 1, 1) := by decide +kernel
theorem dX11_stand_56 : decode cX11_stand 56 = .ok (.isub, 1) := by decide +kernel
theorem dX11_stand_57 : decode cX11_stand 57 = .ok (.iload_n 3, 1) := by decide +kernel
theorem dX11_stand_58 : decode cX11_stand 58 = .ok (.ishl, 1) := by decide +kernel
theorem dX11_stand_59 : decode cX11_stand 59 = .ok (.putfield 243, 3) := by decide +kernel
theorem dX11_stand_62 : decode cX11_stand 62 = .ok (.aload_n 0, 1) := by decide +kernel
theorem dX11_stand_63 : decode cX11_stand 63 = .ok (.getfield 59, 3) := by decide +kernel
theorem dX11_stand_66 : decode cX11_stand 66 = .ok (.iload_n 3, 1) := by decide +kernel
theorem dX11_stand_67 : decode cX11_stand 67 = .ok (.aload_n 0, 1) := by decide +kernel
theorem dX11_stand_68 : decode cX11_stand 68 = .ok (.getfield 52, 3) := by decide +kernel
theorem dX11_stand_71 : decode cX11_stand 71 = .ok (.aload_n 0, 1) := by decide +kernel
theorem dX11_stand_72 : decode cX11_stand 72 = .ok (.getfield 16, 3) := by decide +kernel
theorem dX11_stand_75 : decode cX11_stand 75 = .ok (.invokevirtual 172, 3) := by decide +kernel
theorem dX11_stand_78 : decode cX11_stand 78 = .ok (.invokevirtual 226, 3) := by decide +kernel
theorem dX11_stand_81 : decode cX11_stand 81 = .ok (.iinc 3 1, 3) := by decide +kernel
theorem dX11_stand_84 : decode cX11_stand 84 = .ok (.goto (-44), 3) := by decide +kernel
theorem dX11_stand_87 : decode cX11_stand 87 = .ok (.aload_n 0, 1) := by decide +kernel
theorem dX11_stand_88 : decode cX11_stand 88 = .ok (.getfield 59, 3) := by decide +kernel
theorem dX11_stand_91 : decode cX11_stand 91 = .ok (.iload_n 2, 1) := by decide +kernel
theorem dX11_stand_92 : decode cX11_stand 92 = .ok (.invokevirtual 246, 3) := by decide +kernel
theorem dX11_stand_95 : decode cX11_stand 95 = .ok (.ireturn, 1) := by decide +kernel
set_option maxRecDepth 20000 in
theorem ggX11_setting_X11_isZeroOrOne : GoodIn wsX11_setting wsX11_isZeroOrOne := goodIn_r _ [12] (by decide +kernel) (by decide +kernel)
set_option maxRecDepth 20000 in
theorem gX11_setting_X11_isZeroOrOne : GoodIn wsX11_setting (va_wsS RX11 191 yX11_isZeroOrOne wsX11_isZeroOrOne) := goodIn_app (goodIn_of _ (by decide +kernel)) ggX11_setting_X11_isZeroOrOne
set_option maxRecDepth 20000 in
theorem ggX11_setting_X6_become : GoodIn wsX11_setting wsX6_become := goodIn_r _ [17, 18, 19, 20, 21, 22, 23, 24, 25, 26, 27, 28, 29, 30, 31, 32, 33, 34, 35, 151, 152, 153, 154, 155, 156, 157, 158, 159, 160, 161, 162, 163] (by decide +kernel) (by decide +kernel)
set_option maxRecDepth 20000 in
theorem gX11_setting_X6_become : GoodIn wsX11_setting (wsV RX11 236 RX6 yX6_become wsX6_become) := goodIn_app (goodIn_of _ (by decide +kernel)) ggX11_setting_X6_become
set_option maxRecDepth 20000 in
theorem ggX11_setting_X0_begin : GoodIn wsX11_setting wsX0_begin := goodIn_r _ [40, 41, 42, 43, 164, 165, 166] (by decide +kernel) (by decide +kernel)
set_option maxRecDepth 20000 in
theorem gX11_setting_X0_begin : GoodIn wsX11_setting (wsV RX11 240 RX0 yX0_begin wsX0_begin) := goodIn_app (goodIn_of _ (by decide +kernel)) ggX11_setting_X0_begin
set_option maxRecDepth 20000 in
theorem ggX11_setting_X4_allGainOf : GoodIn wsX11_setting wsX4_allGainOf := goodIn_r _ [48, 49, 50, 51, 52, 53, 47, 54, 55, 56, 57, 16, 58, 21, 59, 60, 61, 62, 63, 64, 65, 66, 67, 68, 69, 70, 71, 72, 73, 74, 75, 76, 77, 78, 79, 80, 81, 82, 83, 84, 85, 86, 87, 88, 89, 90, 91, 92, 93, 94, 95, 96, 97, 98, 99, 100, 101, 102, 103, 11, 104, 105, 106, 107, 108, 109, 110, 111, 112, 113, 114, 115, 116, 117, 118, 119, 120, 121, 122, 123, 124, 125, 126, 127, 151, 152, 153, 154, 155, 156, 157, 158, 159, 160, 161, 162, 163, 167, 168, 169, 170, 171, 172, 173] (by decide +kernel) (by decide +kernel)
set_option maxRecDepth 20000 in
theorem gX11_setting_X4_allGainOf : GoodIn wsX11_setting (wsV RX11 172 RX4 yX4_allGainOf wsX4_allGainOf) := goodIn_app (goodIn_of _ (by decide +kernel)) ggX11_setting_X4_allGainOf
set_option maxRecDepth 20000 in
theorem ggX11_setting_X0_offer : GoodIn wsX11_setting wsX0_offer := goodIn_r _ [131, 41, 43, 132, 133, 134, 39, 135, 42, 164, 165, 166] (by decide +kernel) (by decide +kernel)
set_option maxRecDepth 20000 in
theorem gX11_setting_X0_offer : GoodIn wsX11_setting (wsV RX11 226 RX0 yX0_offer wsX0_offer) := goodIn_app (goodIn_of _ (by decide +kernel)) ggX11_setting_X0_offer
set_option maxRecDepth 20000 in
theorem ggX11_setting_X0_answer : GoodIn wsX11_setting wsX0_answer := goodIn_r _ [139, 42, 43, 164, 165, 166] (by decide +kernel) (by decide +kernel)
set_option maxRecDepth 20000 in
theorem gX11_setting_X0_answer : GoodIn wsX11_setting (wsV RX11 246 RX0 yX0_answer wsX0_answer) := goodIn_app (goodIn_of _ (by decide +kernel)) ggX11_setting_X0_answer
theorem dX11_setting_0 : decode cX11_setting 0 = .ok (.iload_n 1, 1) := by decide +kernel
theorem dX11_setting_1 : decode cX11_setting 1 = .ok (.invokestatic 191, 3) := by decide +kernel
theorem dX11_setting_4 : decode cX11_setting 4 = .ok (.ifCond .ne 6, 3) := by decide +kernel
theorem dX11_setting_7 : decode cX11_setting 7 = .ok (.ldc 137, 2) := by decide +kernel
theorem dX11_setting_9 : decode cX11_setting 9 = .ok (.ireturn, 1) := by decide +kernel
theorem dX11_setting_10 : decode cX11_setting 10 = .ok (.aload_n 0, 1) := by decide +kernel
theorem dX11_setting_11 : decode cX11_setting 11 = .ok (.getfield 16, 3) := by decide +kernel
theorem dX11_setting_14 : decode cX11_setting 14 = .ok (.aload_n 0, 1) := by decide +kernel
theorem dX11_setting_15 : decode cX11_setting 15 = .ok (.getfield 10, 3) := by decide +kernel
theorem dX11_setting_18 : decode cX11_setting 18 = .ok (.invokevirtual 236, 3) := by decide +kernel
theorem dX11_setting_21 : decode cX11_setting 21 = .ok (.aload_n 0, 1) := by decide +kernel
theorem dX11_setting_22 : decode cX11_setting 22 = .ok (.getfield 59, 3) := by decide +kernel
theorem dX11_setting_25 : decode cX11_setting 25 = .ok (.invokevirtual 240, 3) := by decide +kernel
theorem dX11_setting_28 : decode cX11_setting 28 = .ok (.iconst 1, 1) := by decide +kernel
theorem dX11_setting_29 : decode cX11_setting 29 = .ok (.istore_n 2, 1) := by decide +kernel
theorem dX11_setting_30 : decode cX11_setting 30 = .ok (.iload_n 2, 1) := by decide +kernel
theorem dX11_setting_31 : decode cX11_setting 31 = .ok (.bipush 40, 2) := by decide +kernel
theorem dX11_setting_33 : decode cX11_setting 33 = .ok (.if_icmp .gt 93, 3) := by decide +kernel
theorem dX11_setting_36 : decode cX11_setting 36 = .ok (.aload_n 0, 1) := by decide +kernel
theorem dX11_setting_37 : decode cX11_setting 37 = .ok (.getfield 16, 3) := by decide +kernel
theorem dX11_setting_40 : decode cX11_setting 40 = .ok (.iload_n 2, 1) := by decide +kernel
theorem dX11_setting_41 : decode cX11_setting 41 = .ok (.putfield 249, 3) := by decide +kernel
theorem dX11_setting_44 : decode cX11_setting 44 = .ok (.iconst 1, 1) := by decide +kernel
theorem dX11_setting_45 : decode cX11_setting 45 = .ok (.istore_n 3, 1) := by decide +kernel
theorem dX11_setting_46 : decode cX11_setting 46 = .ok (.iload_n 3, 1) := by decide +kernel
theorem dX11_setting_47 : decode cX11_setting 47 = .ok (.bipush 6, 2) := by decide +kernel
theorem dX11_setting_49 : decode cX11_setting 49 = .ok (.if_icmp .gt 71, 3) := by decide +kernel
theorem dX11_setting_52 : decode cX11_setting 52 = .ok (.aload_n 0, 1) := by decide +kernel
theorem dX11_setting_53 : decode cX11_setting 53 = .ok (.getfield 16, 3) := by decide +kernel
theorem dX11_setting_56 : decode cX11_setting 56 = .ok (.iload_n 3, 1) := by decide +kernel
theorem dX11_setting_57 : decode cX11_setting 57 = .ok (.putfield 252, 3) := by decide +kernel
theorem dX11_setting_60 : decode cX11_setting 60 = .ok (.iconst 0, 1) := by decide +kernel
theorem dX11_setting_61 : decode cX11_setting 61 = .ok (.istore 4, 2) := by decide +kernel
theorem dX11_setting_63 : decode cX11_setting 63 = .ok (.iload 4, 2) := by decide +kernel
theorem dX11_setting_65 : decode cX11_setting 65 = .ok (.iconst 1, 1) := by decide +kernel
theorem dX11_setting_66 : decode cX11_setting 66 = .ok (.if_icmp .gt 48, 3) := by decide +kernel
theorem dX11_setting_69 : decode cX11_setting 69 = .ok (.aload_n 0, 1) := by decide +kernel
theorem dX11_setting_70 : decode cX11_setting 70 = .ok (.getfield 16, 3) := by decide +kernel
theorem dX11_setting_73 : decode cX11_setting 73 = .ok (.iload 4, 2) := by decide +kernel
theorem dX11_setting_75 : decode cX11_setting 75 = .ok (.putfield 255, 3) := by decide +kernel
theorem dX11_setting_78 : decode cX11_setting 78 = .ok (.aload_n 0, 1) := by decide +kernel
theorem dX11_setting_79 : decode cX11_setting 79 = .ok (.getfield 59, 3) := by decide +kernel
theorem dX11_setting_82 : decode cX11_setting 82 = .ok (.bipush 100, 2) := by decide +kernel
theorem dX11_setting_84 : decode cX11_setting 84 = .ok (.iload_n 2, 1) := by decide +kernel
theorem dX11_setting_85 : decode cX11_setting 85 = .ok (.imul, 1) := by decide +kernel
theorem dX11_setting_86 : decode cX11_setting 86 = .ok (.bipush 10, 2) := by decide +kernel
theorem dX11_setting_88 : decode cX11_setting 88 = .ok (.iload_n 3, 1) := by decide +kernel
theorem dX11_setting_89 : decode cX11_setting 89 = .ok (.imul, 1) := by decide +kernel
theorem dX11_setting_90 : decode cX11_setting 90 = .ok (.iadd, 1) := by decide +kernel
theorem dX11_setting_91 : decode cX11_setting 91 = .ok (.iload 4, 2) := by decide +kernel
theorem dX11_setting_93 : decode cX11_setting 93 = .ok (.iadd, 1) := by decide +kernel
theorem dX11_setting_94 : decode cX11_setting 94 = .ok (.aload_n 0, 1) := by decide +kernel
theorem dX11_setting_95 : decode cX11_setting 95 = .ok (.getfield 52, 3) := by decide +kernel
theorem dX11_setting_98 : decode cX11_setting 98 = .ok (.aload_n 0, 1) := by decide +kernel
theorem dX11_setting_99 : decode cX11_setting 99 = .ok (.getfield 16, 3) := by decide +kernel
theorem dX11_setting_102 : decode cX11_setting 102 = .ok (.invokevirtual 172, 3) := by decide +kernel
theorem dX11_setting_105 : decode cX11_setting 105 = .ok (.invokevirtual 226, 3) := by decide +kernel
theorem dX11_setting_108 : decode cX11_setting 108 = .ok (.iinc 4 1, 3) := by decide +kernel
theorem dX11_setting_111 : decode cX11_setting 111 = .ok (.goto (-48), 3) := by decide +kernel
theorem dX11_setting_114 : decode cX11_setting 114 = .ok (.iinc 3 1, 3) := by decide +kernel
theorem dX11_setting_117 : decode cX11_setting 117 = .ok (.goto (-71), 3) := by decide +kernel
theorem dX11_setting_120 : decode cX11_setting 120 = .ok (.iinc 2 1, 3) := by decide +kernel
theorem dX11_setting_123 : decode cX11_setting 123 = .ok (.goto (-93), 3) := by decide +kernel
theorem dX11_setting_126 : decode cX11_setting 126 = .ok (.aload_n 0, 1) := by decide +kernel
theorem dX11_setting_127 : decode cX11_setting 127 = .ok (.getfield 59, 3) := by decide +kernel
theorem dX11_setting_130 : decode cX11_setting 130 = .ok (.iload_n 1, 1) := by decide +kernel
theorem dX11_setting_131 : decode cX11_setting 131 = .ok (.invokevirtual 246, 3) := by decide +kernel
theorem dX11_setting_134 : decode cX11_setting 134 = .ok (.ireturn, 1) := by decide +kernel
set_option maxRecDepth 20000 in
theorem ggX11_sendAway_X11_isZeroOrOne : GoodIn wsX11_sendAway wsX11_isZeroOrOne := goodIn_r _ [10] (by decide +kernel) (by decide +kernel)
set_option maxRecDepth 20000 in
theorem gX11_sendAway_X11_isZeroOrOne : GoodIn wsX11_sendAway (va_wsS RX11 191 yX11_isZeroOrOne wsX11_isZeroOrOne) := goodIn_app (goodIn_of _ (by decide +kernel)) ggX11_sendAway_X11_isZeroOrOne
set_option maxRecDepth 20000 in
theorem ggX11_sendAway_X4_allGainOf : GoodIn wsX11_sendAway wsX4_allGainOf := goodIn_r _ [15, 16, 17, 18, 19, 20, 14, 21, 22, 23, 24, 25, 26, 27, 28, 29, 30, 31, 32, 33, 34, 35, 36, 37, 38, 39, 40, 41, 42, 43, 44, 45, 46, 47, 48, 49, 50, 51, 52, 53, 54, 55, 56, 57, 58, 59, 60, 61, 62, 63, 64, 65, 66, 67, 68, 69, 70, 71, 72, 9, 73, 74, 75, 76, 77, 78, 79, 80, 81, 82, 83, 84, 85, 86, 87, 88, 89, 90, 91, 92, 93, 94, 95, 96, 126, 127, 128, 129, 130, 131, 132, 133, 134, 135, 136, 137, 138, 139, 140, 141, 142, 143, 144, 145] (by decide +kernel) (by decide +kernel)
set_option maxRecDepth 20000 in
theorem gX11_sendAway_X4_allGainOf : GoodIn wsX11_sendAway (wsV RX11 172 RX4 yX4_allGainOf wsX4_allGainOf) := goodIn_app (goodIn_of _ (by decide +kernel)) ggX11_sendAway_X4_allGainOf
set_option maxRecDepth 20000 in
theorem ggX11_sendAway_X0_beginWith : GoodIn wsX11_sendAway wsX0_beginWith := goodIn_r _ [101, 102, 103, 104, 146, 147, 148] (by decide +kernel) (by decide +kernel)
set_option maxRecDepth 20000 in
theorem gX11_sendAway_X0_beginWith : GoodIn wsX11_sendAway (wsV RX11 223 RX0 yX0_beginWith wsX0_beginWith) := goodIn_app (goodIn_of _ (by decide +kernel)) ggX11_sendAway_X0_beginWith
set_option maxRecDepth 20000 in
theorem ggX11_sendAway_X4_gainOf : GoodIn wsX11_sendAway wsX4_gainOf := goodIn_r _ [21, 22, 23, 24, 25, 26, 27, 28, 29, 30, 31, 14, 32, 33, 34, 35, 36, 37, 38, 39, 40, 41, 42, 43, 44, 45, 46, 47, 48, 49, 50, 51, 52, 53, 54, 55, 56, 57, 58, 59, 60, 61, 62, 63, 64, 65, 66, 67, 68, 69, 70, 71, 72, 9, 73, 74, 75, 76, 77, 78, 79, 80, 81, 82, 83, 84, 85, 86, 87, 88, 89, 90, 91, 92, 93, 94, 95, 96, 126, 127, 128, 129, 130, 131, 132, 133, 134, 135, 136, 137, 138, 139, 140, 141, 142, 143, 144, 145] (by decide +kernel) (by decide +kernel)
set_option maxRecDepth 20000 in
theorem gX11_sendAway_X4_gainOf : GoodIn wsX11_sendAway (wsV RX11 155 RX4 yX4_gainOf wsX4_gainOf) := goodIn_app (goodIn_of _ (by decide +kernel)) ggX11_sendAway_X4_gainOf
set_option maxRecDepth 20000 in
theorem ggX11_sendAway_X0_offer : GoodIn wsX11_sendAway wsX0_offer := goodIn_r _ [109, 102, 104, 110, 98, 99, 100, 101, 103, 146, 147, 148] (by decide +kernel) (by decide +kernel)
set_option maxRecDepth 20000 in
theorem gX11_sendAway_X0_offer : GoodIn wsX11_sendAway (wsV RX11 226 RX0 yX0_offer wsX0_offer) := goodIn_app (goodIn_of _ (by decide +kernel)) ggX11_sendAway_X0_offer
set_option maxRecDepth 20000 in
theorem ggX11_sendAway_X0_answer : GoodIn wsX11_sendAway wsX0_answer := goodIn_r _ [114, 103, 104, 146, 147, 148] (by decide +kernel) (by decide +kernel)
set_option maxRecDepth 20000 in
theorem gX11_sendAway_X0_answer : GoodIn wsX11_sendAway (wsV RX11 246 RX0 yX0_answer wsX0_answer) := goodIn_app (goodIn_of _ (by decide +kernel)) ggX11_sendAway_X0_answer
theorem dX11_sendAway_0 : decode cX11_sendAway 0 = .ok (.iload_n 1, 1) := by decide +kernel
theorem dX11_sendAway_1 : decode cX11_sendAway 1 = .ok (.invokestatic 191, 3) := by decide +kernel
theorem dX11_sendAway_4 : decode cX11_sendAway 4 = .ok (.ifCond .ne 6, 3) := by decide +kernel
theorem dX11_sendAway_7 : decode cX11_sendAway 7 = .ok (.ldc 137, 2) := by decide +kernel
theorem dX11_sendAway_9 : decode cX11_sendAway 9 = .ok (.ireturn, 1) := by decide +kernel
theorem dX11_sendAway_10 : decode cX11_sendAway 10 = .ok (.aload_n 0, 1) := by decide +kernel
theorem dX11_sendAway_11 : decode cX11_sendAway 11 = .ok (.getfield 52, 3) := by decide +kernel
theorem dX11_sendAway_14 : decode cX11_sendAway 14 = .ok (.aload_n 0, 1) := by decide +kernel
theorem dX11_sendAway_15 : decode cX11_sendAway 15 = .ok (.getfield 10, 3) := by decide +kernel
theorem dX11_sendAway_18 : decode cX11_sendAway 18 = .ok (.invokevirtual 172, 3) := by decide +kernel
theorem dX11_sendAway_21 : decode cX11_sendAway 21 = .ok (.istore_n 2, 1) := by decide +kernel
theorem dX11_sendAway_22 : decode cX11_sendAway 22 = .ok (.aload_n 0, 1) := by decide +kernel
theorem dX11_sendAway_23 : decode cX11_sendAway 23 = .ok (.getfield 59, 3) := by decide +kernel
theorem dX11_sendAway_26 : decode cX11_sendAway 26 = .ok (.iconst (-1), 1) := by decide +kernel
theorem dX11_sendAway_27 : decode cX11_sendAway 27 = .ok (.iload_n 2, 1) := by decide +kernel
theorem dX11_sendAway_28 : decode cX11_sendAway 28 = .ok (.invokevirtual 223, 3) := by decide +kernel
theorem dX11_sendAway_31 : decode cX11_sendAway 31 = .ok (.iconst 0, 1) := by decide +kernel
theorem dX11_sendAway_32 : decode cX11_sendAway 32 = .ok (.istore_n 3, 1) := by decide +kernel
theorem dX11_sendAway_33 : decode cX11_sendAway 33 = .ok (.iload_n 3, 1) := by decide +kernel
theorem dX11_sendAway_34 : decode cX11_sendAway 34 = .ok (.aload_n 0, 1) := by decide +kernel
theorem dX11_sendAway_35 : decode cX11_sendAway 35 = .ok (.getfield 10, 3) := by decide +kernel
theorem dX11_sendAway_38 : decode cX11_sendAway 38 = .ok (.getfield 129, 3) := by decide +kernel
theorem dX11_sendAway_41 : decode cX11_sendAway 41 = .ok (.if_icmp .ge 45, 3) := by decide +kernel
theorem dX11_sendAway_44 : decode cX11_sendAway 44 = .ok (.iload_n 3, 1) := by decide +kernel
theorem dX11_sendAway_45 : decode cX11_sendAway 45 = .ok (.bipush 8, 2) := by decide +kernel
theorem dX11_sendAway_47 : decode cX11_sendAway 47 = .ok (.if_icmp .ge 39, 3) := by decide +kernel
theorem dX11_sendAway_50 : decode cX11_sendAway 50 = .ok (.aload_n 0, 1) := by decide +kernel
theorem dX11_sendAway_51 : decode cX11_sendAway 51 = .ok (.getfield 59, 3) := by decide +kernel
theorem dX11_sendAway_54 : decode cX11_sendAway 54 = .ok (.iload_n 3, 1) := by decide +kernel
theorem dX11_sendAway_55 : decode cX11_sendAway 55 = .ok (.iload_n 2, 1) := by decide +kernel
theorem dX11_sendAway_56 : decode cX11_sendAway 56 = .ok (.aload_n 0, 1) := by decide +kernel
theorem dX11_sendAway_57 : decode cX11_sendAway 57 = .ok (.getfield 52, 3) := by decide +kernel
theorem dX11_sendAway_60 : decode cX11_sendAway 60 = .ok (.aload_n 0, 1) := by decide +kernel
theorem dX11_sendAway_61 : decode cX11_sendAway 61 = .ok (.getfield 10, 3) := by decide +kernel
theorem dX11_sendAway_64 : decode cX11_sendAway 64 = .ok (.aload_n 0, 1) := by decide +kernel
theorem dX11_sendAway_65 : decode cX11_sendAway 65 = .ok (.getfield 10, 3) := by decide +kernel
theorem dX11_sendAway_68 : decode cX11_sendAway 68 = .ok (.getfield 118, 3) := by decide +kernel
theorem dX11_sendAway_71 : decode cX11_sendAway 71 = .ok (.iload_n 3, 1) := by decide +kernel
theorem dX11_sendAway_72 : decode cX11_sendAway 72 = .ok (.aaload, 1) := by decide +kernel
theorem dX11_sendAway_73 : decode cX11_sendAway 73 = .ok (.invokevirtual 155, 3) := by decide +kernel
theorem dX11_sendAway_76 : decode cX11_sendAway 76 = .ok (.isub, 1) := by decide +kernel
theorem dX11_sendAway_77 : decode cX11_sendAway 77 = .ok (.invokevirtual 226, 3) := by decide +kernel
theorem dX11_sendAway_80 : decode cX11_sendAway 80 = .ok (.iinc 3 1, 3) := by decide +kernel
theorem dX11_sendAway_83 : decode cX11_sendAway 83 = .ok (.goto (-50), 3) := by decide +kernel
theorem dX11_sendAway_86 : decode cX11_sendAway 86 = .ok (.aload_n 0, 1) := by decide +kernel
theorem dX11_sendAway_87 : decode cX11_sendAway 87 = .ok (.getfield 59, 3) := by decide +kernel
theorem dX11_sendAway_90 : decode cX11_sendAway 90 = .ok (.iload_n 1, 1) := by decide +kernel
theorem dX11_sendAway_91 : decode cX11_sendAway 91 = .ok (.invokevirtual 246, 3) := by decide +kernel
theorem dX11_sendAway_94 : decode cX11_sendAway 94 = .ok (.ireturn, 1) := by decide +kernel
set_option maxRecDepth 20000 in
theorem ggX11_lost_X6_has : GoodIn wsX11_lost wsX6_has := goodIn_r _ [10, 11, 123, 124, 125, 126, 127, 128, 129, 130] (by decide +kernel) (by decide +kernel)
set_option maxRecDepth 20000 in
theorem gX11_lost_X6_has : GoodIn wsX11_lost (wsV RX11 115 RX6 yX6_has wsX6_has) := goodIn_app (goodIn_of _ (by decide +kernel)) ggX11_lost_X6_has
set_option maxRecDepth 20000 in
theorem ggX11_lost_X6_become : GoodIn wsX11_lost wsX6_become := goodIn_r _ [15, 16, 17, 18, 19, 20, 21, 11, 22, 23, 24, 25, 26, 27, 28, 29, 30, 31, 32, 123, 124, 125, 126, 127, 128, 129, 130, 131, 132, 133, 134, 135] (by decide +kernel) (by decide +kernel)
set_option maxRecDepth 20000 in
theorem gX11_lost_X6_become : GoodIn wsX11_lost (wsV RX11 236 RX6 yX6_become wsX6_become) := goodIn_app (goodIn_of _ (by decide +kernel)) ggX11_lost_X6_become
set_option maxRecDepth 20000 in
theorem ggX11_lost_X4_gainOf : GoodIn wsX11_lost wsX4_gainOf := goodIn_r _ [37, 38, 39, 40, 9, 41, 19, 42, 43, 44, 45, 36, 46, 47, 48, 49, 50, 51, 52, 53, 54, 55, 56, 57, 58, 59, 60, 61, 62, 63, 64, 65, 66, 67, 68, 69, 70, 71, 72, 73, 74, 75, 76, 77, 78, 79, 80, 81, 82, 83, 84, 85, 86, 87, 88, 89, 90, 91, 92, 93, 94, 95, 96, 97, 98, 99, 100, 101, 102, 103, 104, 105, 106, 107, 108, 109, 110, 111, 123, 124, 125, 126, 127, 128, 129, 130, 131, 132, 133, 134, 135, 136, 137, 138, 139, 140, 141, 142] (by decide +kernel) (by decide +kernel)
set_option maxRecDepth 20000 in
theorem gX11_lost_X4_gainOf : GoodIn wsX11_lost (wsV RX11 155 RX4 yX4_gainOf wsX4_gainOf) := goodIn_app (goodIn_of _ (by decide +kernel)) ggX11_lost_X4_gainOf
theorem dX11_lost_0 : decode cX11_lost 0 = .ok (.aload_n 0, 1) := by decide +kernel
theorem dX11_lost_1 : decode cX11_lost 1 = .ok (.getfield 10, 3) := by decide +kernel
theorem dX11_lost_4 : decode cX11_lost 4 = .ok (.iload_n 1, 1) := by decide +kernel
theorem dX11_lost_5 : decode cX11_lost 5 = .ok (.invokevirtual 115, 3) := by decide +kernel
theorem dX11_lost_8 : decode cX11_lost 8 = .ok (.ifCond .ne 6, 3) := by decide +kernel
theorem dX11_lost_11 : decode cX11_lost 11 = .ok (.bipush (-2), 2) := by decide +kernel
theorem dX11_lost_13 : decode cX11_lost 13 = .ok (.ireturn, 1) := by decide +kernel
theorem dX11_lost_14 : decode cX11_lost 14 = .ok (.aload_n 0, 1) := by decide +kernel
theorem dX11_lost_15 : decode cX11_lost 15 = .ok (.getfield 16, 3) := by decide +kernel
theorem dX11_lost_18 : decode cX11_lost 18 = .ok (.aload_n 0, 1) := by decide +kernel
theorem dX11_lost_19 : decode cX11_lost 19 = .ok (.getfield 10, 3) := by decide +kernel
theorem dX11_lost_22 : decode cX11_lost 22 = .ok (.invokevirtual 236, 3) := by decide +kernel
theorem dX11_lost_25 : decode cX11_lost 25 = .ok (.iconst (-1), 1) := by decide +kernel
theorem dX11_lost_26 : decode cX11_lost 26 = .ok (.istore_n 2, 1) := by decide +kernel
theorem dX11_lost_27 : decode cX11_lost 27 = .ok (.bipush 40, 2) := by decide +kernel
theorem dX11_lost_29 : decode cX11_lost 29 = .ok (.istore_n 3, 1) := by decide +kernel
theorem dX11_lost_30 : decode cX11_lost 30 = .ok (.iload_n 3, 1) := by decide +kernel
theorem dX11_lost_31 : decode cX11_lost 31 = .ok (.iconst 1, 1) := by decide +kernel
theorem dX11_lost_32 : decode cX11_lost 32 = .ok (.if_icmp .lt 44, 3) := by decide +kernel
theorem dX11_lost_35 : decode cX11_lost 35 = .ok (.aload_n 0, 1) := by decide +kernel
theorem dX11_lost_36 : decode cX11_lost 36 = .ok (.getfield 16, 3) := by decide +kernel
theorem dX11_lost_39 : decode cX11_lost 39 = .ok (.iload_n 3, 1) := by decide +kernel
theorem dX11_lost_40 : decode cX11_lost 40 = .ok (.putfield 249, 3) := by decide +kernel
theorem dX11_lost_43 : decode cX11_lost 43 = .ok (.aload_n 0, 1) := by decide +kernel
theorem dX11_lost_44 : decode cX11_lost 44 = .ok (.getfield 52, 3) := by decide +kernel
theorem dX11_lost_47 : decode cX11_lost 47 = .ok (.aload_n 0, 1) := by decide +kernel
theorem dX11_lost_48 : decode cX11_lost 48 = .ok (.getfield 16, 3) := by decide +kernel
theorem dX11_lost_51 : decode cX11_lost 51 = .ok (.aload_n 0, 1) := by decide +kernel
theorem dX11_lost_52 : decode cX11_lost 52 = .ok (.getfield 16, 3) := by decide +kernel
theorem dX11_lost_55 : decode cX11_lost 55 = .ok (.getfield 118, 3) := by decide +kernel
theorem dX11_lost_58 : decode cX11_lost 58 = .ok (.iload_n 1, 1) := by decide +kernel
theorem dX11_lost_59 : decode cX11_lost 59 = .ok (.aaload, 1) := by decide +kernel
theorem dX11_lost_60 : decode cX11_lost 60 = .ok (.invokevirtual 155, 3) := by decide +kernel
theorem dX11_lost_63 : decode cX11_lost 63 = .ok (.ifCond .lt 5, 3) := by decide +kernel
theorem dX11_lost_66 : decode cX11_lost 66 = .ok (.iload_n 2, 1) := by decide +kernel
theorem dX11_lost_67 : decode cX11_lost 67 = .ok (.ireturn, 1) := by decide +kernel
theorem dX11_lost_68 : decode cX11_lost 68 = .ok (.iload_n 3, 1) := by decide +kernel
theorem dX11_lost_69 : decode cX11_lost 69 = .ok (.istore_n 2, 1) := by decide +kernel
theorem dX11_lost_70 : decode cX11_lost 70 = .ok (.iinc 3 (-1), 3) := by decide +kernel
theorem dX11_lost_73 : decode cX11_lost 73 = .ok (.goto (-43), 3) := by decide +kernel
theorem dX11_lost_76 : decode cX11_lost 76 = .ok (.iload_n 2, 1) := by decide +kernel
theorem dX11_lost_77 : decode cX11_lost 77 = .ok (.ireturn, 1) := by decide +kernel
set_option maxRecDepth 20000 in
theorem ggX11_bestOf_X6_become : GoodIn wsX11_bestOf wsX6_become := goodIn_r _ [9, 10, 11, 12, 13, 14, 15, 16, 17, 18, 19, 20, 21, 22, 23, 24, 25, 26, 27, 148, 149, 150, 151, 152, 153, 154, 155, 156, 157, 158, 159, 160] (by decide +kernel) (by decide +kernel)
set_option maxRecDepth 20000 in
theorem gX11_bestOf_X6_become : GoodIn wsX11_bestOf (wsV RX11 236 RX6 yX6_become wsX6_become) := goodIn_app (goodIn_of _ (by decide +kernel)) ggX11_bestOf_X6_become
set_option maxRecDepth 20000 in
theorem ggX11_bestOf_X0_begin : GoodIn wsX11_bestOf wsX0_begin := goodIn_r _ [32, 33, 34, 35, 161, 162, 163] (by decide +kernel) (by decide +kernel)
set_option maxRecDepth 20000 in
theorem gX11_bestOf_X0_begin : GoodIn wsX11_bestOf (wsV RX11 240 RX0 yX0_begin wsX0_begin) := goodIn_app (goodIn_of _ (by decide +kernel)) ggX11_bestOf_X0_begin
set_option maxRecDepth 20000 in
theorem ggX11_bestOf_X6_lay : GoodIn wsX11_bestOf wsX6_lay := goodIn_r _ [39, 10, 11, 12, 13, 14, 148, 149, 150, 151, 152, 153, 154, 155] (by decide +kernel) (by decide +kernel)
set_option maxRecDepth 20000 in
theorem gX11_bestOf_X6_lay : GoodIn wsX11_bestOf (wsV RX11 111 RX6 yX6_lay wsX6_lay) := goodIn_app (goodIn_of _ (by decide +kernel)) ggX11_bestOf_X6_lay
set_option maxRecDepth 20000 in
theorem ggX11_bestOf_X4_allGainOf : GoodIn wsX11_bestOf wsX4_allGainOf := goodIn_r _ [44, 45, 46, 47, 48, 49, 43, 50, 51, 52, 53, 8, 54, 13, 55, 56, 57, 58, 59, 60, 61, 62, 63, 64, 65, 66, 67, 68, 69, 70, 71, 72, 73, 74, 75, 76, 77, 78, 79, 80, 81, 82, 83, 84, 85, 86, 87, 88, 89, 90, 91, 92, 93, 94, 95, 96, 97, 98, 99, 100, 101, 102, 103, 104, 105, 106, 107, 108, 109, 110, 111, 112, 113, 114, 115, 116, 117, 118, 119, 120, 121, 122, 123, 124, 148, 149, 150, 151, 152, 153, 154, 155, 156, 157, 158, 159, 160, 164, 165, 166, 167, 168, 169, 170] (by decide +kernel) (by decide +kernel)
set_option maxRecDepth 20000 in
theorem gX11_bestOf_X4_allGainOf : GoodIn wsX11_bestOf (wsV RX11 172 RX4 yX4_allGainOf wsX4_allGainOf) := goodIn_app (goodIn_of _ (by decide +kernel)) ggX11_bestOf_X4_allGainOf
set_option maxRecDepth 20000 in
theorem ggX11_bestOf_X0_offer : GoodIn wsX11_bestOf wsX0_offer := goodIn_r _ [128, 33, 35, 129, 130, 131, 31, 132, 34, 161, 162, 163] (by decide +kernel) (by decide +kernel)
set_option maxRecDepth 20000 in
theorem gX11_bestOf_X0_offer : GoodIn wsX11_bestOf (wsV RX11 226 RX0 yX0_offer wsX0_offer) := goodIn_app (goodIn_of _ (by decide +kernel)) ggX11_bestOf_X0_offer
set_option maxRecDepth 20000 in
theorem ggX11_bestOf_X0_answer : GoodIn wsX11_bestOf wsX0_answer := goodIn_r _ [136, 34, 35, 161, 162, 163] (by decide +kernel) (by decide +kernel)
set_option maxRecDepth 20000 in
theorem gX11_bestOf_X0_answer : GoodIn wsX11_bestOf (wsV RX11 246 RX0 yX0_answer wsX0_answer) := goodIn_app (goodIn_of _ (by decide +kernel)) ggX11_bestOf_X0_answer
theorem dX11_bestOf_0 : decode cX11_bestOf 0 = .ok (.aload_n 0, 1) := by decide +kernel
theorem dX11_bestOf_1 : decode cX11_bestOf 1 = .ok (.getfield 16, 3) := by decide +kernel
theorem dX11_bestOf_4 : decode cX11_bestOf 4 = .ok (.aload_n 0, 1) := by decide +kernel
theorem dX11_bestOf_5 : decode cX11_bestOf 5 = .ok (.getfield 10, 3) := by decide +kernel
theorem dX11_bestOf_8 : decode cX11_bestOf 8 = .ok (.invokevirtual 236, 3) := by decide +kernel
theorem dX11_bestOf_11 : decode cX11_bestOf 11 = .ok (.aload_n 0, 1) := by decide +kernel
theorem dX11_bestOf_12 : decode cX11_bestOf 12 = .ok (.getfield 59, 3) := by decide +kernel
theorem dX11_bestOf_15 : decode cX11_bestOf 15 = .ok (.invokevirtual 240, 3) := by decide +kernel
theorem dX11_bestOf_18 : decode cX11_bestOf 18 = .ok (.iload_n 2, 1) := by decide +kernel
theorem dX11_bestOf_19 : decode cX11_bestOf 19 = .ok (.istore 5, 2) := by decide +kernel
theorem dX11_bestOf_21 : decode cX11_bestOf 21 = .ok (.iload 5, 2) := by decide +kernel
theorem dX11_bestOf_23 : decode cX11_bestOf 23 = .ok (.iload_n 3, 1) := by decide +kernel
theorem dX11_bestOf_24 : decode cX11_bestOf 24 = .ok (.if_icmp .gt 39, 3) := by decide +kernel
theorem dX11_bestOf_27 : decode cX11_bestOf 27 = .ok (.aload_n 0, 1) := by decide +kernel
theorem dX11_bestOf_28 : decode cX11_bestOf 28 = .ok (.getfield 16, 3) := by decide +kernel
theorem dX11_bestOf_31 : decode cX11_bestOf 31 = .ok (.iload_n 1, 1) := by decide +kernel
theorem dX11_bestOf_32 : decode cX11_bestOf 32 = .ok (.iload 5, 2) := by decide +kernel
theorem dX11_bestOf_34 : decode cX11_bestOf 34 = .ok (.invokevirtual 111, 3) := by decide +kernel
theorem dX11_bestOf_37 : decode cX11_bestOf 37 = .ok (.aload_n 0, 1) := by decide +kernel
theorem dX11_bestOf_38 : decode cX11_bestOf 38 = .ok (.getfield 59, 3) := by decide +kernel
theorem dX11_bestOf_41 : decode cX11_bestOf 41 = .ok (.iload 5, 2) := by decide +kernel
theorem dX11_bestOf_43 : decode cX11_bestOf 43 = .ok (.aload_n 0, 1) := by decide +kernel
theorem dX11_bestOf_44 : decode cX11_bestOf 44 = .ok (.getfield 52, 3) := by decide +kernel
theorem dX11_bestOf_47 : decode cX11_bestOf 47 = .ok (.aload_n 0, 1) := by decide +kernel
theorem dX11_bestOf_48 : decode cX11_bestOf 48 = .ok (.getfield 16, 3) := by decide +kernel
theorem dX11_bestOf_51 : decode cX11_bestOf 51 = .ok (.invokevirtual 172, 3) := by decide +kernel
theorem dX11_bestOf_54 : decode cX11_bestOf 54 = .ok (.invokevirtual 226, 3) := by decide +kernel
theorem dX11_bestOf_57 : decode cX11_bestOf 57 = .ok (.iinc 5 1, 3) := by decide +kernel
theorem dX11_bestOf_60 : decode cX11_bestOf 60 = .ok (.goto (-39), 3) := by decide +kernel
theorem dX11_bestOf_63 : decode cX11_bestOf 63 = .ok (.aload_n 0, 1) := by decide +kernel
theorem dX11_bestOf_64 : decode cX11_bestOf 64 = .ok (.getfield 59, 3) := by decide +kernel
theorem dX11_bestOf_67 : decode cX11_bestOf 67 = .ok (.iload 4, 2) := by decide +kernel
theorem dX11_bestOf_69 : decode cX11_bestOf 69 = .ok (.invokevirtual 246, 3) := by decide +kernel
theorem dX11_bestOf_72 : decode cX11_bestOf 72 = .ok (.ireturn, 1) := by decide +kernel
set_option maxRecDepth 20000 in
theorem ggX11_tells_X11_isSheet : GoodIn wsX11_tells wsX11_isSheet := goodIn_r _ [8] (by decide +kernel) (by decide +kernel)
set_option maxRecDepth 20000 in
theorem gX11_tells_X11_isSheet : GoodIn wsX11_tells (va_wsS RX11 258 yX11_isSheet wsX11_isSheet) := goodIn_app (goodIn_of _ (by decide +kernel)) ggX11_tells_X11_isSheet
set_option maxRecDepth 20000 in
theorem ggX11_tells_X6_has : GoodIn wsX11_tells wsX6_has := goodIn_r _ [13, 14, 137, 138, 139, 140, 141, 142, 143, 144] (by decide +kernel) (by decide +kernel)
set_option maxRecDepth 20000 in
theorem gX11_tells_X6_has : GoodIn wsX11_tells (wsV RX11 115 RX6 yX6_has wsX6_has) := goodIn_app (goodIn_of _ (by decide +kernel)) ggX11_tells_X6_has
set_option maxRecDepth 20000 in
theorem ggX11_tells_X11_isWithin : GoodIn wsX11_tells wsX11_isWithin := goodIn_r _ [17] (by decide +kernel) (by decide +kernel)
set_option maxRecDepth 20000 in
theorem gX11_tells_X11_isWithin : GoodIn wsX11_tells (va_wsS RX11 103 yX11_isWithin wsX11_isWithin) := goodIn_app (goodIn_of _ (by decide +kernel)) ggX11_tells_X11_isWithin
set_option maxRecDepth 20000 in
theorem ggX11_tells_X5_isMissing : GoodIn wsX11_tells wsX5_isMissing := goodIn_r _ [22, 23, 145, 146, 147] (by decide +kernel) (by decide +kernel)
set_option maxRecDepth 20000 in
theorem gX11_tells_X5_isMissing : GoodIn wsX11_tells (wsV RX11 261 RX5 yX5_isMissing wsX5_isMissing) := goodIn_app (goodIn_of _ (by decide +kernel)) ggX11_tells_X5_isMissing
set_option maxRecDepth 20000 in
theorem ggX11_tells_X6_become : GoodIn wsX11_tells wsX6_become := goodIn_r _ [27, 28, 29, 30, 31, 32, 33, 14, 34, 35, 36, 37, 38, 39, 40, 41, 42, 43, 44, 137, 138, 139, 140, 141, 142, 143, 144, 148, 149, 150, 151, 152] (by decide +kernel) (by decide +kernel)
set_option maxRecDepth 20000 in
theorem gX11_tells_X6_become : GoodIn wsX11_tells (wsV RX11 236 RX6 yX6_become wsX6_become) := goodIn_app (goodIn_of _ (by decide +kernel)) ggX11_tells_X6_become
set_option maxRecDepth 20000 in
theorem ggX11_tells_X11_firstOtherwise : GoodIn wsX11_tells wsX11_firstOtherwise := goodIn_r _ [48, 49, 3, 50, 51, 52, 53, 54, 55, 56, 57, 58, 59, 60, 61, 62, 63, 64, 65, 66, 67, 68, 69, 70, 71, 72, 73, 74, 75, 76, 77, 78, 79, 80, 81, 82, 83, 84, 85, 86, 87, 88, 89, 90, 91, 92, 93, 94, 95, 96, 97, 98, 99, 100, 101, 102, 7, 103, 104, 105, 106, 107, 145, 146, 147, 126, 127, 128, 129, 130, 131, 132, 133, 134, 135, 136, 137, 138, 139, 140, 141, 142, 143, 144, 148, 149, 150, 151, 152, 153, 154, 155, 156, 157, 158, 159] (by decide +kernel) (by decide +kernel)
set_option maxRecDepth 20000 in
theorem gX11_tells_X11_firstOtherwise : GoodIn wsX11_tells (wsV RX11 265 RX11 yX11_firstOtherwise wsX11_firstOtherwise) := goodIn_app (goodIn_of _ (by decide +kernel)) ggX11_tells_X11_firstOtherwise
set_option maxRecDepth 20000 in
theorem ggX11_tells_X11_allBy : GoodIn wsX11_tells wsX11_allBy := goodIn_r _ [111, 112, 113, 114, 115, 116, 117, 118, 7, 119, 120, 121, 122, 123, 3, 124, 125, 45, 46, 47, 48, 49, 50, 51, 52, 53, 54, 55, 56, 57, 58, 59, 60, 61, 62, 63, 64, 65, 66, 67, 68, 69, 70, 71, 72, 73, 74, 75, 76, 77, 78, 79, 80, 81, 82, 83, 84, 85, 86, 87, 88, 89, 90, 91, 92, 93, 94, 95, 96, 97, 98, 99, 100, 101, 102, 103, 104, 105, 106, 107, 126, 127, 128, 129, 130, 131, 132, 133, 134, 135, 136, 154, 155, 148, 149, 150, 151, 152, 137, 138, 139, 140, 141, 142, 143, 144, 145, 146, 147, 153, 156, 157, 158, 159] (by decide +kernel) (by decide +kernel)
set_option maxRecDepth 20000 in
theorem gX11_tells_X11_allBy : GoodIn wsX11_tells (wsV RX11 269 RX11 yX11_allBy wsX11_allBy) := goodIn_app (goodIn_of _ (by decide +kernel)) ggX11_tells_X11_allBy
theorem dX11_tells_0 : decode cX11_tells 0 = .ok (.iload_n 1, 1) := by decide +kernel
theorem dX11_tells_1 : decode cX11_tells 1 = .ok (.invokestatic 258, 3) := by decide +kernel
theorem dX11_tells_4 : decode cX11_tells 4 = .ok (.ifCond .eq 24, 3) := by decide +kernel
theorem dX11_tells_7 : decode cX11_tells 7 = .ok (.aload_n 0, 1) := by decide +kernel
theorem dX11_tells_8 : decode cX11_tells 8 = .ok (.getfield 10, 3) := by decide +kernel
theorem dX11_tells_11 : decode cX11_tells 11 = .ok (.iload_n 2, 1) := by decide +kernel
theorem dX11_tells_12 : decode cX11_tells 12 = .ok (.invokevirtual 115, 3) := by decide +kernel
theorem dX11_tells_15 : decode cX11_tells 15 = .ok (.ifCond .eq 13, 3) := by decide +kernel
theorem dX11_tells_18 : decode cX11_tells 18 = .ok (.iload_n 3, 1) := by decide +kernel
theorem dX11_tells_19 : decode cX11_tells 19 = .ok (.iconst 0, 1) := by decide +kernel
theorem dX11_tells_20 : decode cX11_tells 20 = .ok (.bipush 7, 2) := by decide +kernel
theorem dX11_tells_22 : decode cX11_tells 22 = .ok (.invokestatic 103, 3) := by decide +kernel
theorem dX11_tells_25 : decode cX11_tells 25 = .ok (.ifCond .ne 6, 3) := by decide +kernel
theorem dX11_tells_28 : decode cX11_tells 28 = .ok (.bipush (-2), 2) := by decide +kernel
theorem dX11_tells_30 : decode cX11_tells 30 = .ok (.ireturn, 1) := by decide +kernel
theorem dX11_tells_31 : decode cX11_tells 31 = .ok (.aload_n 0, 1) := by decide +kernel
theorem dX11_tells_32 : decode cX11_tells 32 = .ok (.getfield 72, 3) := by decide +kernel
theorem dX11_tells_35 : decode cX11_tells 35 = .ok (.iload_n 1, 1) := by decide +kernel
theorem dX11_tells_36 : decode cX11_tells 36 = .ok (.aaload, 1) := by decide +kernel
theorem dX11_tells_37 : decode cX11_tells 37 = .ok (.astore 4, 2) := by decide +kernel
theorem dX11_tells_39 : decode cX11_tells 39 = .ok (.aload 4, 2) := by decide +kernel
theorem dX11_tells_41 : decode cX11_tells 41 = .ok (.invokevirtual 261, 3) := by decide +kernel
theorem dX11_tells_44 : decode cX11_tells 44 = .ok (.ifCond .eq 6, 3) := by decide +kernel
theorem dX11_tells_47 : decode cX11_tells 47 = .ok (.bipush (-11), 2) := by decide +kernel
theorem dX11_tells_49 : decode cX11_tells 49 = .ok (.ireturn, 1) := by decide +kernel
theorem dX11_tells_50 : decode cX11_tells 50 = .ok (.aload_n 0, 1) := by decide +kernel
theorem dX11_tells_51 : decode cX11_tells 51 = .ok (.getfield 16, 3) := by decide +kernel
theorem dX11_tells_54 : decode cX11_tells 54 = .ok (.aload_n 0, 1) := by decide +kernel
theorem dX11_tells_55 : decode cX11_tells 55 = .ok (.getfield 10, 3) := by decide +kernel
theorem dX11_tells_58 : decode cX11_tells 58 = .ok (.invokevirtual 236, 3) := by decide +kernel
theorem dX11_tells_61 : decode cX11_tells 61 = .ok (.aload_n 0, 1) := by decide +kernel
theorem dX11_tells_62 : decode cX11_tells 62 = .ok (.getfield 16, 3) := by decide +kernel
theorem dX11_tells_65 : decode cX11_tells 65 = .ok (.getfield 118, 3) := by decide +kernel
theorem dX11_tells_68 : decode cX11_tells 68 = .ok (.iload_n 2, 1) := by decide +kernel
theorem dX11_tells_69 : decode cX11_tells 69 = .ok (.aaload, 1) := by decide +kernel
theorem dX11_tells_70 : decode cX11_tells 70 = .ok (.astore 5, 2) := by decide +kernel
theorem dX11_tells_72 : decode cX11_tells 72 = .ok (.iload_n 3, 1) := by decide +kernel
theorem dX11_tells_73 : decode cX11_tells 73 = .ok (.ifCond .ne 14, 3) := by decide +kernel
theorem dX11_tells_76 : decode cX11_tells 76 = .ok (.aload_n 0, 1) := by decide +kernel
theorem dX11_tells_77 : decode cX11_tells 77 = .ok (.aload 4, 2) := by decide +kernel
theorem dX11_tells_79 : decode cX11_tells 79 = .ok (.aload 5, 2) := by decide +kernel
theorem dX11_tells_81 : decode cX11_tells 81 = .ok (.invokevirtual 265, 3) := by decide +kernel
theorem dX11_tells_84 : decode cX11_tells 84 = .ok (.goto 12, 3) := by decide +kernel
theorem dX11_tells_87 : decode cX11_tells 87 = .ok (.aload_n 0, 1) := by decide +kernel
theorem dX11_tells_88 : decode cX11_tells 88 = .ok (.aload 4, 2) := by decide +kernel
theorem dX11_tells_90 : decode cX11_tells 90 = .ok (.aload 5, 2) := by decide +kernel
theorem dX11_tells_92 : decode cX11_tells 92 = .ok (.iload_n 3, 1) := by decide +kernel
theorem dX11_tells_93 : decode cX11_tells 93 = .ok (.invokevirtual 269, 3) := by decide +kernel
theorem dX11_tells_96 : decode cX11_tells 96 = .ok (.ireturn, 1) := by decide +kernel
set_option maxRecDepth 20000 in
theorem ggX11_film_X11_isSheet : GoodIn wsX11_film wsX11_isSheet := goodIn_r _ [10] (by decide +kernel) (by decide +kernel)
set_option maxRecDepth 20000 in
theorem gX11_film_X11_isSheet : GoodIn wsX11_film (va_wsS RX11 258 yX11_isSheet wsX11_isSheet) := goodIn_app (goodIn_of _ (by decide +kernel)) ggX11_film_X11_isSheet
set_option maxRecDepth 20000 in
theorem ggX11_film_X6_has : GoodIn wsX11_film wsX6_has := goodIn_r _ [15, 16, 123, 124, 125, 126, 127, 128, 129, 130] (by decide +kernel) (by decide +kernel)
set_option maxRecDepth 20000 in
theorem gX11_film_X6_has : GoodIn wsX11_film (wsV RX11 115 RX6 yX6_has wsX6_has) := goodIn_app (goodIn_of _ (by decide +kernel)) ggX11_film_X6_has
set_option maxRecDepth 20000 in
theorem ggX11_film_X11_isWithin : GoodIn wsX11_film wsX11_isWithin := goodIn_r _ [19] (by decide +kernel) (by decide +kernel)
set_option maxRecDepth 20000 in
theorem gX11_film_X11_isWithin : GoodIn wsX11_film (va_wsS RX11 103 yX11_isWithin wsX11_isWithin) := goodIn_app (goodIn_of _ (by decide +kernel)) ggX11_film_X11_isWithin
set_option maxRecDepth 20000 in
theorem ggX11_film_X6_become : GoodIn wsX11_film wsX6_become := goodIn_r _ [23, 24, 25, 26, 27, 28, 29, 16, 30, 31, 32, 33, 34, 35, 36, 37, 38, 39, 40, 123, 124, 125, 126, 127, 128, 129, 130, 131, 132, 133, 134, 135] (by decide +kernel) (by decide +kernel)
set_option maxRecDepth 20000 in
theorem gX11_film_X6_become : GoodIn wsX11_film (wsV RX11 236 RX6 yX6_become wsX6_become) := goodIn_app (goodIn_of _ (by decide +kernel)) ggX11_film_X6_become
set_option maxRecDepth 20000 in
theorem ggX11_film_X5_become : GoodIn wsX11_film wsX5_become := goodIn_r _ [45, 46, 47, 48, 49, 9, 50, 51, 52, 53, 54, 55, 56, 57, 136, 137, 138] (by decide +kernel) (by decide +kernel)
set_option maxRecDepth 20000 in
theorem gX11_film_X5_become : GoodIn wsX11_film (wsV RX11 273 RX5 yX5_become wsX5_become) := goodIn_app (goodIn_of _ (by decide +kernel)) ggX11_film_X5_become
set_option maxRecDepth 20000 in
theorem ggX11_film_X4_eatsOf : GoodIn wsX11_film wsX4_eatsOf := goodIn_r _ [62, 63, 64, 65, 66, 67, 52, 53, 54, 68, 69, 70, 71, 72, 73, 74, 75, 76, 77, 78, 79, 80, 81, 82, 83, 84, 85, 86, 87, 88, 89, 90, 91, 92, 93, 94, 95, 96, 97, 98, 99, 100, 101, 102, 103, 49, 9, 50, 51, 55, 56, 57, 131, 132, 133, 134, 135, 123, 124, 125, 126, 127, 128, 129, 130, 139, 140, 141, 142, 143, 144, 145] (by decide +kernel) (by decide +kernel)
set_option maxRecDepth 20000 in
theorem gX11_film_X4_eatsOf : GoodIn wsX11_film (wsV RX11 138 RX4 yX4_eatsOf wsX4_eatsOf) := goodIn_app (goodIn_of _ (by decide +kernel)) ggX11_film_X4_eatsOf
set_option maxRecDepth 20000 in
theorem ggX11_film_X5_put : GoodIn wsX11_film wsX5_put := goodIn_r _ [107, 46, 48, 108, 109, 110, 44, 111, 47, 136, 137, 138] (by decide +kernel) (by decide +kernel)
set_option maxRecDepth 20000 in
theorem gX11_film_X5_put : GoodIn wsX11_film (wsV RX11 275 RX5 yX5_put wsX5_put) := goodIn_app (goodIn_of _ (by decide +kernel)) ggX11_film_X5_put
theorem dX11_film_0 : decode cX11_film 0 = .ok (.iload_n 1, 1) := by decide +kernel
theorem dX11_film_1 : decode cX11_film 1 = .ok (.invokestatic 258, 3) := by decide +kernel
theorem dX11_film_4 : decode cX11_film 4 = .ok (.ifCond .eq 24, 3) := by decide +kernel
theorem dX11_film_7 : decode cX11_film 7 = .ok (.aload_n 0, 1) := by decide +kernel
theorem dX11_film_8 : decode cX11_film 8 = .ok (.getfield 10, 3) := by decide +kernel
theorem dX11_film_11 : decode cX11_film 11 = .ok (.iload_n 2, 1) := by decide +kernel
theorem dX11_film_12 : decode cX11_film 12 = .ok (.invokevirtual 115, 3) := by decide +kernel
theorem dX11_film_15 : decode cX11_film 15 = .ok (.ifCond .eq 13, 3) := by decide +kernel
theorem dX11_film_18 : decode cX11_film 18 = .ok (.iload_n 3, 1) := by decide +kernel
theorem dX11_film_19 : decode cX11_film 19 = .ok (.iconst 0, 1) := by decide +kernel
theorem dX11_film_20 : decode cX11_film 20 = .ok (.bipush 40, 2) := by decide +kernel
theorem dX11_film_22 : decode cX11_film 22 = .ok (.invokestatic 103, 3) := by decide +kernel
theorem dX11_film_25 : decode cX11_film 25 = .ok (.ifCond .ne 6, 3) := by decide +kernel
theorem dX11_film_28 : decode cX11_film 28 = .ok (.bipush (-2), 2) := by decide +kernel
theorem dX11_film_30 : decode cX11_film 30 = .ok (.ireturn, 1) := by decide +kernel
theorem dX11_film_31 : decode cX11_film 31 = .ok (.aload_n 0, 1) := by decide +kernel
theorem dX11_film_32 : decode cX11_film 32 = .ok (.getfield 16, 3) := by decide +kernel
theorem dX11_film_35 : decode cX11_film 35 = .ok (.aload_n 0, 1) := by decide +kernel
theorem dX11_film_36 : decode cX11_film 36 = .ok (.getfield 10, 3) := by decide +kernel
theorem dX11_film_39 : decode cX11_film 39 = .ok (.invokevirtual 236, 3) := by decide +kernel
theorem dX11_film_42 : decode cX11_film 42 = .ok (.aload_n 0, 1) := by decide +kernel
theorem dX11_film_43 : decode cX11_film 43 = .ok (.getfield 72, 3) := by decide +kernel
theorem dX11_film_46 : decode cX11_film 46 = .ok (.iload_n 1, 1) := by decide +kernel
theorem dX11_film_47 : decode cX11_film 47 = .ok (.aaload, 1) := by decide +kernel
theorem dX11_film_48 : decode cX11_film 48 = .ok (.iconst 0, 1) := by decide +kernel
theorem dX11_film_49 : decode cX11_film 49 = .ok (.iload_n 3, 1) := by decide +kernel
theorem dX11_film_50 : decode cX11_film 50 = .ok (.invokevirtual 273, 3) := by decide +kernel
theorem dX11_film_53 : decode cX11_film 53 = .ok (.iconst 0, 1) := by decide +kernel
theorem dX11_film_54 : decode cX11_film 54 = .ok (.istore 4, 2) := by decide +kernel
theorem dX11_film_56 : decode cX11_film 56 = .ok (.iload 4, 2) := by decide +kernel
theorem dX11_film_58 : decode cX11_film 58 = .ok (.iload_n 3, 1) := by decide +kernel
theorem dX11_film_59 : decode cX11_film 59 = .ok (.if_icmp .ge 51, 3) := by decide +kernel
theorem dX11_film_62 : decode cX11_film 62 = .ok (.aload_n 0, 1) := by decide +kernel
theorem dX11_film_63 : decode cX11_film 63 = .ok (.getfield 16, 3) := by decide +kernel
theorem dX11_film_66 : decode cX11_film 66 = .ok (.iload 4, 2) := by decide +kernel
theorem dX11_film_68 : decode cX11_film 68 = .ok (.iconst 1, 1) := by decide +kernel
theorem dX11_film_69 : decode cX11_film 69 = .ok (.iadd, 1) := by decide +kernel
theorem dX11_film_70 : decode cX11_film 70 = .ok (.putfield 249, 3) := by decide +kernel
theorem dX11_film_73 : decode cX11_film 73 = .ok (.aload_n 0, 1) := by decide +kernel
theorem dX11_film_74 : decode cX11_film 74 = .ok (.getfield 72, 3) := by decide +kernel
theorem dX11_film_77 : decode cX11_film 77 = .ok (.iload_n 1, 1) := by decide +kernel
theorem dX11_film_78 : decode cX11_film 78 = .ok (.aaload, 1) := by decide +kernel
theorem dX11_film_79 : decode cX11_film 79 = .ok (.iload 4, 2) := by decide +kernel
theorem dX11_film_81 : decode cX11_film 81 = .ok (.aload_n 0, 1) := by decide +kernel
theorem dX11_film_82 : decode cX11_film 82 = .ok (.getfield 52, 3) := by decide +kernel
theorem dX11_film_85 : decode cX11_film 85 = .ok (.aload_n 0, 1) := by decide +kernel
theorem dX11_film_86 : decode cX11_film 86 = .ok (.getfield 16, 3) := by decide +kernel
theorem dX11_film_89 : decode cX11_film 89 = .ok (.aload_n 0, 1) := by decide +kernel
theorem dX11_film_90 : decode cX11_film 90 = .ok (.getfield 16, 3) := by decide +kernel
theorem dX11_film_93 : decode cX11_film 93 = .ok (.getfield 118, 3) := by decide +kernel
theorem dX11_film_96 : decode cX11_film 96 = .ok (.iload_n 2, 1) := by decide +kernel
theorem dX11_film_97 : decode cX11_film 97 = .ok (.aaload, 1) := by decide +kernel
theorem dX11_film_98 : decode cX11_film 98 = .ok (.invokevirtual 138, 3) := by decide +kernel
theorem dX11_film_101 : decode cX11_film 101 = .ok (.invokevirtual 275, 3) := by decide +kernel
theorem dX11_film_104 : decode cX11_film 104 = .ok (.iinc 4 1, 3) := by decide +kernel
theorem dX11_film_107 : decode cX11_film 107 = .ok (.goto (-51), 3) := by decide +kernel
theorem dX11_film_110 : decode cX11_film 110 = .ok (.iload_n 3, 1) := by decide +kernel
theorem dX11_film_111 : decode cX11_film 111 = .ok (.ireturn, 1) := by decide +kernel
set_option maxRecDepth 20000 in
theorem ggX11_sell_X4_drawn : GoodIn wsX11_sell wsX4_drawn := goodIn_r _ [7, 8, 9, 10, 11, 12, 13, 14, 15, 16, 17, 18, 19, 20, 21, 22, 23, 24, 25, 6, 26, 27, 28, 29, 30, 31, 32, 33, 34, 35, 36, 37, 38, 39, 40, 41, 42, 43, 44, 45, 46, 47, 48, 49, 50, 51, 52, 53, 54, 55, 56, 57, 58, 59, 60, 61, 62, 63, 64, 65, 66, 67, 68, 69, 70, 71, 72, 73, 74, 75, 76, 88, 89, 90, 91, 92, 93, 94, 95, 96, 97, 98, 99, 100, 101, 102, 103, 104, 105, 106, 107] (by decide +kernel) (by decide +kernel)
set_option maxRecDepth 20000 in
theorem gX11_sell_X4_drawn : GoodIn wsX11_sell (wsV RX11 278 RX4 yX4_drawn wsX4_drawn) := goodIn_app (goodIn_of _ (by decide +kernel)) ggX11_sell_X4_drawn
theorem dX11_sell_0 : decode cX11_sell 0 = .ok (.aload_n 0, 1) := by decide +kernel
theorem dX11_sell_1 : decode cX11_sell 1 = .ok (.getfield 52, 3) := by decide +kernel
theorem dX11_sell_4 : decode cX11_sell 4 = .ok (.aload_n 0, 1) := by decide +kernel
theorem dX11_sell_5 : decode cX11_sell 5 = .ok (.getfield 10, 3) := by decide +kernel
theorem dX11_sell_8 : decode cX11_sell 8 = .ok (.iload_n 1, 1) := by decide +kernel
theorem dX11_sell_9 : decode cX11_sell 9 = .ok (.iconst 1, 1) := by decide +kernel
theorem dX11_sell_10 : decode cX11_sell 10 = .ok (.invokevirtual 278, 3) := by decide +kernel
theorem dX11_sell_13 : decode cX11_sell 13 = .ok (.ireturn, 1) := by decide +kernel
set_option maxRecDepth 20000 in
theorem ggX11_chance_X11_isWithin : GoodIn wsX11_chance wsX11_isWithin := goodIn_r _ [8] (by decide +kernel) (by decide +kernel)
set_option maxRecDepth 20000 in
theorem gX11_chance_X11_isWithin : GoodIn wsX11_chance (va_wsS RX11 103 yX11_isWithin wsX11_isWithin) := goodIn_app (goodIn_of _ (by decide +kernel)) ggX11_chance_X11_isWithin
set_option maxRecDepth 20000 in
theorem ggX11_chance_X11_isZeroOrOne : GoodIn wsX11_chance wsX11_isZeroOrOne := goodIn_r _ [11] (by decide +kernel) (by decide +kernel)
set_option maxRecDepth 20000 in
theorem gX11_chance_X11_isZeroOrOne : GoodIn wsX11_chance (va_wsS RX11 191 yX11_isZeroOrOne wsX11_isZeroOrOne) := goodIn_app (goodIn_of _ (by decide +kernel)) ggX11_chance_X11_isZeroOrOne
set_option maxRecDepth 20000 in
theorem ggX11_chance_X4_drawn : GoodIn wsX11_chance wsX4_drawn := goodIn_r _ [16, 17, 18, 19, 20, 21, 22, 23, 24, 25, 26, 27, 28, 29, 30, 31, 32, 33, 34, 15, 35, 36, 37, 38, 39, 40, 41, 42, 43, 44, 45, 46, 47, 48, 49, 50, 51, 52, 53, 54, 55, 56, 57, 58, 59, 60, 61, 62, 63, 64, 65, 66, 67, 68, 69, 70, 71, 72, 73, 74, 75, 7, 76, 77, 78, 79, 80, 81, 82, 83, 84, 110, 111, 112, 113, 114, 115, 116, 117, 118, 119, 120, 121, 122, 123, 124, 125, 126, 127, 128, 129] (by decide +kernel) (by decide +kernel)
set_option maxRecDepth 20000 in
theorem gX11_chance_X4_drawn : GoodIn wsX11_chance (wsV RX11 278 RX4 yX4_drawn wsX4_drawn) := goodIn_app (goodIn_of _ (by decide +kernel)) ggX11_chance_X4_drawn
set_option maxRecDepth 20000 in
theorem ggX11_chance_X2_lay : GoodIn wsX11_chance wsX2_lay := goodIn_r _ [89, 90, 91, 92, 93, 88, 94, 130, 131] (by decide +kernel) (by decide +kernel)
set_option maxRecDepth 20000 in
theorem gX11_chance_X2_lay : GoodIn wsX11_chance (wsV RX11 196 RX2 yX2_lay wsX2_lay) := goodIn_app (goodIn_of _ (by decide +kernel)) ggX11_chance_X2_lay
set_option maxRecDepth 20000 in
theorem ggX11_chance_X2_part : GoodIn wsX11_chance wsX2_part := goodIn_r _ [98, 90, 91, 130, 131] (by decide +kernel) (by decide +kernel)
set_option maxRecDepth 20000 in
theorem gX11_chance_X2_part : GoodIn wsX11_chance (wsV RX11 205 RX2 yX2_part wsX2_part) := goodIn_app (goodIn_of _ (by decide +kernel)) ggX11_chance_X2_part
theorem dX11_chance_0 : decode cX11_chance 0 = .ok (.iload_n 2, 1) := by decide +kernel
theorem dX11_chance_1 : decode cX11_chance 1 = .ok (.iconst 1, 1) := by decide +kernel
theorem dX11_chance_2 : decode cX11_chance 2 = .ok (.bipush 20, 2) := by decide +kernel
theorem dX11_chance_4 : decode cX11_chance 4 = .ok (.invokestatic 103, 3) := by decide +kernel
theorem dX11_chance_7 : decode cX11_chance 7 = .ok (.ifCond .eq 22, 3) := by decide +kernel
theorem dX11_chance_10 : decode cX11_chance 10 = .ok (.iload_n 3, 1) := by decide +kernel
theorem dX11_chance_11 : decode cX11_chance 11 = .ok (.iconst 0, 1) := by decide +kernel
theorem dX11_chance_12 : decode cX11_chance 12 = .ok (.sipush 9999, 3) := by decide +kernel
theorem dX11_chance_15 : decode cX11_chance 15 = .ok (.invokestatic 103, 3) := by decide +kernel
theorem dX11_chance_18 : decode cX11_chance 18 = .ok (.ifCond .eq 11, 3) := by decide +kernel
theorem dX11_chance_21 : decode cX11_chance 21 = .ok (.iload 4, 2) := by decide +kernel
theorem dX11_chance_23 : decode cX11_chance 23 = .ok (.invokestatic 191, 3) := by decide +kernel
theorem dX11_chance_26 : decode cX11_chance 26 = .ok (.ifCond .ne 7, 3) := by decide +kernel
theorem dX11_chance_29 : decode cX11_chance 29 = .ok (.ldc2_w 194, 3) := by decide +kernel
theorem dX11_chance_32 : decode cX11_chance 32 = .ok (.lreturn, 1) := by decide +kernel
theorem dX11_chance_33 : decode cX11_chance 33 = .ok (.iconst 0, 1) := by decide +kernel
theorem dX11_chance_34 : decode cX11_chance 34 = .ok (.istore 5, 2) := by decide +kernel
theorem dX11_chance_36 : decode cX11_chance 36 = .ok (.iconst 0, 1) := by decide +kernel
theorem dX11_chance_37 : decode cX11_chance 37 = .ok (.istore 6, 2) := by decide +kernel
theorem dX11_chance_39 : decode cX11_chance 39 = .ok (.iload 6, 2) := by decide +kernel
theorem dX11_chance_41 : decode cX11_chance 41 = .ok (.iload_n 2, 1) := by decide +kernel
theorem dX11_chance_42 : decode cX11_chance 42 = .ok (.if_icmp .ge 32, 3) := by decide +kernel
theorem dX11_chance_45 : decode cX11_chance 45 = .ok (.aload_n 0, 1) := by decide +kernel
theorem dX11_chance_46 : decode cX11_chance 46 = .ok (.getfield 52, 3) := by decide +kernel
theorem dX11_chance_49 : decode cX11_chance 49 = .ok (.aload_n 0, 1) := by decide +kernel
theorem dX11_chance_50 : decode cX11_chance 50 = .ok (.getfield 10, 3) := by decide +kernel
theorem dX11_chance_53 : decode cX11_chance 53 = .ok (.iload_n 1, 1) := by decide +kernel
theorem dX11_chance_54 : decode cX11_chance 54 = .ok (.iload 6, 2) := by decide +kernel
theorem dX11_chance_56 : decode cX11_chance 56 = .ok (.iadd, 1) := by decide +kernel
theorem dX11_chance_57 : decode cX11_chance 57 = .ok (.iconst 0, 1) := by decide +kernel
theorem dX11_chance_58 : decode cX11_chance 58 = .ok (.invokevirtual 278, 3) := by decide +kernel
theorem dX11_chance_61 : decode cX11_chance 61 = .ok (.iload_n 3, 1) := by decide +kernel
theorem dX11_chance_62 : decode cX11_chance 62 = .ok (.if_icmp .lt 6, 3) := by decide +kernel
theorem dX11_chance_65 : decode cX11_chance 65 = .ok (.iinc 5 1, 3) := by decide +kernel
theorem dX11_chance_68 : decode cX11_chance 68 = .ok (.iinc 6 1, 3) := by decide +kernel
theorem dX11_chance_71 : decode cX11_chance 71 = .ok (.goto (-32), 3) := by decide +kernel
theorem dX11_chance_74 : decode cX11_chance 74 = .ok (.aload_n 0, 1) := by decide +kernel
theorem dX11_chance_75 : decode cX11_chance 75 = .ok (.getfield 66, 3) := by decide +kernel
theorem dX11_chance_78 : decode cX11_chance 78 = .ok (.iload 5, 2) := by decide +kernel
theorem dX11_chance_80 : decode cX11_chance 80 = .ok (.i2l, 1) := by decide +kernel
theorem dX11_chance_81 : decode cX11_chance 81 = .ok (.iload_n 2, 1) := by decide +kernel
theorem dX11_chance_82 : decode cX11_chance 82 = .ok (.i2l, 1) := by decide +kernel
theorem dX11_chance_83 : decode cX11_chance 83 = .ok (.invokevirtual 196, 3) := by decide +kernel
theorem dX11_chance_86 : decode cX11_chance 86 = .ok (.aload_n 0, 1) := by decide +kernel
theorem dX11_chance_87 : decode cX11_chance 87 = .ok (.getfield 66, 3) := by decide +kernel
theorem dX11_chance_90 : decode cX11_chance 90 = .ok (.iload 4, 2) := by decide +kernel
theorem dX11_chance_92 : decode cX11_chance 92 = .ok (.invokevirtual 205, 3) := by decide +kernel
theorem dX11_chance_95 : decode cX11_chance 95 = .ok (.lreturn, 1) := by decide +kernel
set_option maxRecDepth 20000 in
theorem ggX11_image_X6_become : GoodIn wsX11_image wsX6_become := goodIn_r _ [9, 10, 11, 12, 13, 14, 15, 16, 17, 18, 19, 20, 21, 22, 23, 24, 25, 26, 27, 39, 40, 41, 42, 43, 44, 45, 46, 47, 48, 49, 50, 51] (by decide +kernel) (by decide +kernel)
set_option maxRecDepth 20000 in
theorem gX11_image_X6_become : GoodIn wsX11_image (wsV RX11 236 RX6 yX6_become wsX6_become) := goodIn_app (goodIn_of _ (by decide +kernel)) ggX11_image_X6_become
theorem dX11_image_0 : decode cX11_image 0 = .ok (.aload_n 0, 1) := by decide +kernel
theorem dX11_image_1 : decode cX11_image 1 = .ok (.getfield 19, 3) := by decide +kernel
theorem dX11_image_4 : decode cX11_image 4 = .ok (.aload_n 0, 1) := by decide +kernel
theorem dX11_image_5 : decode cX11_image 5 = .ok (.getfield 10, 3) := by decide +kernel
theorem dX11_image_8 : decode cX11_image 8 = .ok (.invokevirtual 236, 3) := by decide +kernel
theorem dX11_image_11 : decode cX11_image 11 = .ok (.aload_n 0, 1) := by decide +kernel
theorem dX11_image_12 : decode cX11_image 12 = .ok (.iconst 1, 1) := by decide +kernel
theorem dX11_image_13 : decode cX11_image 13 = .ok (.putfield 22, 3) := by decide +kernel
theorem dX11_image_16 : decode cX11_image 16 = .ok (.aload_n 0, 1) := by decide +kernel
theorem dX11_image_17 : decode cX11_image 17 = .ok (.getfield 19, 3) := by decide +kernel
theorem dX11_image_20 : decode cX11_image 20 = .ok (.getfield 129, 3) := by decide +kernel
theorem dX11_image_23 : decode cX11_image 23 = .ok (.ireturn, 1) := by decide +kernel
set_option maxRecDepth 20000 in
theorem ggX11_back_X6_become : GoodIn wsX11_back wsX6_become := goodIn_r _ [9, 10, 11, 12, 13, 14, 15, 16, 17, 18, 19, 20, 21, 22, 23, 24, 25, 26, 27, 39, 40, 41, 42, 43, 44, 45, 46, 47, 48, 49, 50, 51] (by decide +kernel) (by decide +kernel)
set_option maxRecDepth 20000 in
theorem gX11_back_X6_become : GoodIn wsX11_back (wsV RX11 236 RX6 yX6_become wsX6_become) := goodIn_app (goodIn_of _ (by decide +kernel)) ggX11_back_X6_become
theorem dX11_back_0 : decode cX11_back 0 = .ok (.aload_n 0, 1) := by decide +kernel
theorem dX11_back_1 : decode cX11_back 1 = .ok (.getfield 22, 3) := by decide +kernel
theorem dX11_back_4 : decode cX11_back 4 = .ok (.ifCond .ne 6, 3) := by decide +kernel
theorem dX11_back_7 : decode cX11_back 7 = .ok (.bipush (-3), 2) := by decide +kernel
theorem dX11_back_9 : decode cX11_back 9 = .ok (.ireturn, 1) := by decide +kernel
theorem dX11_back_10 : decode cX11_back 10 = .ok (.aload_n 0, 1) := by decide +kernel
theorem dX11_back_11 : decode cX11_back 11 = .ok (.getfield 10, 3) := by decide +kernel
theorem dX11_back_14 : decode cX11_back 14 = .ok (.aload_n 0, 1) := by decide +kernel
theorem dX11_back_15 : decode cX11_back 15 = .ok (.getfield 19, 3) := by decide +kernel
theorem dX11_back_18 : decode cX11_back 18 = .ok (.invokevirtual 236, 3) := by decide +kernel
theorem dX11_back_21 : decode cX11_back 21 = .ok (.aload_n 0, 1) := by decide +kernel
theorem dX11_back_22 : decode cX11_back 22 = .ok (.getfield 10, 3) := by decide +kernel
theorem dX11_back_25 : decode cX11_back 25 = .ok (.getfield 129, 3) := by decide +kernel
theorem dX11_back_28 : decode cX11_back 28 = .ok (.ireturn, 1) := by decide +kernel
set_option maxRecDepth 20000 in
theorem ggX11_count_J6_bitCount_0f7a4 : GoodIn wsX11_count wsJ6_bitCount_0f7a4 := goodIn_r _ [12, 13, 14, 15] (by decide +kernel) (by decide +kernel)
set_option maxRecDepth 20000 in
theorem gX11_count_J6_bitCount_0f7a4 : GoodIn wsX11_count (va_wsS RX11 282 yJ6_bitCount_0f7a4 wsJ6_bitCount_0f7a4) := goodIn_app (goodIn_of _ (by decide +kernel)) ggX11_count_J6_bitCount_0f7a4
set_option maxRecDepth 20000 in
theorem ggX11_count_X6_boughtByAll : GoodIn wsX11_count wsX6_boughtByAll := goodIn_r _ [20, 21, 22, 23, 35, 36, 37, 38, 39, 40, 41, 42, 47, 48, 49, 50, 51] (by decide +kernel) (by decide +kernel)
set_option maxRecDepth 20000 in
theorem gX11_count_X6_boughtByAll : GoodIn wsX11_count (wsV RX11 287 RX6 yX6_boughtByAll wsX6_boughtByAll) := goodIn_app (goodIn_of _ (by decide +kernel)) ggX11_count_X6_boughtByAll
theorem dX11_count_0 : decode cX11_count 0 = .ok (.iload_n 1, 1) := by decide +kernel
theorem dX11_count_1 : decode cX11_count 1 = .ok (.tableswitch 90 0 5 #[39, 47, 58, 66, 74, 82], 39) := by decide +kernel
theorem dX11_count_40 : decode cX11_count 40 = .ok (.aload_n 0, 1) := by decide +kernel
theorem dX11_count_41 : decode cX11_count 41 = .ok (.getfield 10, 3) := by decide +kernel
theorem dX11_count_44 : decode cX11_count 44 = .ok (.getfield 129, 3) := by decide +kernel
theorem dX11_count_47 : decode cX11_count 47 = .ok (.ireturn, 1) := by decide +kernel
theorem dX11_count_48 : decode cX11_count 48 = .ok (.aload_n 0, 1) := by decide +kernel
theorem dX11_count_49 : decode cX11_count 49 = .ok (.getfield 10, 3) := by decide +kernel
theorem dX11_count_52 : decode cX11_count 52 = .ok (.getfield 243, 3) := by decide +kernel
theorem dX11_count_55 : decode cX11_count 55 = .ok (.invokestatic 282, 3) := by decide +kernel
theorem dX11_count_58 : decode cX11_count 58 = .ok (.ireturn, 1) := by decide +kernel
theorem dX11_count_59 : decode cX11_count 59 = .ok (.aload_n 0, 1) := by decide +kernel
theorem dX11_count_60 : decode cX11_count 60 = .ok (.getfield 10, 3) := by decide +kernel
theorem dX11_count_63 : decode cX11_count 63 = .ok (.invokevirtual 287, 3) := by decide +kernel
theorem dX11_count_66 : decode cX11_count 66 = .ok (.ireturn, 1) := by decide +kernel
theorem dX11_count_67 : decode cX11_count 67 = .ok (.aload_n 0, 1) := by decide +kernel
theorem dX11_count_68 : decode cX11_count 68 = .ok (.getfield 43, 3) := by decide +kernel
theorem dX11_count_71 : decode cX11_count 71 = .ok (.getfield 159, 3) := by decide +kernel
theorem dX11_count_74 : decode cX11_count 74 = .ok (.ireturn, 1) := by decide +kernel
theorem dX11_count_75 : decode cX11_count 75 = .ok (.aload_n 0, 1) := by decide +kernel
theorem dX11_count_76 : decode cX11_count 76 = .ok (.getfield 29, 3) := by decide +kernel
theorem dX11_count_79 : decode cX11_count 79 = .ok (.getfield 158, 3) := by decide +kernel
theorem dX11_count_82 : decode cX11_count 82 = .ok (.ireturn, 1) := by decide +kernel
theorem dX11_count_83 : decode cX11_count 83 = .ok (.aload_n 0, 1) := by decide +kernel
theorem dX11_count_84 : decode cX11_count 84 = .ok (.getfield 10, 3) := by decide +kernel
theorem dX11_count_87 : decode cX11_count 87 = .ok (.getfield 169, 3) := by decide +kernel
theorem dX11_count_90 : decode cX11_count 90 = .ok (.ireturn, 1) := by decide +kernel
theorem dX11_count_91 : decode cX11_count 91 = .ok (.bipush (-2), 2) := by decide +kernel
theorem dX11_count_93 : decode cX11_count 93 = .ok (.ireturn, 1) := by decide +kernel
set_option maxRecDepth 20000 in
theorem ggX11_firstOtherwise_X4_eatsOf : GoodIn wsX11_firstOtherwise wsX4_eatsOf := goodIn_r _ [10, 11, 12, 13, 14, 15, 16, 17, 18, 19, 20, 21, 22, 23, 24, 25, 26, 27, 28, 29, 30, 31, 32, 33, 34, 35, 36, 37, 38, 39, 40, 41, 42, 43, 44, 45, 46, 47, 48, 49, 50, 51, 52, 53, 54, 55, 56, 57, 58, 59, 60, 61, 84, 85, 86, 87, 88, 76, 77, 78, 79, 80, 81, 82, 83, 89, 90, 91, 92, 93, 94, 95] (by decide +kernel) (by decide +kernel)
set_option maxRecDepth 20000 in
theorem gX11_firstOtherwise_X4_eatsOf : GoodIn wsX11_firstOtherwise (wsV RX11 138 RX4 yX4_eatsOf wsX4_eatsOf) := goodIn_app (goodIn_of _ (by decide +kernel)) ggX11_firstOtherwise_X4_eatsOf
theorem dX11_firstOtherwise_0 : decode cX11_firstOtherwise 0 = .ok (.iconst 0, 1) := by decide +kernel
theorem dX11_firstOtherwise_1 : decode cX11_firstOtherwise 1 = .ok (.istore_n 3, 1) := by decide +kernel
theorem dX11_firstOtherwise_2 : decode cX11_firstOtherwise 2 = .ok (.iload_n 3, 1) := by decide +kernel
theorem dX11_firstOtherwise_3 : decode cX11_firstOtherwise 3 = .ok (.aload_n 1, 1) := by decide +kernel
theorem dX11_firstOtherwise_4 : decode cX11_firstOtherwise 4 = .ok (.getfield 290, 3) := by decide +kernel
theorem dX11_firstOtherwise_7 : decode cX11_firstOtherwise 7 = .ok (.if_icmp .ge 48, 3) := by decide +kernel
theorem dX11_firstOtherwise_10 : decode cX11_firstOtherwise 10 = .ok (.iload_n 3, 1) := by decide +kernel
theorem dX11_firstOtherwise_11 : decode cX11_firstOtherwise 11 = .ok (.bipush 40, 2) := by decide +kernel
theorem dX11_firstOtherwise_13 : decode cX11_firstOtherwise 13 = .ok (.if_icmp .ge 42, 3) := by decide +kernel
theorem dX11_firstOtherwise_16 : decode cX11_firstOtherwise 16 = .ok (.aload_n 0, 1) := by decide +kernel
theorem dX11_firstOtherwise_17 : decode cX11_firstOtherwise 17 = .ok (.getfield 16, 3) := by decide +kernel
theorem dX11_firstOtherwise_20 : decode cX11_firstOtherwise 20 = .ok (.iload_n 3, 1) := by decide +kernel
theorem dX11_firstOtherwise_21 : decode cX11_firstOtherwise 21 = .ok (.iconst 1, 1) := by decide +kernel
theorem dX11_firstOtherwise_22 : decode cX11_firstOtherwise 22 = .ok (.iadd, 1) := by decide +kernel
theorem dX11_firstOtherwise_23 : decode cX11_firstOtherwise 23 = .ok (.putfield 249, 3) := by decide +kernel
theorem dX11_firstOtherwise_26 : decode cX11_firstOtherwise 26 = .ok (.aload_n 0, 1) := by decide +kernel
theorem dX11_firstOtherwise_27 : decode cX11_firstOtherwise 27 = .ok (.getfield 52, 3) := by decide +kernel
theorem dX11_firstOtherwise_30 : decode cX11_firstOtherwise 30 = .ok (.aload_n 0, 1) := by decide +kernel
theorem dX11_firstOtherwise_31 : decode cX11_firstOtherwise 31 = .ok (.getfield 16, 3) := by decide +kernel
theorem dX11_firstOtherwise_34 : decode cX11_firstOtherwise 34 = .ok (.aload_n 2, 1) := by decide +kernel
theorem dX11_firstOtherwise_35 : decode cX11_firstOtherwise 35 = .ok (.invokevirtual 138, 3) := by decide +kernel
theorem dX11_firstOtherwise_38 : decode cX11_firstOtherwise 38 = .ok (.aload_n 1, 1) := by decide +kernel
theorem dX11_firstOtherwise_39 : decode cX11_firstOtherwise 39 = .ok (.getfield 291, 3) := by decide +kernel
theorem dX11_firstOtherwise_42 : decode cX11_firstOtherwise 42 = .ok (.iload_n 3, 1) := by decide +kernel
theorem dX11_firstOtherwise_43 : decode cX11_firstOtherwise 43 = .ok (.iaload, 1) := by decide +kernel
theorem dX11_firstOtherwise_44 : decode cX11_firstOtherwise 44 = .ok (.if_icmp .eq 5, 3) := by decide +kernel
theorem dX11_firstOtherwise_47 : decode cX11_firstOtherwise 47 = .ok (.iload_n 3, 1) := by decide +kernel
theorem dX11_firstOtherwise_48 : decode cX11_firstOtherwise 48 = .ok (.ireturn, 1) := by decide +kernel
theorem dX11_firstOtherwise_49 : decode cX11_firstOtherwise 49 = .ok (.iinc 3 1, 3) := by decide +kernel
theorem dX11_firstOtherwise_52 : decode cX11_firstOtherwise 52 = .ok (.goto (-50), 3) := by decide +kernel
theorem dX11_firstOtherwise_55 : decode cX11_firstOtherwise 55 = .ok (.iconst (-1), 1) := by decide +kernel
theorem dX11_firstOtherwise_56 : decode cX11_firstOtherwise 56 = .ok (.ireturn, 1) := by decide +kernel
set_option maxRecDepth 20000 in
theorem ggX11_allBy_X11_suppose : GoodIn wsX11_allBy wsX11_suppose := goodIn_r _ [9, 10, 11, 12, 13, 14, 15, 16, 93, 94, 95, 96, 97, 80, 81, 82, 83, 84, 85, 86, 87, 88, 89, 90, 98, 99, 100, 101, 102, 103, 104, 105] (by decide +kernel) (by decide +kernel)
set_option maxRecDepth 20000 in
theorem gX11_allBy_X11_suppose : GoodIn wsX11_allBy (wsV RX11 300 RX11 yX11_suppose wsX11_suppose) := goodIn_app (goodIn_of _ (by decide +kernel)) ggX11_allBy_X11_suppose
set_option maxRecDepth 20000 in
theorem ggX11_allBy_X11_firstOtherwise : GoodIn wsX11_allBy wsX11_firstOtherwise := goodIn_r _ [20, 21, 14, 22, 23, 24, 25, 26, 27, 28, 29, 30, 31, 32, 33, 34, 35, 36, 37, 38, 39, 40, 41, 42, 43, 44, 45, 46, 47, 48, 49, 50, 51, 52, 53, 54, 55, 56, 57, 58, 59, 60, 61, 62, 63, 64, 65, 66, 67, 68, 69, 70, 71, 72, 73, 74, 8, 75, 76, 77, 78, 79, 106, 107, 108, 80, 81, 82, 83, 84, 85, 86, 87, 88, 89, 90, 98, 99, 100, 101, 102, 103, 104, 105, 93, 94, 95, 96, 97, 109, 91, 92, 110, 111, 112, 113] (by decide +kernel) (by decide +kernel)
set_option maxRecDepth 20000 in
theorem gX11_allBy_X11_firstOtherwise : GoodIn wsX11_allBy (wsV RX11 265 RX11 yX11_firstOtherwise wsX11_firstOtherwise) := goodIn_app (goodIn_of _ (by decide +kernel)) ggX11_allBy_X11_firstOtherwise
theorem dX11_allBy_0 : decode cX11_allBy 0 = .ok (.iconst 0, 1) := by decide +kernel
theorem dX11_allBy_1 : decode cX11_allBy 1 = .ok (.istore 4, 2) := by decide +kernel
theorem dX11_allBy_3 : decode cX11_allBy 3 = .ok (.iconst 0, 1) := by decide +kernel
theorem dX11_allBy_4 : decode cX11_allBy 4 = .ok (.istore 5, 2) := by decide +kernel
theorem dX11_allBy_6 : decode cX11_allBy 6 = .ok (.iconst (-1), 1) := by decide +kernel
theorem dX11_allBy_7 : decode cX11_allBy 7 = .ok (.istore 6, 2) := by decide +kernel
theorem dX11_allBy_9 : decode cX11_allBy 9 = .ok (.iload_n 3, 1) := by decide +kernel
theorem dX11_allBy_10 : decode cX11_allBy 10 = .ok (.bipush 7, 2) := by decide +kernel
theorem dX11_allBy_12 : decode cX11_allBy 12 = .ok (.if_icmp .ne 15, 3) := by decide +kernel
theorem dX11_allBy_15 : decode cX11_allBy 15 = .ok (.aload_n 0, 1) := by decide +kernel
theorem dX11_allBy_16 : decode cX11_allBy 16 = .ok (.getfield 43, 3) := by decide +kernel
theorem dX11_allBy_19 : decode cX11_allBy 19 = .ok (.getfield 159, 3) := by decide +kernel
theorem dX11_allBy_22 : decode cX11_allBy 22 = .ok (.iconst 1, 1) := by decide +kernel
theorem dX11_allBy_23 : decode cX11_allBy 23 = .ok (.isub, 1) := by decide +kernel
theorem dX11_allBy_24 : decode cX11_allBy 24 = .ok (.goto 8, 3) := by decide +kernel
theorem dX11_allBy_27 : decode cX11_allBy 27 = .ok (.getstatic 294, 3) := by decide +kernel
theorem dX11_allBy_30 : decode cX11_allBy 30 = .ok (.iload_n 3, 1) := by decide +kernel
theorem dX11_allBy_31 : decode cX11_allBy 31 = .ok (.iaload, 1) := by decide +kernel
theorem dX11_allBy_32 : decode cX11_allBy 32 = .ok (.istore 7, 2) := by decide +kernel
theorem dX11_allBy_34 : decode cX11_allBy 34 = .ok (.getstatic 297, 3) := by decide +kernel
theorem dX11_allBy_37 : decode cX11_allBy 37 = .ok (.iload_n 3, 1) := by decide +kernel
theorem dX11_allBy_38 : decode cX11_allBy 38 = .ok (.iaload, 1) := by decide +kernel
theorem dX11_allBy_39 : decode cX11_allBy 39 = .ok (.istore 8, 2) := by decide +kernel
theorem dX11_allBy_41 : decode cX11_allBy 41 = .ok (.iload 8, 2) := by decide +kernel
theorem dX11_allBy_43 : decode cX11_allBy 43 = .ok (.iload 7, 2) := by decide +kernel
theorem dX11_allBy_45 : decode cX11_allBy 45 = .ok (.if_icmp .gt 53, 3) := by decide +kernel
theorem dX11_allBy_48 : decode cX11_allBy 48 = .ok (.aload_n 0, 1) := by decide +kernel
theorem dX11_allBy_49 : decode cX11_allBy 49 = .ok (.aload_n 2, 1) := by decide +kernel
theorem dX11_allBy_50 : decode cX11_allBy 50 = .ok (.iload_n 3, 1) := by decide +kernel
theorem dX11_allBy_51 : decode cX11_allBy 51 = .ok (.iload 8, 2) := by decide +kernel
theorem dX11_allBy_53 : decode cX11_allBy 53 = .ok (.invokevirtual 300, 3) := by decide +kernel
theorem dX11_allBy_56 : decode cX11_allBy 56 = .ok (.aload_n 0, 1) := by decide +kernel
theorem dX11_allBy_57 : decode cX11_allBy 57 = .ok (.aload_n 1, 1) := by decide +kernel
theorem dX11_allBy_58 : decode cX11_allBy 58 = .ok (.aload_n 2, 1) := by decide +kernel
theorem dX11_allBy_59 : decode cX11_allBy 59 = .ok (.invokevirtual 265, 3) := by decide +kernel
theorem dX11_allBy_62 : decode cX11_allBy 62 = .ok (.iconst (-1), 1) := by decide +kernel
theorem dX11_allBy_63 : decode cX11_allBy 63 = .ok (.if_icmp .ne 29, 3) := by decide +kernel
theorem dX11_allBy_66 : decode cX11_allBy 66 = .ok (.iload 4, 2) := by decide +kernel
theorem dX11_allBy_68 : decode cX11_allBy 68 = .ok (.iconst 1, 1) := by decide +kernel
theorem dX11_allBy_69 : decode cX11_allBy 69 = .ok (.iload 8, 2) := by decide +kernel
theorem dX11_allBy_71 : decode cX11_allBy 71 = .ok (.ishl, 1) := by decide +kernel
theorem dX11_allBy_72 : decode cX11_allBy 72 = .ok (.ior, 1) := by decide +kernel
theorem dX11_allBy_73 : decode cX11_allBy 73 = .ok (.istore 4, 2) := by decide +kernel
theorem dX11_allBy_75 : decode cX11_allBy 75 = .ok (.iload 5, 2) := by decide +kernel
theorem dX11_allBy_77 : decode cX11_allBy 77 = .ok (.ifCond .ne 8, 3) := by decide +kernel
theorem dX11_allBy_80 : decode cX11_allBy 80 = .ok (.iload 8, 2) := by decide +kernel
theorem dX11_allBy_82 : decode cX11_allBy 82 = .ok (.goto 5, 3) := by decide +kernel
theorem dX11_allBy_85 : decode cX11_allBy 85 = .ok (.iload 6, 2) := by decide +kernel
theorem dX11_allBy_87 : decode cX11_allBy 87 = .ok (.istore 6, 2) := by decide +kernel
theorem dX11_allBy_89 : decode cX11_allBy 89 = .ok (.iinc 5 1, 3) := by decide +kernel
theorem dX11_allBy_92 : decode cX11_allBy 92 = .ok (.iinc 8 1, 3) := by decide +kernel
theorem dX11_allBy_95 : decode cX11_allBy 95 = .ok (.goto (-54), 3) := by decide +kernel
theorem dX11_allBy_98 : decode cX11_allBy 98 = .ok (.iload_n 3, 1) := by decide +kernel
theorem dX11_allBy_99 : decode cX11_allBy 99 = .ok (.iconst 3, 1) := by decide +kernel
theorem dX11_allBy_100 : decode cX11_allBy 100 = .ok (.if_icmp .ne 6, 3) := by decide +kernel
theorem dX11_allBy_103 : decode cX11_allBy 103 = .ok (.iload 5, 2) := by decide +kernel
theorem dX11_allBy_105 : decode cX11_allBy 105 = .ok (.ireturn, 1) := by decide +kernel
theorem dX11_allBy_106 : decode cX11_allBy 106 = .ok (.iload_n 3, 1) := by decide +kernel
theorem dX11_allBy_107 : decode cX11_allBy 107 = .ok (.iconst 4, 1) := by decide +kernel
theorem dX11_allBy_108 : decode cX11_allBy 108 = .ok (.if_icmp .ne 8, 3) := by decide +kernel
theorem dX11_allBy_111 : decode cX11_allBy 111 = .ok (.iload 6, 2) := by decide +kernel
theorem dX11_allBy_113 : decode cX11_allBy 113 = .ok (.goto 5, 3) := by decide +kernel
theorem dX11_allBy_116 : decode cX11_allBy 116 = .ok (.iload 4, 2) := by decide +kernel
theorem dX11_allBy_118 : decode cX11_allBy 118 = .ok (.ireturn, 1) := by decide +kernel
theorem dX11_suppose_0 : decode cX11_suppose 0 = .ok (.iload_n 2, 1) := by decide +kernel
theorem dX11_suppose_1 : decode cX11_suppose 1 = .ok (.tableswitch 97 1 7 #[43, 51, 59, 59, 67, 75, 86], 43) := by decide +kernel
theorem dX11_suppose_44 : decode cX11_suppose 44 = .ok (.aload_n 1, 1) := by decide +kernel
theorem dX11_suppose_45 : decode cX11_suppose 45 = .ok (.iload_n 3, 1) := by decide +kernel
theorem dX11_suppose_46 : decode cX11_suppose 46 = .ok (.putfield 304, 3) := by decide +kernel
theorem dX11_suppose_49 : decode cX11_suppose 49 = .ok (.goto 49, 3) := by decide +kernel
theorem dX11_suppose_52 : decode cX11_suppose 52 = .ok (.aload_n 1, 1) := by decide +kernel
theorem dX11_suppose_53 : decode cX11_suppose 53 = .ok (.iload_n 3, 1) := by decide +kernel
theorem dX11_suppose_54 : decode cX11_suppose 54 = .ok (.putfield 307, 3) := by decide +kernel
theorem dX11_suppose_57 : decode cX11_suppose 57 = .ok (.goto 41, 3) := by decide +kernel
theorem dX11_suppose_60 : decode cX11_suppose 60 = .ok (.aload_n 1, 1) := by decide +kernel
theorem dX11_suppose_61 : decode cX11_suppose 61 = .ok (.iload_n 3, 1) := by decide +kernel
theorem dX11_suppose_62 : decode cX11_suppose 62 = .ok (.putfield 310, 3) := by decide +kernel
theorem dX11_suppose_65 : decode cX11_suppose 65 = .ok (.goto 33, 3) := by decide +kernel
theorem dX11_suppose_68 : decode cX11_suppose 68 = .ok (.aload_n 1, 1) := by decide +kernel
theorem dX11_suppose_69 : decode cX11_suppose 69 = .ok (.iload_n 3, 1) := by decide +kernel
theorem dX11_suppose_70 : decode cX11_suppose 70 = .ok (.putfield 313, 3) := by decide +kernel
theorem dX11_suppose_73 : decode cX11_suppose 73 = .ok (.goto 25, 3) := by decide +kernel
theorem dX11_suppose_76 : decode cX11_suppose 76 = .ok (.aload_n 0, 1) := by decide +kernel
theorem dX11_suppose_77 : decode cX11_suppose 77 = .ok (.getfield 16, 3) := by decide +kernel
theorem dX11_suppose_80 : decode cX11_suppose 80 = .ok (.iload_n 3, 1) := by decide +kernel
theorem dX11_suppose_81 : decode cX11_suppose 81 = .ok (.putfield 252, 3) := by decide +kernel
theorem dX11_suppose_84 : decode cX11_suppose 84 = .ok (.goto 14, 3) := by decide +kernel
theorem dX11_suppose_87 : decode cX11_suppose 87 = .ok (.aload_n 0, 1) := by decide +kernel
theorem dX11_suppose_88 : decode cX11_suppose 88 = .ok (.getfield 16, 3) := by decide +kernel
theorem dX11_suppose_91 : decode cX11_suppose 91 = .ok (.iload_n 3, 1) := by decide +kernel
theorem dX11_suppose_92 : decode cX11_suppose 92 = .ok (.putfield 169, 3) := by decide +kernel
theorem dX11_suppose_95 : decode cX11_suppose 95 = .ok (.goto 3, 3) := by decide +kernel
theorem dX11_suppose_98 : decode cX11_suppose 98 = .ok (.return_, 1) := by decide +kernel
set_option maxRecDepth 20000 in
theorem ggX11_sheet_X11_isSheet : GoodIn wsX11_sheet wsX11_isSheet := goodIn_r _ [5] (by decide +kernel) (by decide +kernel)
set_option maxRecDepth 20000 in
theorem gX11_sheet_X11_isSheet : GoodIn wsX11_sheet (va_wsS RX11 258 yX11_isSheet wsX11_isSheet) := goodIn_app (goodIn_of _ (by decide +kernel)) ggX11_sheet_X11_isSheet
set_option maxRecDepth 20000 in
theorem ggX11_sheet_X11_isWithin : GoodIn wsX11_sheet wsX11_isWithin := goodIn_r _ [8] (by decide +kernel) (by decide +kernel)
set_option maxRecDepth 20000 in
theorem gX11_sheet_X11_isWithin : GoodIn wsX11_sheet (va_wsS RX11 103 yX11_isWithin wsX11_isWithin) := goodIn_app (goodIn_of _ (by decide +kernel)) ggX11_sheet_X11_isWithin
set_option maxRecDepth 20000 in
theorem ggX11_sheet_X5_become : GoodIn wsX11_sheet wsX5_become := goodIn_r _ [13, 14, 15, 16, 17, 4, 18, 19, 20, 21, 22, 23, 24, 25, 37, 38, 39] (by decide +kernel) (by decide +kernel)
set_option maxRecDepth 20000 in
theorem gX11_sheet_X5_become : GoodIn wsX11_sheet (wsV RX11 273 RX5 yX5_become wsX5_become) := goodIn_app (goodIn_of _ (by decide +kernel)) ggX11_sheet_X5_become
theorem dX11_sheet_0 : decode cX11_sheet 0 = .ok (.iload_n 1, 1) := by decide +kernel
theorem dX11_sheet_1 : decode cX11_sheet 1 = .ok (.invokestatic 258, 3) := by decide +kernel
theorem dX11_sheet_4 : decode cX11_sheet 4 = .ok (.ifCond .eq 12, 3) := by decide +kernel
theorem dX11_sheet_7 : decode cX11_sheet 7 = .ok (.iload_n 2, 1) := by decide +kernel
theorem dX11_sheet_8 : decode cX11_sheet 8 = .ok (.iconst (-1), 1) := by decide +kernel
theorem dX11_sheet_9 : decode cX11_sheet 9 = .ok (.iconst 2, 1) := by decide +kernel
theorem dX11_sheet_10 : decode cX11_sheet 10 = .ok (.invokestatic 103, 3) := by decide +kernel
theorem dX11_sheet_13 : decode cX11_sheet 13 = .ok (.ifCond .ne 6, 3) := by decide +kernel
theorem dX11_sheet_16 : decode cX11_sheet 16 = .ok (.bipush (-2), 2) := by decide +kernel
theorem dX11_sheet_18 : decode cX11_sheet 18 = .ok (.ireturn, 1) := by decide +kernel
theorem dX11_sheet_19 : decode cX11_sheet 19 = .ok (.iload_n 2, 1) := by decide +kernel
theorem dX11_sheet_20 : decode cX11_sheet 20 = .ok (.iconst (-1), 1) := by decide +kernel
theorem dX11_sheet_21 : decode cX11_sheet 21 = .ok (.if_icmp .ne 16, 3) := by decide +kernel
theorem dX11_sheet_24 : decode cX11_sheet 24 = .ok (.aload_n 0, 1) := by decide +kernel
theorem dX11_sheet_25 : decode cX11_sheet 25 = .ok (.getfield 72, 3) := by decide +kernel
theorem dX11_sheet_28 : decode cX11_sheet 28 = .ok (.iload_n 1, 1) := by decide +kernel
theorem dX11_sheet_29 : decode cX11_sheet 29 = .ok (.aaload, 1) := by decide +kernel
theorem dX11_sheet_30 : decode cX11_sheet 30 = .ok (.iconst (-1), 1) := by decide +kernel
theorem dX11_sheet_31 : decode cX11_sheet 31 = .ok (.iconst 0, 1) := by decide +kernel
theorem dX11_sheet_32 : decode cX11_sheet 32 = .ok (.invokevirtual 273, 3) := by decide +kernel
theorem dX11_sheet_35 : decode cX11_sheet 35 = .ok (.iconst 1, 1) := by decide +kernel
theorem dX11_sheet_36 : decode cX11_sheet 36 = .ok (.ireturn, 1) := by decide +kernel
theorem dX11_sheet_37 : decode cX11_sheet 37 = .ok (.iload_n 3, 1) := by decide +kernel
theorem dX11_sheet_38 : decode cX11_sheet 38 = .ok (.bipush 40, 2) := by decide +kernel
theorem dX11_sheet_40 : decode cX11_sheet 40 = .ok (.if_icmp .le 6, 3) := by decide +kernel
theorem dX11_sheet_43 : decode cX11_sheet 43 = .ok (.bipush (-2), 2) := by decide +kernel
theorem dX11_sheet_45 : decode cX11_sheet 45 = .ok (.ireturn, 1) := by decide +kernel
theorem dX11_sheet_46 : decode cX11_sheet 46 = .ok (.iload_n 3, 1) := by decide +kernel
theorem dX11_sheet_47 : decode cX11_sheet 47 = .ok (.ifCond .ge 6, 3) := by decide +kernel
theorem dX11_sheet_50 : decode cX11_sheet 50 = .ok (.bipush (-14), 2) := by decide +kernel
theorem dX11_sheet_52 : decode cX11_sheet 52 = .ok (.ireturn, 1) := by decide +kernel
theorem dX11_sheet_53 : decode cX11_sheet 53 = .ok (.aload_n 0, 1) := by decide +kernel
theorem dX11_sheet_54 : decode cX11_sheet 54 = .ok (.getfield 72, 3) := by decide +kernel
theorem dX11_sheet_57 : decode cX11_sheet 57 = .ok (.iload_n 1, 1) := by decide +kernel
theorem dX11_sheet_58 : decode cX11_sheet 58 = .ok (.aaload, 1) := by decide +kernel
theorem dX11_sheet_59 : decode cX11_sheet 59 = .ok (.iload_n 2, 1) := by decide +kernel
theorem dX11_sheet_60 : decode cX11_sheet 60 = .ok (.iload_n 3, 1) := by decide +kernel
theorem dX11_sheet_61 : decode cX11_sheet 61 = .ok (.invokevirtual 273, 3) := by decide +kernel
theorem dX11_sheet_64 : decode cX11_sheet 64 = .ok (.iconst 1, 1) := by decide +kernel
theorem dX11_sheet_65 : decode cX11_sheet 65 = .ok (.ireturn, 1) := by decide +kernel
set_option maxRecDepth 20000 in
theorem ggX11_cell_X11_isSheet : GoodIn wsX11_cell wsX11_isSheet := goodIn_r _ [5] (by decide +kernel) (by decide +kernel)
set_option maxRecDepth 20000 in
theorem gX11_cell_X11_isSheet : GoodIn wsX11_cell (va_wsS RX11 258 yX11_isSheet wsX11_isSheet) := goodIn_app (goodIn_of _ (by decide +kernel)) ggX11_cell_X11_isSheet
set_option maxRecDepth 20000 in
theorem ggX11_cell_X5_isMissing : GoodIn wsX11_cell wsX5_isMissing := goodIn_r _ [10, 11, 34, 35, 36] (by decide +kernel) (by decide +kernel)
set_option maxRecDepth 20000 in
theorem gX11_cell_X5_isMissing : GoodIn wsX11_cell (wsV RX11 261 RX5 yX5_isMissing wsX5_isMissing) := goodIn_app (goodIn_of _ (by decide +kernel)) ggX11_cell_X5_isMissing
set_option maxRecDepth 20000 in
theorem ggX11_cell_X5_holds : GoodIn wsX11_cell wsX5_holds := goodIn_r _ [15, 16, 34, 35, 36] (by decide +kernel) (by decide +kernel)
set_option maxRecDepth 20000 in
theorem gX11_cell_X5_holds : GoodIn wsX11_cell (wsV RX11 316 RX5 yX5_holds wsX5_holds) := goodIn_app (goodIn_of _ (by decide +kernel)) ggX11_cell_X5_holds
set_option maxRecDepth 20000 in
theorem ggX11_cell_X5_put : GoodIn wsX11_cell wsX5_put := goodIn_r _ [20, 11, 21, 22, 13, 14, 9, 15, 16, 34, 35, 36] (by decide +kernel) (by decide +kernel)
set_option maxRecDepth 20000 in
theorem gX11_cell_X5_put : GoodIn wsX11_cell (wsV RX11 275 RX5 yX5_put wsX5_put) := goodIn_app (goodIn_of _ (by decide +kernel)) ggX11_cell_X5_put
theorem dX11_cell_0 : decode cX11_cell 0 = .ok (.iload_n 1, 1) := by decide +kernel
theorem dX11_cell_1 : decode cX11_cell 1 = .ok (.invokestatic 258, 3) := by decide +kernel
theorem dX11_cell_4 : decode cX11_cell 4 = .ok (.ifCond .ne 6, 3) := by decide +kernel
theorem dX11_cell_7 : decode cX11_cell 7 = .ok (.bipush (-2), 2) := by decide +kernel
theorem dX11_cell_9 : decode cX11_cell 9 = .ok (.ireturn, 1) := by decide +kernel
theorem dX11_cell_10 : decode cX11_cell 10 = .ok (.aload_n 0, 1) := by decide +kernel
theorem dX11_cell_11 : decode cX11_cell 11 = .ok (.getfield 72, 3) := by decide +kernel
theorem dX11_cell_14 : decode cX11_cell 14 = .ok (.iload_n 1, 1) := by decide +kernel
theorem dX11_cell_15 : decode cX11_cell 15 = .ok (.aaload, 1) := by decide +kernel
theorem dX11_cell_16 : decode cX11_cell 16 = .ok (.astore 4, 2) := by decide +kernel
theorem dX11_cell_18 : decode cX11_cell 18 = .ok (.aload 4, 2) := by decide +kernel
theorem dX11_cell_20 : decode cX11_cell 20 = .ok (.invokevirtual 261, 3) := by decide +kernel
theorem dX11_cell_23 : decode cX11_cell 23 = .ok (.ifCond .eq 6, 3) := by decide +kernel
theorem dX11_cell_26 : decode cX11_cell 26 = .ok (.bipush (-11), 2) := by decide +kernel
theorem dX11_cell_28 : decode cX11_cell 28 = .ok (.ireturn, 1) := by decide +kernel
theorem dX11_cell_29 : decode cX11_cell 29 = .ok (.aload 4, 2) := by decide +kernel
theorem dX11_cell_31 : decode cX11_cell 31 = .ok (.iload_n 2, 1) := by decide +kernel
theorem dX11_cell_32 : decode cX11_cell 32 = .ok (.iconst 1, 1) := by decide +kernel
theorem dX11_cell_33 : decode cX11_cell 33 = .ok (.invokevirtual 316, 3) := by decide +kernel
theorem dX11_cell_36 : decode cX11_cell 36 = .ok (.ifCond .ne 6, 3) := by decide +kernel
theorem dX11_cell_39 : decode cX11_cell 39 = .ok (.bipush (-12), 2) := by decide +kernel
theorem dX11_cell_41 : decode cX11_cell 41 = .ok (.ireturn, 1) := by decide +kernel
theorem dX11_cell_42 : decode cX11_cell 42 = .ok (.aload 4, 2) := by decide +kernel
theorem dX11_cell_44 : decode cX11_cell 44 = .ok (.iload_n 2, 1) := by decide +kernel
theorem dX11_cell_45 : decode cX11_cell 45 = .ok (.iload_n 3, 1) := by decide +kernel
theorem dX11_cell_46 : decode cX11_cell 46 = .ok (.invokevirtual 275, 3) := by decide +kernel
theorem dX11_cell_49 : decode cX11_cell 49 = .ok (.iconst 1, 1) := by decide +kernel
theorem dX11_cell_50 : decode cX11_cell 50 = .ok (.ireturn, 1) := by decide +kernel
set_option maxRecDepth 20000 in
theorem ggX11_copy_X11_isSheet : GoodIn wsX11_copy wsX11_isSheet := goodIn_r _ [11] (by decide +kernel) (by decide +kernel)
set_option maxRecDepth 20000 in
theorem gX11_copy_X11_isSheet : GoodIn wsX11_copy (va_wsS RX11 258 yX11_isSheet wsX11_isSheet) := goodIn_app (goodIn_of _ (by decide +kernel)) ggX11_copy_X11_isSheet
set_option maxRecDepth 20000 in
theorem ggX11_copy_X5_isMissing : GoodIn wsX11_copy wsX5_isMissing := goodIn_r _ [16, 17, 34, 35, 36] (by decide +kernel) (by decide +kernel)
set_option maxRecDepth 20000 in
theorem gX11_copy_X5_isMissing : GoodIn wsX11_copy (wsV RX11 261 RX5 yX5_isMissing wsX5_isMissing) := goodIn_app (goodIn_of _ (by decide +kernel)) ggX11_copy_X5_isMissing
set_option maxRecDepth 20000 in
theorem ggX11_copy_X5_holds : GoodIn wsX11_copy wsX5_holds := goodIn_r _ [21, 22, 34, 35, 36] (by decide +kernel) (by decide +kernel)
set_option maxRecDepth 20000 in
theorem gX11_copy_X5_holds : GoodIn wsX11_copy (wsV RX11 316 RX5 yX5_holds wsX5_holds) := goodIn_app (goodIn_of _ (by decide +kernel)) ggX11_copy_X5_holds
theorem dX11_copy_0 : decode cX11_copy 0 = .ok (.iload_n 1, 1) := by decide +kernel
theorem dX11_copy_1 : decode cX11_copy 1 = .ok (.invokestatic 258, 3) := by decide +kernel
theorem dX11_copy_4 : decode cX11_copy 4 = .ok (.ifCond .eq 10, 3) := by decide +kernel
theorem dX11_copy_7 : decode cX11_copy 7 = .ok (.iload_n 3, 1) := by decide +kernel
theorem dX11_copy_8 : decode cX11_copy 8 = .ok (.invokestatic 258, 3) := by decide +kernel
theorem dX11_copy_11 : decode cX11_copy 11 = .ok (.ifCond .ne 6, 3) := by decide +kernel
theorem dX11_copy_14 : decode cX11_copy 14 = .ok (.bipush (-2), 2) := by decide +kernel
theorem dX11_copy_16 : decode cX11_copy 16 = .ok (.ireturn, 1) := by decide +kernel
theorem dX11_copy_17 : decode cX11_copy 17 = .ok (.aload_n 0, 1) := by decide +kernel
theorem dX11_copy_18 : decode cX11_copy 18 = .ok (.getfield 72, 3) := by decide +kernel
theorem dX11_copy_21 : decode cX11_copy 21 = .ok (.iload_n 1, 1) := by decide +kernel
theorem dX11_copy_22 : decode cX11_copy 22 = .ok (.aaload, 1) := by decide +kernel
theorem dX11_copy_23 : decode cX11_copy 23 = .ok (.astore 6, 2) := by decide +kernel
theorem dX11_copy_25 : decode cX11_copy 25 = .ok (.aload_n 0, 1) := by decide +kernel
theorem dX11_copy_26 : decode cX11_copy 26 = .ok (.getfield 72, 3) := by decide +kernel
theorem dX11_copy_29 : decode cX11_copy 29 = .ok (.iload_n 3, 1) := by decide +kernel
theorem dX11_copy_30 : decode cX11_copy 30 = .ok (.aaload, 1) := by decide +kernel
theorem dX11_copy_31 : decode cX11_copy 31 = .ok (.astore 7, 2) := by decide +kernel
theorem dX11_copy_33 : decode cX11_copy 33 = .ok (.aload 6, 2) := by decide +kernel
theorem dX11_copy_35 : decode cX11_copy 35 = .ok (.invokevirtual 261, 3) := by decide +kernel
theorem dX11_copy_38 : decode cX11_copy 38 = .ok (.ifCond .ne 11, 3) := by decide +kernel
theorem dX11_copy_41 : decode cX11_copy 41 = .ok (.aload 7, 2) := by decide +kernel
theorem dX11_copy_43 : decode cX11_copy 43 = .ok (.invokevirtual 261, 3) := by decide +kernel
theorem dX11_copy_46 : decode cX11_copy 46 = .ok (.ifCond .eq 6, 3) := by decide +kernel
theorem dX11_copy_49 : decode cX11_copy 49 = .ok (.bipush (-11), 2) := by decide +kernel
theorem dX11_copy_51 : decode cX11_copy 51 = .ok (.ireturn, 1) := by decide +kernel
theorem dX11_copy_52 : decode cX11_copy 52 = .ok (.aload 6, 2) := by decide +kernel
theorem dX11_copy_54 : decode cX11_copy 54 = .ok (.getfield 320, 3) := by decide +kernel
theorem dX11_copy_57 : decode cX11_copy 57 = .ok (.aload 7, 2) := by decide +kernel
theorem dX11_copy_59 : decode cX11_copy 59 = .ok (.getfield 320, 3) := by decide +kernel
theorem dX11_copy_62 : decode cX11_copy 62 = .ok (.if_icmp .eq 6, 3) := by decide +kernel
theorem dX11_copy_65 : decode cX11_copy 65 = .ok (.bipush (-13), 2) := by decide +kernel
theorem dX11_copy_67 : decode cX11_copy 67 = .ok (.ireturn, 1) := by decide +kernel
theorem dX11_copy_68 : decode cX11_copy 68 = .ok (.aload 6, 2) := by decide +kernel
theorem dX11_copy_70 : decode cX11_copy 70 = .ok (.iload_n 2, 1) := by decide +kernel
theorem dX11_copy_71 : decode cX11_copy 71 = .ok (.iload 5, 2) := by decide +kernel
theorem dX11_copy_73 : decode cX11_copy 73 = .ok (.invokevirtual 316, 3) := by decide +kernel
theorem dX11_copy_76 : decode cX11_copy 76 = .ok (.ifCond .eq 15, 3) := by decide +kernel
theorem dX11_copy_79 : decode cX11_copy 79 = .ok (.aload 7, 2) := by decide +kernel
theorem dX11_copy_81 : decode cX11_copy 81 = .ok (.iload 4, 2) := by decide +kernel
theorem dX11_copy_83 : decode cX11_copy 83 = .ok (.iload 5, 2) := by decide +kernel
theorem dX11_copy_85 : decode cX11_copy 85 = .ok (.invokevirtual 316, 3) := by decide +kernel
theorem dX11_copy_88 : decode cX11_copy 88 = .ok (.ifCond .ne 6, 3) := by decide +kernel
theorem dX11_copy_91 : decode cX11_copy 91 = .ok (.bipush (-12), 2) := by decide +kernel
theorem dX11_copy_93 : decode cX11_copy 93 = .ok (.ireturn, 1) := by decide +kernel
theorem dX11_copy_94 : decode cX11_copy 94 = .ok (.aload 6, 2) := by decide +kernel
theorem dX11_copy_96 : decode cX11_copy 96 = .ok (.getfield 291, 3) := by decide +kernel
theorem dX11_copy_99 : decode cX11_copy 99 = .ok (.iload_n 2, 1) := by decide +kernel
theorem dX11_copy_100 : decode cX11_copy 100 = .ok (.aload 7, 2) := by decide +kernel
theorem dX11_copy_102 : decode cX11_copy 102 = .ok (.getfield 291, 3) := by decide +kernel
theorem dX11_copy_105 : decode cX11_copy 105 = .ok (.iload 4, 2) := by decide +kernel
theorem dX11_copy_107 : decode cX11_copy 107 = .ok (.iload 5, 2) := by decide +kernel
theorem dX11_copy_109 : decode cX11_copy 109 = .ok (.invokestatic 323, 3) := by decide +kernel
theorem dX11_copy_112 : decode cX11_copy 112 = .ok (.iload 5, 2) := by decide +kernel
theorem dX11_copy_114 : decode cX11_copy 114 = .ok (.ireturn, 1) := by decide +kernel
set_option maxRecDepth 20000 in
theorem ggX11_customers_X11_isSheet : GoodIn wsX11_customers wsX11_isSheet := goodIn_r _ [7] (by decide +kernel) (by decide +kernel)
set_option maxRecDepth 20000 in
theorem gX11_customers_X11_isSheet : GoodIn wsX11_customers (va_wsS RX11 258 yX11_isSheet wsX11_isSheet) := goodIn_app (goodIn_of _ (by decide +kernel)) ggX11_customers_X11_isSheet
set_option maxRecDepth 20000 in
theorem ggX11_customers_X11_isWithin : GoodIn wsX11_customers wsX11_isWithin := goodIn_r _ [10] (by decide +kernel) (by decide +kernel)
set_option maxRecDepth 20000 in
theorem gX11_customers_X11_isWithin : GoodIn wsX11_customers (va_wsS RX11 103 yX11_isWithin wsX11_isWithin) := goodIn_app (goodIn_of _ (by decide +kernel)) ggX11_customers_X11_isWithin
set_option maxRecDepth 20000 in
theorem ggX11_customers_X5_isMissing : GoodIn wsX11_customers wsX5_isMissing := goodIn_r _ [15, 16, 53, 54, 55] (by decide +kernel) (by decide +kernel)
set_option maxRecDepth 20000 in
theorem gX11_customers_X5_isMissing : GoodIn wsX11_customers (wsV RX11 261 RX5 yX5_isMissing wsX5_isMissing) := goodIn_app (goodIn_of _ (by decide +kernel)) ggX11_customers_X5_isMissing
set_option maxRecDepth 20000 in
theorem ggX11_customers_X5_holds : GoodIn wsX11_customers wsX5_holds := goodIn_r _ [20, 21, 53, 54, 55] (by decide +kernel) (by decide +kernel)
set_option maxRecDepth 20000 in
theorem gX11_customers_X5_holds : GoodIn wsX11_customers (wsV RX11 316 RX5 yX5_holds wsX5_holds) := goodIn_app (goodIn_of _ (by decide +kernel)) ggX11_customers_X5_holds
set_option maxRecDepth 20000 in
theorem ggX11_customers_X11_customer : GoodIn wsX11_customers wsX11_customer := goodIn_r _ [25, 26, 27, 28, 8, 9, 6, 10, 29, 30, 31, 32, 33, 34, 35, 36, 37, 38, 39, 40, 41, 42, 43, 44, 45, 46, 47, 48, 49, 50, 51, 52, 56, 57, 58, 59, 60, 61, 62, 63, 64, 65, 66, 67, 68] (by decide +kernel) (by decide +kernel)
set_option maxRecDepth 20000 in
theorem gX11_customers_X11_customer : GoodIn wsX11_customers (wsV RX11 329 RX11 yX11_customer wsX11_customer) := goodIn_app (goodIn_of _ (by decide +kernel)) ggX11_customers_X11_customer
theorem dX11_customers_0 : decode cX11_customers 0 = .ok (.iload_n 1, 1) := by decide +kernel
theorem dX11_customers_1 : decode cX11_customers 1 = .ok (.invokestatic 258, 3) := by decide +kernel
theorem dX11_customers_4 : decode cX11_customers 4 = .ok (.ifCond .eq 23, 3) := by decide +kernel
theorem dX11_customers_7 : decode cX11_customers 7 = .ok (.iload_n 2, 1) := by decide +kernel
theorem dX11_customers_8 : decode cX11_customers 8 = .ok (.iconst 0, 1) := by decide +kernel
theorem dX11_customers_9 : decode cX11_customers 9 = .ok (.iconst 2, 1) := by decide +kernel
theorem dX11_customers_10 : decode cX11_customers 10 = .ok (.invokestatic 103, 3) := by decide +kernel
theorem dX11_customers_13 : decode cX11_customers 13 = .ok (.ifCond .eq 14, 3) := by decide +kernel
theorem dX11_customers_16 : decode cX11_customers 16 = .ok (.iload 4, 2) := by decide +kernel
theorem dX11_customers_18 : decode cX11_customers 18 = .ok (.iconst 0, 1) := by decide +kernel
theorem dX11_customers_19 : decode cX11_customers 19 = .ok (.bipush 8, 2) := by decide +kernel
theorem dX11_customers_21 : decode cX11_customers 21 = .ok (.invokestatic 103, 3) := by decide +kernel
theorem dX11_customers_24 : decode cX11_customers 24 = .ok (.ifCond .ne 6, 3) := by decide +kernel
theorem dX11_customers_27 : decode cX11_customers 27 = .ok (.bipush (-2), 2) := by decide +kernel
theorem dX11_customers_29 : decode cX11_customers 29 = .ok (.ireturn, 1) := by decide +kernel
theorem dX11_customers_30 : decode cX11_customers 30 = .ok (.aload_n 0, 1) := by decide +kernel
theorem dX11_customers_31 : decode cX11_customers 31 = .ok (.getfield 72, 3) := by decide +kernel
theorem dX11_customers_34 : decode cX11_customers 34 = .ok (.iload_n 1, 1) := by decide +kernel
theorem dX11_customers_35 : decode cX11_customers 35 = .ok (.aaload, 1) := by decide +kernel
theorem dX11_customers_36 : decode cX11_customers 36 = .ok (.astore 5, 2) := by decide +kernel
theorem dX11_customers_38 : decode cX11_customers 38 = .ok (.aload 5, 2) := by decide +kernel
theorem dX11_customers_40 : decode cX11_customers 40 = .ok (.invokevirtual 261, 3) := by decide +kernel
theorem dX11_customers_43 : decode cX11_customers 43 = .ok (.ifCond .ne 15, 3) := by decide +kernel
theorem dX11_customers_46 : decode cX11_customers 46 = .ok (.aload 5, 2) := by decide +kernel
theorem dX11_customers_48 : decode cX11_customers 48 = .ok (.getfield 320, 3) := by decide +kernel
theorem dX11_customers_51 : decode cX11_customers 51 = .ok (.iload_n 2, 1) := by decide +kernel
theorem dX11_customers_52 : decode cX11_customers 52 = .ok (.if_icmp .eq 6, 3) := by decide +kernel
theorem dX11_customers_55 : decode cX11_customers 55 = .ok (.bipush (-13), 2) := by decide +kernel
theorem dX11_customers_57 : decode cX11_customers 57 = .ok (.ireturn, 1) := by decide +kernel
theorem dX11_customers_58 : decode cX11_customers 58 = .ok (.aload 5, 2) := by decide +kernel
theorem dX11_customers_60 : decode cX11_customers 60 = .ok (.invokevirtual 261, 3) := by decide +kernel
theorem dX11_customers_63 : decode cX11_customers 63 = .ok (.ifCond .eq 6, 3) := by decide +kernel
theorem dX11_customers_66 : decode cX11_customers 66 = .ok (.bipush (-11), 2) := by decide +kernel
theorem dX11_customers_68 : decode cX11_customers 68 = .ok (.ireturn, 1) := by decide +kernel
theorem dX11_customers_69 : decode cX11_customers 69 = .ok (.iconst 0, 1) := by decide +kernel
theorem dX11_customers_70 : decode cX11_customers 70 = .ok (.istore 6, 2) := by decide +kernel
theorem dX11_customers_72 : decode cX11_customers 72 = .ok (.iload_n 3, 1) := by decide +kernel
theorem dX11_customers_73 : decode cX11_customers 73 = .ok (.istore 7, 2) := by decide +kernel
theorem dX11_customers_75 : decode cX11_customers 75 = .ok (.iconst 0, 1) := by decide +kernel
theorem dX11_customers_76 : decode cX11_customers 76 = .ok (.istore 8, 2) := by decide +kernel
theorem dX11_customers_78 : decode cX11_customers 78 = .ok (.iload 8, 2) := by decide +kernel
theorem dX11_customers_80 : decode cX11_customers 80 = .ok (.iload 4, 2) := by decide +kernel
theorem dX11_customers_82 : decode cX11_customers 82 = .ok (.if_icmp .ge 64, 3) := by decide +kernel
theorem dX11_customers_85 : decode cX11_customers 85 = .ok (.aload 5, 2) := by decide +kernel
theorem dX11_customers_87 : decode cX11_customers 87 = .ok (.iload 7, 2) := by decide +kernel
theorem dX11_customers_89 : decode cX11_customers 89 = .ok (.iconst 3, 1) := by decide +kernel
theorem dX11_customers_90 : decode cX11_customers 90 = .ok (.invokevirtual 316, 3) := by decide +kernel
theorem dX11_customers_93 : decode cX11_customers 93 = .ok (.ifCond .ne 6, 3) := by decide +kernel
theorem dX11_customers_96 : decode cX11_customers 96 = .ok (.bipush (-12), 2) := by decide +kernel
theorem dX11_customers_98 : decode cX11_customers 98 = .ok (.ireturn, 1) := by decide +kernel
theorem dX11_customers_99 : decode cX11_customers 99 = .ok (.aload_n 0, 1) := by decide +kernel
theorem dX11_customers_100 : decode cX11_customers 100 = .ok (.aload 5, 2) := by decide +kernel
theorem dX11_customers_102 : decode cX11_customers 102 = .ok (.getfield 291, 3) := by decide +kernel
theorem dX11_customers_105 : decode cX11_customers 105 = .ok (.iload 7, 2) := by decide +kernel
theorem dX11_customers_107 : decode cX11_customers 107 = .ok (.iaload, 1) := by decide +kernel
theorem dX11_customers_108 : decode cX11_customers 108 = .ok (.aload 5, 2) := by decide +kernel
theorem dX11_customers_110 : decode cX11_customers 110 = .ok (.getfield 291, 3) := by decide +kernel
theorem dX11_customers_113 : decode cX11_customers 113 = .ok (.iload 7, 2) := by decide +kernel
theorem dX11_customers_115 : decode cX11_customers 115 = .ok (.iconst 1, 1) := by decide +kernel
theorem dX11_customers_116 : decode cX11_customers 116 = .ok (.iadd, 1) := by decide +kernel
theorem dX11_customers_117 : decode cX11_customers 117 = .ok (.iaload, 1) := by decide +kernel
theorem dX11_customers_118 : decode cX11_customers 118 = .ok (.aload 5, 2) := by decide +kernel
theorem dX11_customers_120 : decode cX11_customers 120 = .ok (.getfield 291, 3) := by decide +kernel
theorem dX11_customers_123 : decode cX11_customers 123 = .ok (.iload 7, 2) := by decide +kernel
theorem dX11_customers_125 : decode cX11_customers 125 = .ok (.iconst 2, 1) := by decide +kernel
theorem dX11_customers_126 : decode cX11_customers 126 = .ok (.iadd, 1) := by decide +kernel
theorem dX11_customers_127 : decode cX11_customers 127 = .ok (.iaload, 1) := by decide +kernel
theorem dX11_customers_128 : decode cX11_customers 128 = .ok (.invokevirtual 329, 3) := by decide +kernel
theorem dX11_customers_131 : decode cX11_customers 131 = .ok (.ifCond .lt 6, 3) := by decide +kernel
theorem dX11_customers_134 : decode cX11_customers 134 = .ok (.iinc 6 1, 3) := by decide +kernel
theorem dX11_customers_137 : decode cX11_customers 137 = .ok (.iinc 7 3, 3) := by decide +kernel
theorem dX11_customers_140 : decode cX11_customers 140 = .ok (.iinc 8 1, 3) := by decide +kernel
theorem dX11_customers_143 : decode cX11_customers 143 = .ok (.goto (-65), 3) := by decide +kernel
theorem dX11_customers_146 : decode cX11_customers 146 = .ok (.iload 6, 2) := by decide +kernel
theorem dX11_customers_148 : decode cX11_customers 148 = .ok (.ireturn, 1) := by decide +kernel
set_option maxRecDepth 20000 in
theorem ggX11_taken_X11_isWithin : GoodIn wsX11_taken wsX11_isWithin := goodIn_r _ [8] (by decide +kernel) (by decide +kernel)
set_option maxRecDepth 20000 in
theorem gX11_taken_X11_isWithin : GoodIn wsX11_taken (va_wsS RX11 103 yX11_isWithin wsX11_isWithin) := goodIn_app (goodIn_of _ (by decide +kernel)) ggX11_taken_X11_isWithin
set_option maxRecDepth 20000 in
theorem ggX11_taken_X6_has : GoodIn wsX11_taken wsX6_has := goodIn_r _ [13, 14, 30, 31, 32, 33, 34, 35, 36, 37] (by decide +kernel) (by decide +kernel)
set_option maxRecDepth 20000 in
theorem gX11_taken_X6_has : GoodIn wsX11_taken (wsV RX11 115 RX6 yX6_has wsX6_has) := goodIn_app (goodIn_of _ (by decide +kernel)) ggX11_taken_X6_has
set_option maxRecDepth 20000 in
theorem ggX11_taken_X11_isUnder : GoodIn wsX11_taken wsX11_isUnder := goodIn_r _ [17, 18] (by decide +kernel) (by decide +kernel)
set_option maxRecDepth 20000 in
theorem gX11_taken_X11_isUnder : GoodIn wsX11_taken (va_wsS RX11 333 yX11_isUnder wsX11_isUnder) := goodIn_app (goodIn_of _ (by decide +kernel)) ggX11_taken_X11_isUnder
theorem dX11_taken_0 : decode cX11_taken 0 = .ok (.iload_n 2, 1) := by decide +kernel
theorem dX11_taken_1 : decode cX11_taken 1 = .ok (.iconst 0, 1) := by decide +kernel
theorem dX11_taken_2 : decode cX11_taken 2 = .ok (.iconst 5, 1) := by decide +kernel
theorem dX11_taken_3 : decode cX11_taken 3 = .ok (.invokestatic 103, 3) := by decide +kernel
theorem dX11_taken_6 : decode cX11_taken 6 = .ok (.ifCond .ne 6, 3) := by decide +kernel
theorem dX11_taken_9 : decode cX11_taken 9 = .ok (.bipush (-2), 2) := by decide +kernel
theorem dX11_taken_11 : decode cX11_taken 11 = .ok (.ireturn, 1) := by decide +kernel
theorem dX11_taken_12 : decode cX11_taken 12 = .ok (.aload_n 0, 1) := by decide +kernel
theorem dX11_taken_13 : decode cX11_taken 13 = .ok (.getfield 10, 3) := by decide +kernel
theorem dX11_taken_16 : decode cX11_taken 16 = .ok (.iload_n 1, 1) := by decide +kernel
theorem dX11_taken_17 : decode cX11_taken 17 = .ok (.invokevirtual 115, 3) := by decide +kernel
theorem dX11_taken_20 : decode cX11_taken 20 = .ok (.ifCond .ne 6, 3) := by decide +kernel
theorem dX11_taken_23 : decode cX11_taken 23 = .ok (.bipush (-11), 2) := by decide +kernel
theorem dX11_taken_25 : decode cX11_taken 25 = .ok (.ireturn, 1) := by decide +kernel
theorem dX11_taken_26 : decode cX11_taken 26 = .ok (.aload_n 0, 1) := by decide +kernel
theorem dX11_taken_27 : decode cX11_taken 27 = .ok (.getfield 10, 3) := by decide +kernel
theorem dX11_taken_30 : decode cX11_taken 30 = .ok (.getfield 118, 3) := by decide +kernel
theorem dX11_taken_33 : decode cX11_taken 33 = .ok (.iload_n 1, 1) := by decide +kernel
theorem dX11_taken_34 : decode cX11_taken 34 = .ok (.aaload, 1) := by decide +kernel
theorem dX11_taken_35 : decode cX11_taken 35 = .ok (.astore_n 3, 1) := by decide +kernel
theorem dX11_taken_36 : decode cX11_taken 36 = .ok (.aload_n 3, 1) := by decide +kernel
theorem dX11_taken_37 : decode cX11_taken 37 = .ok (.getfield 304, 3) := by decide +kernel
theorem dX11_taken_40 : decode cX11_taken 40 = .ok (.iload_n 2, 1) := by decide +kernel
theorem dX11_taken_41 : decode cX11_taken 41 = .ok (.invokestatic 333, 3) := by decide +kernel
theorem dX11_taken_44 : decode cX11_taken 44 = .ok (.ifCond .eq 10, 3) := by decide +kernel
theorem dX11_taken_47 : decode cX11_taken 47 = .ok (.aload_n 3, 1) := by decide +kernel
theorem dX11_taken_48 : decode cX11_taken 48 = .ok (.getfield 307, 3) := by decide +kernel
theorem dX11_taken_51 : decode cX11_taken 51 = .ok (.goto 5, 3) := by decide +kernel
theorem dX11_taken_54 : decode cX11_taken 54 = .ok (.bipush (-13), 2) := by decide +kernel
theorem dX11_taken_56 : decode cX11_taken 56 = .ok (.ireturn, 1) := by decide +kernel
theorem dX11_isUnder_0 : decode cX11_isUnder 0 = .ok (.iload_n 0, 1) := by decide +kernel
theorem dX11_isUnder_1 : decode cX11_isUnder 1 = .ok (.istore_n 2, 1) := by decide +kernel
theorem dX11_isUnder_2 : decode cX11_isUnder 2 = .ok (.iconst 0, 1) := by decide +kernel
theorem dX11_isUnder_3 : decode cX11_isUnder 3 = .ok (.istore_n 3, 1) := by decide +kernel
theorem dX11_isUnder_4 : decode cX11_isUnder 4 = .ok (.iload_n 3, 1) := by decide +kernel
theorem dX11_isUnder_5 : decode cX11_isUnder 5 = .ok (.getstatic 336, 3) := by decide +kernel
theorem dX11_isUnder_8 : decode cX11_isUnder 8 = .ok (.arraylength, 1) := by decide +kernel
theorem dX11_isUnder_9 : decode cX11_isUnder 9 = .ok (.if_icmp .ge 34, 3) := by decide +kernel
theorem dX11_isUnder_12 : decode cX11_isUnder 12 = .ok (.iload_n 2, 1) := by decide +kernel
theorem dX11_isUnder_13 : decode cX11_isUnder 13 = .ok (.ifCond .lt 30, 3) := by decide +kernel
theorem dX11_isUnder_16 : decode cX11_isUnder 16 = .ok (.iload_n 2, 1) := by decide +kernel
theorem dX11_isUnder_17 : decode cX11_isUnder 17 = .ok (.getstatic 336, 3) := by decide +kernel
theorem dX11_isUnder_20 : decode cX11_isUnder 20 = .ok (.arraylength, 1) := by decide +kernel
theorem dX11_isUnder_21 : decode cX11_isUnder 21 = .ok (.if_icmp .ge 22, 3) := by decide +kernel
theorem dX11_isUnder_24 : decode cX11_isUnder 24 = .ok (.iload_n 2, 1) := by decide +kernel
theorem dX11_isUnder_25 : decode cX11_isUnder 25 = .ok (.iload_n 1, 1) := by decide +kernel
theorem dX11_isUnder_26 : decode cX11_isUnder 26 = .ok (.if_icmp .ne 5, 3) := by decide +kernel
theorem dX11_isUnder_29 : decode cX11_isUnder 29 = .ok (.iconst 1, 1) := by decide +kernel
theorem dX11_isUnder_30 : decode cX11_isUnder 30 = .ok (.ireturn, 1) := by decide +kernel
theorem dX11_isUnder_31 : decode cX11_isUnder 31 = .ok (.getstatic 336, 3) := by decide +kernel
theorem dX11_isUnder_34 : decode cX11_isUnder 34 = .ok (.iload_n 2, 1) := by decide +kernel
theorem dX11_isUnder_35 : decode cX11_isUnder 35 = .ok (.iaload, 1) := by decide +kernel
theorem dX11_isUnder_36 : decode cX11_isUnder 36 = .ok (.istore_n 2, 1) := by decide +kernel
theorem dX11_isUnder_37 : decode cX11_isUnder 37 = .ok (.iinc 3 1, 3) := by decide +kernel
theorem dX11_isUnder_40 : decode cX11_isUnder 40 = .ok (.goto (-36), 3) := by decide +kernel
theorem dX11_isUnder_43 : decode cX11_isUnder 43 = .ok (.iconst 0, 1) := by decide +kernel
theorem dX11_isUnder_44 : decode cX11_isUnder 44 = .ok (.ireturn, 1) := by decide +kernel
theorem dX11_isWithin_0 : decode cX11_isWithin 0 = .ok (.iload_n 0, 1) := by decide +kernel
theorem dX11_isWithin_1 : decode cX11_isWithin 1 = .ok (.iload_n 1, 1) := by decide +kernel
theorem dX11_isWithin_2 : decode cX11_isWithin 2 = .ok (.if_icmp .lt 12, 3) := by decide +kernel
theorem dX11_isWithin_5 : decode cX11_isWithin 5 = .ok (.iload_n 0, 1) := by decide +kernel
theorem dX11_isWithin_6 : decode cX11_isWithin 6 = .ok (.iload_n 2, 1) := by decide +kernel
theorem dX11_isWithin_7 : decode cX11_isWithin 7 = .ok (.if_icmp .gt 7, 3) := by decide +kernel
theorem dX11_isWithin_10 : decode cX11_isWithin 10 = .ok (.iconst 1, 1) := by decide +kernel
theorem dX11_isWithin_11 : decode cX11_isWithin 11 = .ok (.goto 4, 3) := by decide +kernel
theorem dX11_isWithin_14 : decode cX11_isWithin 14 = .ok (.iconst 0, 1) := by decide +kernel
theorem dX11_isWithin_15 : decode cX11_isWithin 15 = .ok (.ireturn, 1) := by decide +kernel
theorem dX11_isZeroOrOne_0 : decode cX11_isZeroOrOne 0 = .ok (.iload_n 0, 1) := by decide +kernel
theorem dX11_isZeroOrOne_1 : decode cX11_isZeroOrOne 1 = .ok (.ifCond .eq 8, 3) := by decide +kernel
theorem dX11_isZeroOrOne_4 : decode cX11_isZeroOrOne 4 = .ok (.iload_n 0, 1) := by decide +kernel
theorem dX11_isZeroOrOne_5 : decode cX11_isZeroOrOne 5 = .ok (.iconst 1, 1) := by decide +kernel
theorem dX11_isZeroOrOne_6 : decode cX11_isZeroOrOne 6 = .ok (.if_icmp .ne 7, 3) := by decide +kernel
theorem dX11_isZeroOrOne_9 : decode cX11_isZeroOrOne 9 = .ok (.iconst 1, 1) := by decide +kernel
theorem dX11_isZeroOrOne_10 : decode cX11_isZeroOrOne 10 = .ok (.goto 4, 3) := by decide +kernel
theorem dX11_isZeroOrOne_13 : decode cX11_isZeroOrOne 13 = .ok (.iconst 0, 1) := by decide +kernel
theorem dX11_isZeroOrOne_14 : decode cX11_isZeroOrOne 14 = .ok (.ireturn, 1) := by decide +kernel
theorem dX11_isHour_0 : decode cX11_isHour 0 = .ok (.iload_n 0, 1) := by decide +kernel
theorem dX11_isHour_1 : decode cX11_isHour 1 = .ok (.ifCond .lt 13, 3) := by decide +kernel
theorem dX11_isHour_4 : decode cX11_isHour 4 = .ok (.iload_n 0, 1) := by decide +kernel
theorem dX11_isHour_5 : decode cX11_isHour 5 = .ok (.bipush 10, 2) := by decide +kernel
theorem dX11_isHour_7 : decode cX11_isHour 7 = .ok (.if_icmp .ge 7, 3) := by decide +kernel
theorem dX11_isHour_10 : decode cX11_isHour 10 = .ok (.iconst 1, 1) := by decide +kernel
theorem dX11_isHour_11 : decode cX11_isHour 11 = .ok (.goto 4, 3) := by decide +kernel
theorem dX11_isHour_14 : decode cX11_isHour 14 = .ok (.iconst 0, 1) := by decide +kernel
theorem dX11_isHour_15 : decode cX11_isHour 15 = .ok (.ireturn, 1) := by decide +kernel
theorem dX11_isSheet_0 : decode cX11_isSheet 0 = .ok (.iload_n 0, 1) := by decide +kernel
theorem dX11_isSheet_1 : decode cX11_isSheet 1 = .ok (.ifCond .lt 12, 3) := by decide +kernel
theorem dX11_isSheet_4 : decode cX11_isSheet 4 = .ok (.iload_n 0, 1) := by decide +kernel
theorem dX11_isSheet_5 : decode cX11_isSheet 5 = .ok (.iconst 4, 1) := by decide +kernel
theorem dX11_isSheet_6 : decode cX11_isSheet 6 = .ok (.if_icmp .ge 7, 3) := by decide +kernel
theorem dX11_isSheet_9 : decode cX11_isSheet 9 = .ok (.iconst 1, 1) := by decide +kernel
theorem dX11_isSheet_10 : decode cX11_isSheet 10 = .ok (.goto 4, 3) := by decide +kernel
theorem dX11_isSheet_13 : decode cX11_isSheet 13 = .ok (.iconst 0, 1) := by decide +kernel
theorem dX11_isSheet_14 : decode cX11_isSheet 14 = .ok (.ireturn, 1) := by decide +kernel
theorem dX11_bounded_0 : decode cX11_bounded 0 = .ok (.iconst 0, 1) := by decide +kernel
theorem dX11_bounded_1 : decode cX11_bounded 1 = .ok (.iload_n 0, 1) := by decide +kernel
theorem dX11_bounded_2 : decode cX11_bounded 2 = .ok (.iload_n 1, 1) := by decide +kernel
theorem dX11_bounded_3 : decode cX11_bounded 3 = .ok (.invokestatic 339, 3) := by decide +kernel
theorem dX11_bounded_6 : decode cX11_bounded 6 = .ok (.invokestatic 345, 3) := by decide +kernel
theorem dX11_bounded_9 : decode cX11_bounded 9 = .ok (.ireturn, 1) := by decide +kernel
