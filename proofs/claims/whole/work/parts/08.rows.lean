set_option maxRecDepth 20000 in
theorem gX12_film_X12_isOne : GoodIn wsX12_film (wsV RX12 70 RX12 yX12_isOne wsX12_isOne) := goodIn_app (goodIn_of _ (by decide +kernel)) ggX12_film_X12_isOne
set_option maxRecDepth 20000 in
theorem ggX12_film_X12_in : GoodIn wsX12_film wsX12_in := goodIn_r _ [11] (by decide +kernel) (by decide +kernel)
set_option maxRecDepth 20000 in
theorem gX12_film_X12_in : GoodIn wsX12_film (va_wsS RX12 64 yX12_in wsX12_in) := goodIn_app (goodIn_of _ (by decide +kernel)) ggX12_film_X12_in
set_option maxRecDepth 20000 in
theorem ggX12_film_X12_sheet : GoodIn wsX12_film wsX12_sheet := goodIn_r _ [20, 21, 22, 23, 24, 25, 3, 4, 5, 6, 7, 8, 9, 10, 11, 248, 249, 250, 251, 252, 253, 254, 255, 256, 257, 258, 259, 260, 261, 262, 263, 264, 265, 266, 267, 268, 269, 270, 271, 272, 273, 274, 275, 276, 277, 278, 279, 280, 281] (by decide +kernel) (by decide +kernel)
set_option maxRecDepth 20000 in
theorem gX12_film_X12_sheet : GoodIn wsX12_film (wsV RX12 362 RX12 yX12_sheet wsX12_sheet) := goodIn_app (goodIn_of _ (by decide +kernel)) ggX12_film_X12_sheet
set_option maxRecDepth 20000 in
theorem ggX12_film_X12_eatsOf : GoodIn wsX12_film wsX12_eatsOf := goodIn_r _ [29, 30, 2, 31, 32, 33, 34, 6, 35, 36, 37, 38, 39, 40, 41, 42, 43, 44, 45, 46, 47, 48, 49, 50, 51, 52, 53, 54, 55, 56, 57, 58, 59, 60, 61, 62, 63, 64, 65, 66, 67, 68, 69, 9, 10, 11, 70, 71, 72, 73, 74, 75, 76, 77, 78, 79, 80, 81, 82, 83, 84, 85, 86, 87, 88, 89, 90, 91, 92, 93, 94, 95, 96, 97, 98, 99, 100, 101, 102, 103, 104, 105, 106, 107, 108, 109, 110, 111, 112, 113, 114, 115, 116, 117, 118, 119, 120, 121, 122, 123, 124, 125, 126, 127, 128, 129, 130, 131, 132, 133, 134, 135, 136, 137, 138, 139, 140, 141, 142, 143, 144, 145, 146, 147, 148, 149, 150, 151, 152, 153, 154, 155, 156, 157, 158, 159, 160, 161, 162, 163, 164, 165, 166, 167, 168, 169, 170, 171, 172, 173, 174, 175, 176, 177, 178, 179, 180, 181, 182, 183, 184, 185, 186, 187, 188, 189, 190, 191, 192, 193, 194, 195, 196, 197, 198, 199, 200, 201, 202, 203, 204, 205, 206, 207, 208, 209, 210, 211, 212, 213, 214, 215, 216, 217, 218, 219, 220, 221, 222, 223, 224, 225, 226, 227, 228, 229, 230, 231, 232, 233, 234, 235, 236, 237, 238, 239, 240, 241, 242, 243, 244, 245, 246, 247, 248, 249, 250, 251, 252, 253, 254, 255, 256, 257, 258, 259, 260, 261, 262, 263, 264, 265, 266, 267, 268, 269, 270, 271, 272, 273, 274, 275, 276, 277, 278, 279, 280, 281] (by decide +kernel) (by decide +kernel)
set_option maxRecDepth 20000 in
theorem gX12_film_X12_eatsOf : GoodIn wsX12_film (wsV RX12 99 RX12 yX12_eatsOf wsX12_eatsOf) := goodIn_app (goodIn_of _ (by decide +kernel)) ggX12_film_X12_eatsOf
theorem dX12_film_0 : decode cX12_film 0 = .ok (.iload_n 1, 1) := by decide +kernel
theorem dX12_film_1 : decode cX12_film 1 = .ok (.invokestatic 354, 3) := by decide +kernel
theorem dX12_film_4 : decode cX12_film 4 = .ok (.ifCond .eq 23, 3) := by decide +kernel
theorem dX12_film_7 : decode cX12_film 7 = .ok (.aload_n 0, 1) := by decide +kernel
theorem dX12_film_8 : decode cX12_film 8 = .ok (.iload_n 2, 1) := by decide +kernel
theorem dX12_film_9 : decode cX12_film 9 = .ok (.invokevirtual 70, 3) := by decide +kernel
theorem dX12_film_12 : decode cX12_film 12 = .ok (.ifCond .eq 15, 3) := by decide +kernel
theorem dX12_film_15 : decode cX12_film 15 = .ok (.iload_n 3, 1) := by decide +kernel
theorem dX12_film_16 : decode cX12_film 16 = .ok (.i2l, 1) := by decide +kernel
theorem dX12_film_17 : decode cX12_film 17 = .ok (.lconst 0, 1) := by decide +kernel
theorem dX12_film_18 : decode cX12_film 18 = .ok (.ldc2_w 360, 3) := by decide +kernel
theorem dX12_film_21 : decode cX12_film 21 = .ok (.invokestatic 64, 3) := by decide +kernel
theorem dX12_film_24 : decode cX12_film 24 = .ok (.ifCond .ne 6, 3) := by decide +kernel
theorem dX12_film_27 : decode cX12_film 27 = .ok (.bipush (-2), 2) := by decide +kernel
theorem dX12_film_29 : decode cX12_film 29 = .ok (.ireturn, 1) := by decide +kernel
theorem dX12_film_30 : decode cX12_film 30 = .ok (.aload_n 0, 1) := by decide +kernel
theorem dX12_film_31 : decode cX12_film 31 = .ok (.getfield 23, 3) := by decide +kernel
theorem dX12_film_34 : decode cX12_film 34 = .ok (.iconst 0, 1) := by decide +kernel
theorem dX12_film_35 : decode cX12_film 35 = .ok (.iaload, 1) := by decide +kernel
theorem dX12_film_36 : decode cX12_film 36 = .ok (.istore 4, 2) := by decide +kernel
theorem dX12_film_38 : decode cX12_film 38 = .ok (.aload_n 0, 1) := by decide +kernel
theorem dX12_film_39 : decode cX12_film 39 = .ok (.iload_n 1, 1) := by decide +kernel
theorem dX12_film_40 : decode cX12_film 40 = .ok (.iconst 0, 1) := by decide +kernel
theorem dX12_film_41 : decode cX12_film 41 = .ok (.iload_n 3, 1) := by decide +kernel
theorem dX12_film_42 : decode cX12_film 42 = .ok (.invokevirtual 362, 3) := by decide +kernel
theorem dX12_film_45 : decode cX12_film 45 = .ok (.pop, 1) := by decide +kernel
theorem dX12_film_46 : decode cX12_film 46 = .ok (.iconst 0, 1) := by decide +kernel
theorem dX12_film_47 : decode cX12_film 47 = .ok (.istore 5, 2) := by decide +kernel
theorem dX12_film_49 : decode cX12_film 49 = .ok (.iload 5, 2) := by decide +kernel
theorem dX12_film_51 : decode cX12_film 51 = .ok (.iload_n 3, 1) := by decide +kernel
theorem dX12_film_52 : decode cX12_film 52 = .ok (.if_icmp .ge 36, 3) := by decide +kernel
theorem dX12_film_55 : decode cX12_film 55 = .ok (.aload_n 0, 1) := by decide +kernel
theorem dX12_film_56 : decode cX12_film 56 = .ok (.getfield 23, 3) := by decide +kernel
theorem dX12_film_59 : decode cX12_film 59 = .ok (.iconst 0, 1) := by decide +kernel
theorem dX12_film_60 : decode cX12_film 60 = .ok (.iload 5, 2) := by decide +kernel
theorem dX12_film_62 : decode cX12_film 62 = .ok (.iconst 1, 1) := by decide +kernel
theorem dX12_film_63 : decode cX12_film 63 = .ok (.iadd, 1) := by decide +kernel
theorem dX12_film_64 : decode cX12_film 64 = .ok (.iastore, 1) := by decide +kernel
theorem dX12_film_65 : decode cX12_film 65 = .ok (.aload_n 0, 1) := by decide +kernel
theorem dX12_film_66 : decode cX12_film 66 = .ok (.getfield 51, 3) := by decide +kernel
theorem dX12_film_69 : decode cX12_film 69 = .ok (.bipush 40, 2) := by decide +kernel
theorem dX12_film_71 : decode cX12_film 71 = .ok (.iload_n 1, 1) := by decide +kernel
theorem dX12_film_72 : decode cX12_film 72 = .ok (.imul, 1) := by decide +kernel
theorem dX12_film_73 : decode cX12_film 73 = .ok (.iload 5, 2) := by decide +kernel
theorem dX12_film_75 : decode cX12_film 75 = .ok (.iadd, 1) := by decide +kernel
theorem dX12_film_76 : decode cX12_film 76 = .ok (.aload_n 0, 1) := by decide +kernel
theorem dX12_film_77 : decode cX12_film 77 = .ok (.iload_n 2, 1) := by decide +kernel
theorem dX12_film_78 : decode cX12_film 78 = .ok (.invokevirtual 99, 3) := by decide +kernel
theorem dX12_film_81 : decode cX12_film 81 = .ok (.iastore, 1) := by decide +kernel
theorem dX12_film_82 : decode cX12_film 82 = .ok (.iinc 5 1, 3) := by decide +kernel
theorem dX12_film_85 : decode cX12_film 85 = .ok (.goto (-36), 3) := by decide +kernel
theorem dX12_film_88 : decode cX12_film 88 = .ok (.aload_n 0, 1) := by decide +kernel
theorem dX12_film_89 : decode cX12_film 89 = .ok (.getfield 23, 3) := by decide +kernel
theorem dX12_film_92 : decode cX12_film 92 = .ok (.iconst 0, 1) := by decide +kernel
theorem dX12_film_93 : decode cX12_film 93 = .ok (.iload 4, 2) := by decide +kernel
theorem dX12_film_95 : decode cX12_film 95 = .ok (.iastore, 1) := by decide +kernel
theorem dX12_film_96 : decode cX12_film 96 = .ok (.iload_n 3, 1) := by decide +kernel
theorem dX12_film_97 : decode cX12_film 97 = .ok (.ireturn, 1) := by decide +kernel
set_option maxRecDepth 20000 in
theorem ggX12_soldBy_X12_isThereNow : GoodIn wsX12_soldBy wsX12_isThereNow := goodIn_r _ [8, 9, 3, 238, 239, 240, 241, 242, 243, 244, 245, 246, 247, 248, 249, 250, 251, 252, 253, 254, 255, 256, 257, 258, 259, 260, 261, 262, 263, 264, 265, 266, 267, 268, 269, 270, 271] (by decide +kernel) (by decide +kernel)
set_option maxRecDepth 20000 in
theorem gX12_soldBy_X12_isThereNow : GoodIn wsX12_soldBy (wsV RX12 108 RX12 yX12_isThereNow wsX12_isThereNow) := goodIn_app (goodIn_of _ (by decide +kernel)) ggX12_soldBy_X12_isThereNow
set_option maxRecDepth 20000 in
theorem ggX12_soldBy_X12_triesOf : GoodIn wsX12_soldBy wsX12_triesOf := goodIn_r _ [13, 14, 9, 3, 15, 16, 17, 7, 18, 19, 20, 21, 22, 23, 24, 25, 26, 27, 28, 29, 30, 31, 32, 33, 34, 35, 36, 37, 38, 39, 40, 41, 42, 43, 44, 45, 46, 47, 48, 49, 50, 51, 52, 53, 54, 55, 56, 57, 58, 59, 60, 61, 62, 63, 64, 65, 66, 67, 68, 69, 70, 71, 72, 73, 74, 75, 76, 77, 78, 79, 80, 81, 82, 83, 84, 85, 86, 87, 88, 89, 90, 91, 92, 93, 94, 95, 96, 97, 98, 99, 100, 101, 102, 103, 104, 105, 106, 107, 108, 109, 110, 111, 112, 113, 114, 115, 116, 117, 118, 119, 120, 121, 122, 123, 124, 125, 126, 127, 128, 129, 130, 131, 132, 133, 134, 135, 136, 137, 138, 139, 140, 141, 142, 143, 144, 145, 146, 147, 148, 149, 150, 151, 152, 153, 154, 155, 156, 157, 158, 159, 160, 161, 162, 163, 164, 165, 166, 167, 168, 169, 170, 171, 172, 173, 174, 175, 176, 177, 178, 179, 180, 181, 182, 183, 184, 185, 186, 187, 188, 189, 190, 191, 192, 193, 194, 195, 196, 197, 198, 199, 200, 201, 202, 203, 204, 205, 206, 207, 208, 209, 210, 211, 212, 213, 214, 215, 216, 217, 218, 219, 220, 221, 222, 223, 224, 225, 226, 227, 228, 229, 230, 231, 232, 233, 238, 239, 240, 241, 242, 243, 244, 245, 246, 247, 248, 249, 250, 251, 252, 253, 254, 255, 256, 257, 258, 259, 260, 261, 262, 263, 264, 265, 266, 267, 268, 269, 270, 271] (by decide +kernel) (by decide +kernel)
set_option maxRecDepth 20000 in
theorem gX12_soldBy_X12_triesOf : GoodIn wsX12_soldBy (wsV RX12 102 RX12 yX12_triesOf wsX12_triesOf) := goodIn_app (goodIn_of _ (by decide +kernel)) ggX12_soldBy_X12_triesOf
set_option maxRecDepth 20000 in
theorem ggX12_soldBy_X12_spendsOf : GoodIn wsX12_soldBy wsX12_spendsOf := goodIn_r _ [237, 14, 3, 15, 16, 17, 7, 18, 19, 20, 21, 9, 22, 23, 24, 25, 26, 27, 28, 29, 30, 31, 32, 33, 34, 35, 36, 37, 38, 39, 40, 41, 42, 43, 44, 45, 46, 47, 48, 49, 50, 51, 52, 53, 54, 55, 56, 57, 58, 59, 60, 61, 62, 63, 64, 65, 66, 67, 68, 69, 70, 71, 72, 73, 74, 75, 76, 77, 78, 79, 80, 81, 82, 83, 84, 85, 86, 87, 88, 89, 90, 91, 92, 93, 94, 95, 96, 97, 98, 99, 100, 101, 102, 103, 104, 105, 106, 107, 108, 109, 110, 111, 112, 113, 114, 115, 116, 117, 118, 119, 120, 121, 122, 123, 124, 125, 126, 127, 128, 129, 130, 131, 132, 133, 134, 135, 136, 137, 138, 139, 140, 141, 142, 143, 144, 145, 146, 147, 148, 149, 150, 151, 152, 153, 154, 155, 156, 157, 158, 159, 160, 161, 162, 163, 164, 165, 166, 167, 168, 169, 170, 171, 172, 173, 174, 175, 176, 177, 178, 179, 180, 181, 182, 183, 184, 185, 186, 187, 188, 189, 190, 191, 192, 193, 194, 195, 196, 197, 198, 199, 200, 201, 202, 203, 204, 205, 206, 207, 208, 209, 210, 211, 212, 213, 214, 215, 216, 217, 218, 219, 220, 221, 222, 223, 224, 225, 226, 227, 228, 229, 230, 231, 232, 233, 238, 239, 240, 241, 242, 243, 244, 245, 246, 247, 248, 249, 250, 251, 252, 253, 254, 255, 256, 257, 258, 259, 260, 261, 262, 263, 264, 265, 266, 267, 268, 269, 270, 271] (by decide +kernel) (by decide +kernel)
set_option maxRecDepth 20000 in
theorem gX12_soldBy_X12_spendsOf : GoodIn wsX12_soldBy (wsV RX12 105 RX12 yX12_spendsOf wsX12_spendsOf) := goodIn_app (goodIn_of _ (by decide +kernel)) ggX12_soldBy_X12_spendsOf
set_option maxRecDepth 20000 in
theorem ggX12_soldBy_X12_within : GoodIn wsX12_soldBy wsX12_within := goodIn_r _ [233] (by decide +kernel) (by decide +kernel)
set_option maxRecDepth 20000 in
theorem gX12_soldBy_X12_within : GoodIn wsX12_soldBy (va_wsS RX12 326 yX12_within wsX12_within) := goodIn_app (goodIn_of _ (by decide +kernel)) ggX12_soldBy_X12_within
theorem dX12_soldBy_0 : decode cX12_soldBy 0 = .ok (.iload_n 1, 1) := by decide +kernel
theorem dX12_soldBy_1 : decode cX12_soldBy 1 = .ok (.istore_n 3, 1) := by decide +kernel
theorem dX12_soldBy_2 : decode cX12_soldBy 2 = .ok (.iconst 0, 1) := by decide +kernel
theorem dX12_soldBy_3 : decode cX12_soldBy 3 = .ok (.istore 4, 2) := by decide +kernel
theorem dX12_soldBy_5 : decode cX12_soldBy 5 = .ok (.iconst 0, 1) := by decide +kernel
theorem dX12_soldBy_6 : decode cX12_soldBy 6 = .ok (.istore 5, 2) := by decide +kernel
theorem dX12_soldBy_8 : decode cX12_soldBy 8 = .ok (.iload 5, 2) := by decide +kernel
theorem dX12_soldBy_10 : decode cX12_soldBy 10 = .ok (.aload_n 0, 1) := by decide +kernel
theorem dX12_soldBy_11 : decode cX12_soldBy 11 = .ok (.getfield 61, 3) := by decide +kernel
theorem dX12_soldBy_14 : decode cX12_soldBy 14 = .ok (.if_icmp .ge 101, 3) := by decide +kernel
theorem dX12_soldBy_17 : decode cX12_soldBy 17 = .ok (.aload_n 0, 1) := by decide +kernel
theorem dX12_soldBy_18 : decode cX12_soldBy 18 = .ok (.iload 5, 2) := by decide +kernel
theorem dX12_soldBy_20 : decode cX12_soldBy 20 = .ok (.invokevirtual 108, 3) := by decide +kernel
theorem dX12_soldBy_23 : decode cX12_soldBy 23 = .ok (.ifCond .eq 86, 3) := by decide +kernel
theorem dX12_soldBy_26 : decode cX12_soldBy 26 = .ok (.iload_n 3, 1) := by decide +kernel
theorem dX12_soldBy_27 : decode cX12_soldBy 27 = .ok (.ldc_w 365, 3) := by decide +kernel
theorem dX12_soldBy_30 : decode cX12_soldBy 30 = .ok (.imul, 1) := by decide +kernel
theorem dX12_soldBy_31 : decode cX12_soldBy 31 = .ok (.sipush 12345, 3) := by decide +kernel
theorem dX12_soldBy_34 : decode cX12_soldBy 34 = .ok (.iadd, 1) := by decide +kernel
theorem dX12_soldBy_35 : decode cX12_soldBy 35 = .ok (.istore_n 3, 1) := by decide +kernel
theorem dX12_soldBy_36 : decode cX12_soldBy 36 = .ok (.aload_n 0, 1) := by decide +kernel
theorem dX12_soldBy_37 : decode cX12_soldBy 37 = .ok (.iload 5, 2) := by decide +kernel
theorem dX12_soldBy_39 : decode cX12_soldBy 39 = .ok (.invokevirtual 102, 3) := by decide +kernel
theorem dX12_soldBy_42 : decode cX12_soldBy 42 = .ok (.istore 6, 2) := by decide +kernel
theorem dX12_soldBy_44 : decode cX12_soldBy 44 = .ok (.iload 6, 2) := by decide +kernel
theorem dX12_soldBy_46 : decode cX12_soldBy 46 = .ok (.ifCond .le 63, 3) := by decide +kernel
theorem dX12_soldBy_49 : decode cX12_soldBy 49 = .ok (.iload_n 3, 1) := by decide +kernel
theorem dX12_soldBy_50 : decode cX12_soldBy 50 = .ok (.bipush 9, 2) := by decide +kernel
theorem dX12_soldBy_52 : decode cX12_soldBy 52 = .ok (.iushr, 1) := by decide +kernel
theorem dX12_soldBy_53 : decode cX12_soldBy 53 = .ok (.iload 6, 2) := by decide +kernel
theorem dX12_soldBy_55 : decode cX12_soldBy 55 = .ok (.irem, 1) := by decide +kernel
theorem dX12_soldBy_56 : decode cX12_soldBy 56 = .ok (.ifCond .ne 53, 3) := by decide +kernel
theorem dX12_soldBy_59 : decode cX12_soldBy 59 = .ok (.iload 4, 2) := by decide +kernel
theorem dX12_soldBy_61 : decode cX12_soldBy 61 = .ok (.aload_n 0, 1) := by decide +kernel
theorem dX12_soldBy_62 : decode cX12_soldBy 62 = .ok (.iload 5, 2) := by decide +kernel
theorem dX12_soldBy_64 : decode cX12_soldBy 64 = .ok (.invokevirtual 105, 3) := by decide +kernel
theorem dX12_soldBy_67 : decode cX12_soldBy 67 = .ok (.iadd, 1) := by decide +kernel
theorem dX12_soldBy_68 : decode cX12_soldBy 68 = .ok (.istore 4, 2) := by decide +kernel
theorem dX12_soldBy_70 : decode cX12_soldBy 70 = .ok (.aload_n 0, 1) := by decide +kernel
theorem dX12_soldBy_71 : decode cX12_soldBy 71 = .ok (.getfield 29, 3) := by decide +kernel
theorem dX12_soldBy_74 : decode cX12_soldBy 74 = .ok (.iconst 4, 1) := by decide +kernel
theorem dX12_soldBy_75 : decode cX12_soldBy 75 = .ok (.iload 5, 2) := by decide +kernel
theorem dX12_soldBy_77 : decode cX12_soldBy 77 = .ok (.imul, 1) := by decide +kernel
theorem dX12_soldBy_78 : decode cX12_soldBy 78 = .ok (.iconst 3, 1) := by decide +kernel
theorem dX12_soldBy_79 : decode cX12_soldBy 79 = .ok (.iadd, 1) := by decide +kernel
theorem dX12_soldBy_80 : decode cX12_soldBy 80 = .ok (.aload_n 0, 1) := by decide +kernel
theorem dX12_soldBy_81 : decode cX12_soldBy 81 = .ok (.getfield 29, 3) := by decide +kernel
theorem dX12_soldBy_84 : decode cX12_soldBy 84 = .ok (.iconst 4, 1) := by decide +kernel
theorem dX12_soldBy_85 : decode cX12_soldBy 85 = .ok (.iload 5, 2) := by decide +kernel
theorem dX12_soldBy_87 : decode cX12_soldBy 87 = .ok (.imul, 1) := by decide +kernel
theorem dX12_soldBy_88 : decode cX12_soldBy 88 = .ok (.iconst 3, 1) := by decide +kernel
theorem dX12_soldBy_89 : decode cX12_soldBy 89 = .ok (.iadd, 1) := by decide +kernel
theorem dX12_soldBy_90 : decode cX12_soldBy 90 = .ok (.iaload, 1) := by decide +kernel
theorem dX12_soldBy_91 : decode cX12_soldBy 91 = .ok (.iload_n 2, 1) := by decide +kernel
theorem dX12_soldBy_92 : decode cX12_soldBy 92 = .ok (.ifCond .eq 7, 3) := by decide +kernel
theorem dX12_soldBy_95 : decode cX12_soldBy 95 = .ok (.iconst 1, 1) := by decide +kernel
theorem dX12_soldBy_96 : decode cX12_soldBy 96 = .ok (.goto 4, 3) := by decide +kernel
theorem dX12_soldBy_99 : decode cX12_soldBy 99 = .ok (.iconst 0, 1) := by decide +kernel
theorem dX12_soldBy_100 : decode cX12_soldBy 100 = .ok (.iadd, 1) := by decide +kernel
theorem dX12_soldBy_101 : decode cX12_soldBy 101 = .ok (.iconst 0, 1) := by decide +kernel
theorem dX12_soldBy_102 : decode cX12_soldBy 102 = .ok (.sipush 999, 3) := by decide +kernel
theorem dX12_soldBy_105 : decode cX12_soldBy 105 = .ok (.invokestatic 326, 3) := by decide +kernel
theorem dX12_soldBy_108 : decode cX12_soldBy 108 = .ok (.iastore, 1) := by decide +kernel
theorem dX12_soldBy_109 : decode cX12_soldBy 109 = .ok (.iinc 5 1, 3) := by decide +kernel
theorem dX12_soldBy_112 : decode cX12_soldBy 112 = .ok (.goto (-104), 3) := by decide +kernel
theorem dX12_soldBy_115 : decode cX12_soldBy 115 = .ok (.iload 4, 2) := by decide +kernel
theorem dX12_soldBy_117 : decode cX12_soldBy 117 = .ok (.ireturn, 1) := by decide +kernel
set_option maxRecDepth 20000 in
theorem ggX12_sell_X12_soldBy : GoodIn wsX12_sell wsX12_soldBy := goodIn_r _ [5, 6, 7, 8, 9, 10, 11, 4, 12, 13, 14, 15, 16, 17, 18, 19, 20, 21, 22, 23, 24, 25, 26, 27, 28, 29, 30, 31, 32, 33, 34, 35, 36, 37, 38, 39, 40, 41, 42, 43, 44, 45, 46, 47, 48, 49, 50, 51, 52, 53, 54, 55, 56, 57, 58, 59, 60, 61, 62, 63, 64, 65, 66, 67, 68, 69, 70, 71, 72, 73, 74, 75, 76, 77, 78, 79, 80, 81, 82, 83, 84, 85, 86, 87, 88, 89, 90, 91, 92, 93, 94, 95, 96, 97, 98, 99, 100, 101, 102, 103, 104, 105, 106, 107, 108, 109, 110, 111, 112, 113, 114, 115, 116, 117, 118, 119, 120, 121, 122, 123, 124, 125, 126, 127, 128, 129, 130, 131, 132, 133, 134, 135, 136, 137, 138, 139, 140, 141, 142, 143, 144, 145, 146, 147, 148, 149, 150, 151, 152, 153, 154, 155, 156, 157, 158, 159, 160, 161, 162, 163, 164, 165, 166, 167, 168, 169, 170, 171, 172, 173, 174, 175, 176, 177, 178, 179, 180, 181, 182, 183, 184, 185, 186, 187, 188, 189, 190, 191, 192, 193, 194, 195, 196, 197, 198, 199, 200, 201, 202, 203, 204, 205, 206, 207, 208, 209, 210, 211, 212, 213, 214, 215, 216, 217, 218, 219, 220, 221, 222, 223, 224, 225, 226, 227, 228, 229, 230, 231, 232, 233, 234, 235, 236, 237, 238, 239, 240, 241, 242, 243, 244, 245, 246, 247, 248, 249, 250, 251, 252, 253, 254, 255, 256, 257, 258, 259, 260, 261, 262, 263, 264, 265, 266, 267, 268, 269, 270, 271, 272, 273, 274, 275] (by decide +kernel) (by decide +kernel)
set_option maxRecDepth 20000 in
theorem gX12_sell_X12_soldBy : GoodIn wsX12_sell (wsV RX12 366 RX12 yX12_soldBy wsX12_soldBy) := goodIn_app (goodIn_of _ (by decide +kernel)) ggX12_sell_X12_soldBy
theorem dX12_sell_0 : decode cX12_sell 0 = .ok (.aload_n 0, 1) := by decide +kernel
theorem dX12_sell_1 : decode cX12_sell 1 = .ok (.iload_n 1, 1) := by decide +kernel
theorem dX12_sell_2 : decode cX12_sell 2 = .ok (.iconst 1, 1) := by decide +kernel
theorem dX12_sell_3 : decode cX12_sell 3 = .ok (.invokevirtual 366, 3) := by decide +kernel
theorem dX12_sell_6 : decode cX12_sell 6 = .ok (.ireturn, 1) := by decide +kernel
set_option maxRecDepth 20000 in
theorem ggX12_chance_X12_in : GoodIn wsX12_chance wsX12_in := goodIn_r _ [7] (by decide +kernel) (by decide +kernel)
set_option maxRecDepth 20000 in
theorem gX12_chance_X12_in : GoodIn wsX12_chance (va_wsS RX12 64 yX12_in wsX12_in) := goodIn_app (goodIn_of _ (by decide +kernel)) ggX12_chance_X12_in
set_option maxRecDepth 20000 in
theorem ggX12_chance_X12_soldBy : GoodIn wsX12_chance wsX12_soldBy := goodIn_r _ [11, 12, 13, 14, 15, 16, 17, 6, 18, 19, 20, 21, 22, 23, 24, 25, 26, 27, 28, 29, 30, 31, 32, 33, 34, 35, 36, 37, 38, 39, 40, 41, 42, 43, 44, 45, 46, 47, 48, 49, 50, 51, 52, 53, 54, 55, 56, 57, 58, 59, 60, 61, 62, 4, 5, 7, 63, 64, 65, 66, 67, 68, 69, 70, 71, 72, 73, 74, 75, 76, 77, 78, 79, 80, 81, 82, 83, 84, 85, 86, 87, 88, 89, 90, 91, 92, 93, 94, 95, 96, 97, 98, 99, 100, 101, 102, 103, 104, 105, 106, 107, 108, 109, 110, 111, 112, 113, 114, 115, 116, 117, 118, 119, 120, 121, 122, 123, 124, 125, 126, 127, 128, 129, 130, 131, 132, 133, 134, 135, 136, 137, 138, 139, 140, 141, 142, 143, 144, 145, 146, 147, 148, 149, 150, 151, 152, 153, 154, 155, 156, 157, 158, 159, 160, 161, 162, 163, 164, 165, 166, 167, 168, 169, 170, 171, 172, 173, 174, 175, 176, 177, 178, 179, 180, 181, 182, 183, 184, 185, 186, 187, 188, 189, 190, 191, 192, 193, 194, 195, 196, 197, 198, 199, 200, 201, 202, 203, 204, 205, 206, 207, 208, 209, 210, 211, 212, 213, 214, 215, 216, 217, 218, 219, 220, 221, 222, 223, 224, 225, 226, 227, 228, 229, 230, 231, 232, 233, 234, 235, 236, 237, 238, 239, 240, 241, 242, 243, 244, 248, 249, 250, 251, 252, 253, 254, 255, 256, 257, 258, 259, 260, 261, 262, 263, 264, 265, 266, 267, 268, 269, 270, 271, 272, 273, 274, 275, 276, 277, 278, 279, 280, 281] (by decide +kernel) (by decide +kernel)
set_option maxRecDepth 20000 in
theorem gX12_chance_X12_soldBy : GoodIn wsX12_chance (wsV RX12 366 RX12 yX12_soldBy wsX12_soldBy) := goodIn_app (goodIn_of _ (by decide +kernel)) ggX12_chance_X12_soldBy
set_option maxRecDepth 20000 in
theorem ggX12_chance_X12_common : GoodIn wsX12_chance wsX12_common := goodIn_r _ [247] (by decide +kernel) (by decide +kernel)
set_option maxRecDepth 20000 in
theorem gX12_chance_X12_common : GoodIn wsX12_chance (va_wsS RX12 347 yX12_common wsX12_common) := goodIn_app (goodIn_of _ (by decide +kernel)) ggX12_chance_X12_common
theorem dX12_chance_0 : decode cX12_chance 0 = .ok (.iload_n 2, 1) := by decide +kernel
theorem dX12_chance_1 : decode cX12_chance 1 = .ok (.i2l, 1) := by decide +kernel
theorem dX12_chance_2 : decode cX12_chance 2 = .ok (.lconst 1, 1) := by decide +kernel
theorem dX12_chance_3 : decode cX12_chance 3 = .ok (.ldc2_w 370, 3) := by decide +kernel
theorem dX12_chance_6 : decode cX12_chance 6 = .ok (.invokestatic 64, 3) := by decide +kernel
theorem dX12_chance_9 : decode cX12_chance 9 = .ok (.ifCond .eq 26, 3) := by decide +kernel
theorem dX12_chance_12 : decode cX12_chance 12 = .ok (.iload_n 3, 1) := by decide +kernel
theorem dX12_chance_13 : decode cX12_chance 13 = .ok (.i2l, 1) := by decide +kernel
theorem dX12_chance_14 : decode cX12_chance 14 = .ok (.lconst 0, 1) := by decide +kernel
theorem dX12_chance_15 : decode cX12_chance 15 = .ok (.ldc2_w 372, 3) := by decide +kernel
theorem dX12_chance_18 : decode cX12_chance 18 = .ok (.invokestatic 64, 3) := by decide +kernel
theorem dX12_chance_21 : decode cX12_chance 21 = .ok (.ifCond .eq 14, 3) := by decide +kernel
theorem dX12_chance_24 : decode cX12_chance 24 = .ok (.iload 4, 2) := by decide +kernel
theorem dX12_chance_26 : decode cX12_chance 26 = .ok (.i2l, 1) := by decide +kernel
theorem dX12_chance_27 : decode cX12_chance 27 = .ok (.lconst 0, 1) := by decide +kernel
theorem dX12_chance_28 : decode cX12_chance 28 = .ok (.lconst 1, 1) := by decide +kernel
theorem dX12_chance_29 : decode cX12_chance 29 = .ok (.invokestatic 64, 3) := by decide +kernel
theorem dX12_chance_32 : decode cX12_chance 32 = .ok (.ifCond .ne 7, 3) := by decide +kernel
theorem dX12_chance_35 : decode cX12_chance 35 = .ok (.ldc2_w 342, 3) := by decide +kernel
theorem dX12_chance_38 : decode cX12_chance 38 = .ok (.lreturn, 1) := by decide +kernel
theorem dX12_chance_39 : decode cX12_chance 39 = .ok (.lconst 0, 1) := by decide +kernel
theorem dX12_chance_40 : decode cX12_chance 40 = .ok (.lstore 5, 2) := by decide +kernel
theorem dX12_chance_42 : decode cX12_chance 42 = .ok (.iconst 0, 1) := by decide +kernel
theorem dX12_chance_43 : decode cX12_chance 43 = .ok (.istore 7, 2) := by decide +kernel
theorem dX12_chance_45 : decode cX12_chance 45 = .ok (.iload 7, 2) := by decide +kernel
theorem dX12_chance_47 : decode cX12_chance 47 = .ok (.iload_n 2, 1) := by decide +kernel
theorem dX12_chance_48 : decode cX12_chance 48 = .ok (.if_icmp .ge 32, 3) := by decide +kernel
theorem dX12_chance_51 : decode cX12_chance 51 = .ok (.lload 5, 2) := by decide +kernel
theorem dX12_chance_53 : decode cX12_chance 53 = .ok (.aload_n 0, 1) := by decide +kernel
theorem dX12_chance_54 : decode cX12_chance 54 = .ok (.iload_n 1, 1) := by decide +kernel
theorem dX12_chance_55 : decode cX12_chance 55 = .ok (.iload 7, 2) := by decide +kernel
theorem dX12_chance_57 : decode cX12_chance 57 = .ok (.iadd, 1) := by decide +kernel
theorem dX12_chance_58 : decode cX12_chance 58 = .ok (.iconst 0, 1) := by decide +kernel
theorem dX12_chance_59 : decode cX12_chance 59 = .ok (.invokevirtual 366, 3) := by decide +kernel
theorem dX12_chance_62 : decode cX12_chance 62 = .ok (.iload_n 3, 1) := by decide +kernel
theorem dX12_chance_63 : decode cX12_chance 63 = .ok (.if_icmp .lt 7, 3) := by decide +kernel
theorem dX12_chance_66 : decode cX12_chance 66 = .ok (.lconst 1, 1) := by decide +kernel
theorem dX12_chance_67 : decode cX12_chance 67 = .ok (.goto 4, 3) := by decide +kernel
theorem dX12_chance_70 : decode cX12_chance 70 = .ok (.lconst 0, 1) := by decide +kernel
theorem dX12_chance_71 : decode cX12_chance 71 = .ok (.ladd, 1) := by decide +kernel
theorem dX12_chance_72 : decode cX12_chance 72 = .ok (.lstore 5, 2) := by decide +kernel
theorem dX12_chance_74 : decode cX12_chance 74 = .ok (.iinc 7 1, 3) := by decide +kernel
theorem dX12_chance_77 : decode cX12_chance 77 = .ok (.goto (-32), 3) := by decide +kernel
theorem dX12_chance_80 : decode cX12_chance 80 = .ok (.lload 5, 2) := by decide +kernel
theorem dX12_chance_82 : decode cX12_chance 82 = .ok (.iload_n 2, 1) := by decide +kernel
theorem dX12_chance_83 : decode cX12_chance 83 = .ok (.i2l, 1) := by decide +kernel
theorem dX12_chance_84 : decode cX12_chance 84 = .ok (.invokestatic 347, 3) := by decide +kernel
theorem dX12_chance_87 : decode cX12_chance 87 = .ok (.lstore 7, 2) := by decide +kernel
theorem dX12_chance_89 : decode cX12_chance 89 = .ok (.iload 4, 2) := by decide +kernel
theorem dX12_chance_91 : decode cX12_chance 91 = .ok (.ifCond .ne 11, 3) := by decide +kernel
theorem dX12_chance_94 : decode cX12_chance 94 = .ok (.lload 5, 2) := by decide +kernel
theorem dX12_chance_96 : decode cX12_chance 96 = .ok (.lload 7, 2) := by decide +kernel
theorem dX12_chance_98 : decode cX12_chance 98 = .ok (.ldiv, 1) := by decide +kernel
theorem dX12_chance_99 : decode cX12_chance 99 = .ok (.goto 8, 3) := by decide +kernel
theorem dX12_chance_102 : decode cX12_chance 102 = .ok (.iload_n 2, 1) := by decide +kernel
theorem dX12_chance_103 : decode cX12_chance 103 = .ok (.i2l, 1) := by decide +kernel
theorem dX12_chance_104 : decode cX12_chance 104 = .ok (.lload 7, 2) := by decide +kernel
theorem dX12_chance_106 : decode cX12_chance 106 = .ok (.ldiv, 1) := by decide +kernel
theorem dX12_chance_107 : decode cX12_chance 107 = .ok (.lreturn, 1) := by decide +kernel
theorem dX12_image_0 : decode cX12_image 0 = .ok (.iconst 0, 1) := by decide +kernel
theorem dX12_image_1 : decode cX12_image 1 = .ok (.istore_n 1, 1) := by decide +kernel
theorem dX12_image_2 : decode cX12_image 2 = .ok (.iload_n 1, 1) := by decide +kernel
theorem dX12_image_3 : decode cX12_image 3 = .ok (.iconst 5, 1) := by decide +kernel
theorem dX12_image_4 : decode cX12_image 4 = .ok (.if_icmp .ge 21, 3) := by decide +kernel
theorem dX12_image_7 : decode cX12_image 7 = .ok (.aload_n 0, 1) := by decide +kernel
theorem dX12_image_8 : decode cX12_image 8 = .ok (.getfield 32, 3) := by decide +kernel
theorem dX12_image_11 : decode cX12_image 11 = .ok (.iload_n 1, 1) := by decide +kernel
theorem dX12_image_12 : decode cX12_image 12 = .ok (.aload_n 0, 1) := by decide +kernel
theorem dX12_image_13 : decode cX12_image 13 = .ok (.getfield 23, 3) := by decide +kernel
theorem dX12_image_16 : decode cX12_image 16 = .ok (.iload_n 1, 1) := by decide +kernel
theorem dX12_image_17 : decode cX12_image 17 = .ok (.iaload, 1) := by decide +kernel
theorem dX12_image_18 : decode cX12_image 18 = .ok (.iastore, 1) := by decide +kernel
theorem dX12_image_19 : decode cX12_image 19 = .ok (.iinc 1 1, 3) := by decide +kernel
theorem dX12_image_22 : decode cX12_image 22 = .ok (.goto (-20), 3) := by decide +kernel
theorem dX12_image_25 : decode cX12_image 25 = .ok (.iconst 0, 1) := by decide +kernel
theorem dX12_image_26 : decode cX12_image 26 = .ok (.istore_n 1, 1) := by decide +kernel
theorem dX12_image_27 : decode cX12_image 27 = .ok (.iload_n 1, 1) := by decide +kernel
theorem dX12_image_28 : decode cX12_image 28 = .ok (.bipush 32, 2) := by decide +kernel
theorem dX12_image_30 : decode cX12_image 30 = .ok (.if_icmp .ge 21, 3) := by decide +kernel
theorem dX12_image_33 : decode cX12_image 33 = .ok (.aload_n 0, 1) := by decide +kernel
theorem dX12_image_34 : decode cX12_image 34 = .ok (.getfield 35, 3) := by decide +kernel
theorem dX12_image_37 : decode cX12_image 37 = .ok (.iload_n 1, 1) := by decide +kernel
theorem dX12_image_38 : decode cX12_image 38 = .ok (.aload_n 0, 1) := by decide +kernel
theorem dX12_image_39 : decode cX12_image 39 = .ok (.getfield 29, 3) := by decide +kernel
theorem dX12_image_42 : decode cX12_image 42 = .ok (.iload_n 1, 1) := by decide +kernel
theorem dX12_image_43 : decode cX12_image 43 = .ok (.iaload, 1) := by decide +kernel
theorem dX12_image_44 : decode cX12_image 44 = .ok (.iastore, 1) := by decide +kernel
theorem dX12_image_45 : decode cX12_image 45 = .ok (.iinc 1 1, 3) := by decide +kernel
theorem dX12_image_48 : decode cX12_image 48 = .ok (.goto (-21), 3) := by decide +kernel
theorem dX12_image_51 : decode cX12_image 51 = .ok (.aload_n 0, 1) := by decide +kernel
theorem dX12_image_52 : decode cX12_image 52 = .ok (.aload_n 0, 1) := by decide +kernel
theorem dX12_image_53 : decode cX12_image 53 = .ok (.getfield 61, 3) := by decide +kernel
theorem dX12_image_56 : decode cX12_image 56 = .ok (.putfield 38, 3) := by decide +kernel
theorem dX12_image_59 : decode cX12_image 59 = .ok (.aload_n 0, 1) := by decide +kernel
theorem dX12_image_60 : decode cX12_image 60 = .ok (.aload_n 0, 1) := by decide +kernel
theorem dX12_image_61 : decode cX12_image 61 = .ok (.getfield 89, 3) := by decide +kernel
theorem dX12_image_64 : decode cX12_image 64 = .ok (.putfield 374, 3) := by decide +kernel
theorem dX12_image_67 : decode cX12_image 67 = .ok (.aload_n 0, 1) := by decide +kernel
theorem dX12_image_68 : decode cX12_image 68 = .ok (.getfield 61, 3) := by decide +kernel
theorem dX12_image_71 : decode cX12_image 71 = .ok (.ireturn, 1) := by decide +kernel
theorem dX12_back_0 : decode cX12_back 0 = .ok (.aload_n 0, 1) := by decide +kernel
theorem dX12_back_1 : decode cX12_back 1 = .ok (.getfield 38, 3) := by decide +kernel
theorem dX12_back_4 : decode cX12_back 4 = .ok (.iconst (-1), 1) := by decide +kernel
theorem dX12_back_5 : decode cX12_back 5 = .ok (.if_icmp .ne 6, 3) := by decide +kernel
theorem dX12_back_8 : decode cX12_back 8 = .ok (.bipush (-3), 2) := by decide +kernel
theorem dX12_back_10 : decode cX12_back 10 = .ok (.ireturn, 1) := by decide +kernel
theorem dX12_back_11 : decode cX12_back 11 = .ok (.iconst 0, 1) := by decide +kernel
theorem dX12_back_12 : decode cX12_back 12 = .ok (.istore_n 1, 1) := by decide +kernel
theorem dX12_back_13 : decode cX12_back 13 = .ok (.iload_n 1, 1) := by decide +kernel
theorem dX12_back_14 : decode cX12_back 14 = .ok (.iconst 5, 1) := by decide +kernel
theorem dX12_back_15 : decode cX12_back 15 = .ok (.if_icmp .ge 21, 3) := by decide +kernel
theorem dX12_back_18 : decode cX12_back 18 = .ok (.aload_n 0, 1) := by decide +kernel
theorem dX12_back_19 : decode cX12_back 19 = .ok (.getfield 23, 3) := by decide +kernel
theorem dX12_back_22 : decode cX12_back 22 = .ok (.iload_n 1, 1) := by decide +kernel
theorem dX12_back_23 : decode cX12_back 23 = .ok (.aload_n 0, 1) := by decide +kernel
theorem dX12_back_24 : decode cX12_back 24 = .ok (.getfield 32, 3) := by decide +kernel
theorem dX12_back_27 : decode cX12_back 27 = .ok (.iload_n 1, 1) := by decide +kernel
theorem dX12_back_28 : decode cX12_back 28 = .ok (.iaload, 1) := by decide +kernel
theorem dX12_back_29 : decode cX12_back 29 = .ok (.iastore, 1) := by decide +kernel
theorem dX12_back_30 : decode cX12_back 30 = .ok (.iinc 1 1, 3) := by decide +kernel
theorem dX12_back_33 : decode cX12_back 33 = .ok (.goto (-20), 3) := by decide +kernel
theorem dX12_back_36 : decode cX12_back 36 = .ok (.iconst 0, 1) := by decide +kernel
theorem dX12_back_37 : decode cX12_back 37 = .ok (.istore_n 1, 1) := by decide +kernel
theorem dX12_back_38 : decode cX12_back 38 = .ok (.iload_n 1, 1) := by decide +kernel
theorem dX12_back_39 : decode cX12_back 39 = .ok (.bipush 32, 2) := by decide +kernel
theorem dX12_back_41 : decode cX12_back 41 = .ok (.if_icmp .ge 21, 3) := by decide +kernel
theorem dX12_back_44 : decode cX12_back 44 = .ok (.aload_n 0, 1) := by decide +kernel
theorem dX12_back_45 : decode cX12_back 45 = .ok (.getfield 29, 3) := by decide +kernel
theorem dX12_back_48 : decode cX12_back 48 = .ok (.iload_n 1, 1) := by decide +kernel
theorem dX12_back_49 : decode cX12_back 49 = .ok (.aload_n 0, 1) := by decide +kernel
theorem dX12_back_50 : decode cX12_back 50 = .ok (.getfield 35, 3) := by decide +kernel
theorem dX12_back_53 : decode cX12_back 53 = .ok (.iload_n 1, 1) := by decide +kernel
theorem dX12_back_54 : decode cX12_back 54 = .ok (.iaload, 1) := by decide +kernel
theorem dX12_back_55 : decode cX12_back 55 = .ok (.iastore, 1) := by decide +kernel
theorem dX12_back_56 : decode cX12_back 56 = .ok (.iinc 1 1, 3) := by decide +kernel
theorem dX12_back_59 : decode cX12_back 59 = .ok (.goto (-21), 3) := by decide +kernel
theorem dX12_back_62 : decode cX12_back 62 = .ok (.aload_n 0, 1) := by decide +kernel
theorem dX12_back_63 : decode cX12_back 63 = .ok (.aload_n 0, 1) := by decide +kernel
theorem dX12_back_64 : decode cX12_back 64 = .ok (.getfield 38, 3) := by decide +kernel
theorem dX12_back_67 : decode cX12_back 67 = .ok (.putfield 61, 3) := by decide +kernel
theorem dX12_back_70 : decode cX12_back 70 = .ok (.aload_n 0, 1) := by decide +kernel
theorem dX12_back_71 : decode cX12_back 71 = .ok (.aload_n 0, 1) := by decide +kernel
theorem dX12_back_72 : decode cX12_back 72 = .ok (.getfield 374, 3) := by decide +kernel
theorem dX12_back_75 : decode cX12_back 75 = .ok (.putfield 89, 3) := by decide +kernel
theorem dX12_back_78 : decode cX12_back 78 = .ok (.aload_n 0, 1) := by decide +kernel
theorem dX12_back_79 : decode cX12_back 79 = .ok (.getfield 61, 3) := by decide +kernel
theorem dX12_back_82 : decode cX12_back 82 = .ok (.ireturn, 1) := by decide +kernel
set_option maxRecDepth 20000 in
theorem ggX12_count_X12_in : GoodIn wsX12_count wsX12_in := goodIn_r _ [11] (by decide +kernel) (by decide +kernel)
set_option maxRecDepth 20000 in
theorem gX12_count_X12_in : GoodIn wsX12_count (va_wsS RX12 64 yX12_in wsX12_in) := goodIn_app (goodIn_of _ (by decide +kernel)) ggX12_count_X12_in
theorem dX12_count_0 : decode cX12_count 0 = .ok (.iload_n 1, 1) := by decide +kernel
theorem dX12_count_1 : decode cX12_count 1 = .ok (.i2l, 1) := by decide +kernel
theorem dX12_count_2 : decode cX12_count 2 = .ok (.lconst 0, 1) := by decide +kernel
theorem dX12_count_3 : decode cX12_count 3 = .ok (.ldc2_w 92, 3) := by decide +kernel
theorem dX12_count_6 : decode cX12_count 6 = .ok (.invokestatic 64, 3) := by decide +kernel
theorem dX12_count_9 : decode cX12_count 9 = .ok (.ifCond .ne 6, 3) := by decide +kernel
theorem dX12_count_12 : decode cX12_count 12 = .ok (.bipush (-2), 2) := by decide +kernel
theorem dX12_count_14 : decode cX12_count 14 = .ok (.ireturn, 1) := by decide +kernel
theorem dX12_count_15 : decode cX12_count 15 = .ok (.iload_n 1, 1) := by decide +kernel
theorem dX12_count_16 : decode cX12_count 16 = .ok (.iconst 2, 1) := by decide +kernel
theorem dX12_count_17 : decode cX12_count 17 = .ok (.if_icmp .le 32, 3) := by decide +kernel
theorem dX12_count_20 : decode cX12_count 20 = .ok (.iload_n 1, 1) := by decide +kernel
theorem dX12_count_21 : decode cX12_count 21 = .ok (.iconst 3, 1) := by decide +kernel
theorem dX12_count_22 : decode cX12_count 22 = .ok (.if_icmp .ne 10, 3) := by decide +kernel
theorem dX12_count_25 : decode cX12_count 25 = .ok (.aload_n 0, 1) := by decide +kernel
theorem dX12_count_26 : decode cX12_count 26 = .ok (.getfield 58, 3) := by decide +kernel
theorem dX12_count_29 : decode cX12_count 29 = .ok (.goto 19, 3) := by decide +kernel
theorem dX12_count_32 : decode cX12_count 32 = .ok (.iload_n 1, 1) := by decide +kernel
theorem dX12_count_33 : decode cX12_count 33 = .ok (.iconst 4, 1) := by decide +kernel
theorem dX12_count_34 : decode cX12_count 34 = .ok (.if_icmp .ne 10, 3) := by decide +kernel
theorem dX12_count_37 : decode cX12_count 37 = .ok (.aload_n 0, 1) := by decide +kernel
theorem dX12_count_38 : decode cX12_count 38 = .ok (.getfield 119, 3) := by decide +kernel
theorem dX12_count_41 : decode cX12_count 41 = .ok (.goto 7, 3) := by decide +kernel
theorem dX12_count_44 : decode cX12_count 44 = .ok (.aload_n 0, 1) := by decide +kernel
theorem dX12_count_45 : decode cX12_count 45 = .ok (.getfield 89, 3) := by decide +kernel
theorem dX12_count_48 : decode cX12_count 48 = .ok (.ireturn, 1) := by decide +kernel
theorem dX12_count_49 : decode cX12_count 49 = .ok (.iconst 0, 1) := by decide +kernel
theorem dX12_count_50 : decode cX12_count 50 = .ok (.istore_n 2, 1) := by decide +kernel
theorem dX12_count_51 : decode cX12_count 51 = .ok (.iconst 0, 1) := by decide +kernel
theorem dX12_count_52 : decode cX12_count 52 = .ok (.istore_n 3, 1) := by decide +kernel
theorem dX12_count_53 : decode cX12_count 53 = .ok (.iload_n 3, 1) := by decide +kernel
theorem dX12_count_54 : decode cX12_count 54 = .ok (.bipush 10, 2) := by decide +kernel
theorem dX12_count_56 : decode cX12_count 56 = .ok (.if_icmp .ge 27, 3) := by decide +kernel
theorem dX12_count_59 : decode cX12_count 59 = .ok (.iload_n 1, 1) := by decide +kernel
theorem dX12_count_60 : decode cX12_count 60 = .ok (.iconst 1, 1) := by decide +kernel
theorem dX12_count_61 : decode cX12_count 61 = .ok (.if_icmp .ne 22, 3) := by decide +kernel
theorem dX12_count_64 : decode cX12_count 64 = .ok (.iload_n 2, 1) := by decide +kernel
theorem dX12_count_65 : decode cX12_count 65 = .ok (.aload_n 0, 1) := by decide +kernel
theorem dX12_count_66 : decode cX12_count 66 = .ok (.getfield 23, 3) := by decide +kernel
theorem dX12_count_69 : decode cX12_count 69 = .ok (.iconst 3, 1) := by decide +kernel
theorem dX12_count_70 : decode cX12_count 70 = .ok (.iaload, 1) := by decide +kernel
theorem dX12_count_71 : decode cX12_count 71 = .ok (.iload_n 3, 1) := by decide +kernel
theorem dX12_count_72 : decode cX12_count 72 = .ok (.ishr, 1) := by decide +kernel
theorem dX12_count_73 : decode cX12_count 73 = .ok (.iconst 1, 1) := by decide +kernel
theorem dX12_count_74 : decode cX12_count 74 = .ok (.iand, 1) := by decide +kernel
theorem dX12_count_75 : decode cX12_count 75 = .ok (.iadd, 1) := by decide +kernel
theorem dX12_count_76 : decode cX12_count 76 = .ok (.istore_n 2, 1) := by decide +kernel
theorem dX12_count_77 : decode cX12_count 77 = .ok (.iinc 3 1, 3) := by decide +kernel
theorem dX12_count_80 : decode cX12_count 80 = .ok (.goto (-27), 3) := by decide +kernel
theorem dX12_count_83 : decode cX12_count 83 = .ok (.iconst 0, 1) := by decide +kernel
theorem dX12_count_84 : decode cX12_count 84 = .ok (.istore_n 3, 1) := by decide +kernel
theorem dX12_count_85 : decode cX12_count 85 = .ok (.iload_n 3, 1) := by decide +kernel
theorem dX12_count_86 : decode cX12_count 86 = .ok (.aload_n 0, 1) := by decide +kernel
theorem dX12_count_87 : decode cX12_count 87 = .ok (.getfield 61, 3) := by decide +kernel
theorem dX12_count_90 : decode cX12_count 90 = .ok (.if_icmp .ge 27, 3) := by decide +kernel
theorem dX12_count_93 : decode cX12_count 93 = .ok (.iload_n 1, 1) := by decide +kernel
theorem dX12_count_94 : decode cX12_count 94 = .ok (.iconst 2, 1) := by decide +kernel
theorem dX12_count_95 : decode cX12_count 95 = .ok (.if_icmp .ne 22, 3) := by decide +kernel
theorem dX12_count_98 : decode cX12_count 98 = .ok (.iload_n 2, 1) := by decide +kernel
theorem dX12_count_99 : decode cX12_count 99 = .ok (.aload_n 0, 1) := by decide +kernel
theorem dX12_count_100 : decode cX12_count 100 = .ok (.getfield 29, 3) := by decide +kernel
theorem dX12_count_103 : decode cX12_count 103 = .ok (.iconst 4, 1) := by decide +kernel
theorem dX12_count_104 : decode cX12_count 104 = .ok (.iload_n 3, 1) := by decide +kernel
theorem dX12_count_105 : decode cX12_count 105 = .ok (.imul, 1) := by decide +kernel
theorem dX12_count_106 : decode cX12_count 106 = .ok (.iconst 3, 1) := by decide +kernel
theorem dX12_count_107 : decode cX12_count 107 = .ok (.iadd, 1) := by decide +kernel
theorem dX12_count_108 : decode cX12_count 108 = .ok (.iaload, 1) := by decide +kernel
theorem dX12_count_109 : decode cX12_count 109 = .ok (.iadd, 1) := by decide +kernel
theorem dX12_count_110 : decode cX12_count 110 = .ok (.istore_n 2, 1) := by decide +kernel
theorem dX12_count_111 : decode cX12_count 111 = .ok (.iinc 3 1, 3) := by decide +kernel
theorem dX12_count_114 : decode cX12_count 114 = .ok (.goto (-29), 3) := by decide +kernel
theorem dX12_count_117 : decode cX12_count 117 = .ok (.iload_n 1, 1) := by decide +kernel
theorem dX12_count_118 : decode cX12_count 118 = .ok (.ifCond .ne 10, 3) := by decide +kernel
theorem dX12_count_121 : decode cX12_count 121 = .ok (.aload_n 0, 1) := by decide +kernel
theorem dX12_count_122 : decode cX12_count 122 = .ok (.getfield 61, 3) := by decide +kernel
theorem dX12_count_125 : decode cX12_count 125 = .ok (.goto 4, 3) := by decide +kernel
theorem dX12_count_128 : decode cX12_count 128 = .ok (.iload_n 2, 1) := by decide +kernel
theorem dX12_count_129 : decode cX12_count 129 = .ok (.ireturn, 1) := by decide +kernel
set_option maxRecDepth 20000 in
theorem ggX12_isSheet_X12_in : GoodIn wsX12_isSheet wsX12_in := goodIn_r _ [5] (by decide +kernel) (by decide +kernel)
set_option maxRecDepth 20000 in
theorem gX12_isSheet_X12_in : GoodIn wsX12_isSheet (va_wsS RX12 64 yX12_in wsX12_in) := goodIn_app (goodIn_of _ (by decide +kernel)) ggX12_isSheet_X12_in
theorem dX12_isSheet_0 : decode cX12_isSheet 0 = .ok (.iload_n 0, 1) := by decide +kernel
theorem dX12_isSheet_1 : decode cX12_isSheet 1 = .ok (.i2l, 1) := by decide +kernel
theorem dX12_isSheet_2 : decode cX12_isSheet 2 = .ok (.lconst 0, 1) := by decide +kernel
theorem dX12_isSheet_3 : decode cX12_isSheet 3 = .ok (.ldc2_w 377, 3) := by decide +kernel
theorem dX12_isSheet_6 : decode cX12_isSheet 6 = .ok (.invokestatic 64, 3) := by decide +kernel
theorem dX12_isSheet_9 : decode cX12_isSheet 9 = .ok (.ireturn, 1) := by decide +kernel
set_option maxRecDepth 20000 in
theorem ggX12_sheet_X12_isSheet : GoodIn wsX12_sheet wsX12_isSheet := goodIn_r _ [10, 11, 12, 13, 9, 14] (by decide +kernel) (by decide +kernel)
set_option maxRecDepth 20000 in
theorem gX12_sheet_X12_isSheet : GoodIn wsX12_sheet (va_wsS RX12 354 yX12_isSheet wsX12_isSheet) := goodIn_app (goodIn_of _ (by decide +kernel)) ggX12_sheet_X12_isSheet
set_option maxRecDepth 20000 in
theorem ggX12_sheet_X12_in : GoodIn wsX12_sheet wsX12_in := goodIn_r _ [14] (by decide +kernel) (by decide +kernel)
set_option maxRecDepth 20000 in
theorem gX12_sheet_X12_in : GoodIn wsX12_sheet (va_wsS RX12 64 yX12_in wsX12_in) := goodIn_app (goodIn_of _ (by decide +kernel)) ggX12_sheet_X12_in
theorem dX12_sheet_0 : decode cX12_sheet 0 = .ok (.iload_n 1, 1) := by decide +kernel
theorem dX12_sheet_1 : decode cX12_sheet 1 = .ok (.invokestatic 354, 3) := by decide +kernel
theorem dX12_sheet_4 : decode cX12_sheet 4 = .ok (.ifCond .eq 27, 3) := by decide +kernel
theorem dX12_sheet_7 : decode cX12_sheet 7 = .ok (.iload_n 2, 1) := by decide +kernel
theorem dX12_sheet_8 : decode cX12_sheet 8 = .ok (.i2l, 1) := by decide +kernel
theorem dX12_sheet_9 : decode cX12_sheet 9 = .ok (.ldc2_w 379, 3) := by decide +kernel
theorem dX12_sheet_12 : decode cX12_sheet 12 = .ok (.ldc2_w 381, 3) := by decide +kernel
theorem dX12_sheet_15 : decode cX12_sheet 15 = .ok (.invokestatic 64, 3) := by decide +kernel
theorem dX12_sheet_18 : decode cX12_sheet 18 = .ok (.ifCond .eq 13, 3) := by decide +kernel
theorem dX12_sheet_21 : decode cX12_sheet 21 = .ok (.iload_n 2, 1) := by decide +kernel
theorem dX12_sheet_22 : decode cX12_sheet 22 = .ok (.ifCond .lt 12, 3) := by decide +kernel
theorem dX12_sheet_25 : decode cX12_sheet 25 = .ok (.iload_n 3, 1) := by decide +kernel
theorem dX12_sheet_26 : decode cX12_sheet 26 = .ok (.bipush 40, 2) := by decide +kernel
theorem dX12_sheet_28 : decode cX12_sheet 28 = .ok (.if_icmp .le 6, 3) := by decide +kernel
theorem dX12_sheet_31 : decode cX12_sheet 31 = .ok (.bipush (-2), 2) := by decide +kernel
theorem dX12_sheet_33 : decode cX12_sheet 33 = .ok (.ireturn, 1) := by decide +kernel
theorem dX12_sheet_34 : decode cX12_sheet 34 = .ok (.iload_n 2, 1) := by decide +kernel
theorem dX12_sheet_35 : decode cX12_sheet 35 = .ok (.ifCond .lt 10, 3) := by decide +kernel
theorem dX12_sheet_38 : decode cX12_sheet 38 = .ok (.iload_n 3, 1) := by decide +kernel
theorem dX12_sheet_39 : decode cX12_sheet 39 = .ok (.ifCond .ge 6, 3) := by decide +kernel
theorem dX12_sheet_42 : decode cX12_sheet 42 = .ok (.bipush (-14), 2) := by decide +kernel
theorem dX12_sheet_44 : decode cX12_sheet 44 = .ok (.ireturn, 1) := by decide +kernel
theorem dX12_sheet_45 : decode cX12_sheet 45 = .ok (.aload_n 0, 1) := by decide +kernel
theorem dX12_sheet_46 : decode cX12_sheet 46 = .ok (.getfield 41, 3) := by decide +kernel
theorem dX12_sheet_49 : decode cX12_sheet 49 = .ok (.iload_n 1, 1) := by decide +kernel
theorem dX12_sheet_50 : decode cX12_sheet 50 = .ok (.iload_n 2, 1) := by decide +kernel
theorem dX12_sheet_51 : decode cX12_sheet 51 = .ok (.ifCond .lt 7, 3) := by decide +kernel
theorem dX12_sheet_54 : decode cX12_sheet 54 = .ok (.iconst 1, 1) := by decide +kernel
theorem dX12_sheet_55 : decode cX12_sheet 55 = .ok (.goto 4, 3) := by decide +kernel
theorem dX12_sheet_58 : decode cX12_sheet 58 = .ok (.iconst 0, 1) := by decide +kernel
theorem dX12_sheet_59 : decode cX12_sheet 59 = .ok (.bastore, 1) := by decide +kernel
theorem dX12_sheet_60 : decode cX12_sheet 60 = .ok (.aload_n 0, 1) := by decide +kernel
theorem dX12_sheet_61 : decode cX12_sheet 61 = .ok (.getfield 45, 3) := by decide +kernel
theorem dX12_sheet_64 : decode cX12_sheet 64 = .ok (.iload_n 1, 1) := by decide +kernel
theorem dX12_sheet_65 : decode cX12_sheet 65 = .ok (.iload_n 2, 1) := by decide +kernel
theorem dX12_sheet_66 : decode cX12_sheet 66 = .ok (.iastore, 1) := by decide +kernel
theorem dX12_sheet_67 : decode cX12_sheet 67 = .ok (.aload_n 0, 1) := by decide +kernel
theorem dX12_sheet_68 : decode cX12_sheet 68 = .ok (.getfield 48, 3) := by decide +kernel
theorem dX12_sheet_71 : decode cX12_sheet 71 = .ok (.iload_n 1, 1) := by decide +kernel
theorem dX12_sheet_72 : decode cX12_sheet 72 = .ok (.iload_n 3, 1) := by decide +kernel
theorem dX12_sheet_73 : decode cX12_sheet 73 = .ok (.iastore, 1) := by decide +kernel
theorem dX12_sheet_74 : decode cX12_sheet 74 = .ok (.iconst 0, 1) := by decide +kernel
theorem dX12_sheet_75 : decode cX12_sheet 75 = .ok (.istore 4, 2) := by decide +kernel
theorem dX12_sheet_77 : decode cX12_sheet 77 = .ok (.iload 4, 2) := by decide +kernel
theorem dX12_sheet_79 : decode cX12_sheet 79 = .ok (.iload_n 3, 1) := by decide +kernel
theorem dX12_sheet_80 : decode cX12_sheet 80 = .ok (.if_icmp .ge 26, 3) := by decide +kernel
theorem dX12_sheet_83 : decode cX12_sheet 83 = .ok (.iload_n 2, 1) := by decide +kernel
theorem dX12_sheet_84 : decode cX12_sheet 84 = .ok (.ifCond .lt 22, 3) := by decide +kernel
theorem dX12_sheet_87 : decode cX12_sheet 87 = .ok (.aload_n 0, 1) := by decide +kernel
theorem dX12_sheet_88 : decode cX12_sheet 88 = .ok (.getfield 51, 3) := by decide +kernel
theorem dX12_sheet_91 : decode cX12_sheet 91 = .ok (.bipush 40, 2) := by decide +kernel
theorem dX12_sheet_93 : decode cX12_sheet 93 = .ok (.iload_n 1, 1) := by decide +kernel
theorem dX12_sheet_94 : decode cX12_sheet 94 = .ok (.imul, 1) := by decide +kernel
theorem dX12_sheet_95 : decode cX12_sheet 95 = .ok (.iload 4, 2) := by decide +kernel
theorem dX12_sheet_97 : decode cX12_sheet 97 = .ok (.iadd, 1) := by decide +kernel
theorem dX12_sheet_98 : decode cX12_sheet 98 = .ok (.iconst 0, 1) := by decide +kernel
theorem dX12_sheet_99 : decode cX12_sheet 99 = .ok (.iastore, 1) := by decide +kernel
theorem dX12_sheet_100 : decode cX12_sheet 100 = .ok (.iinc 4 1, 3) := by decide +kernel
theorem dX12_sheet_103 : decode cX12_sheet 103 = .ok (.goto (-26), 3) := by decide +kernel
theorem dX12_sheet_106 : decode cX12_sheet 106 = .ok (.iconst 1, 1) := by decide +kernel
theorem dX12_sheet_107 : decode cX12_sheet 107 = .ok (.ireturn, 1) := by decide +kernel
set_option maxRecDepth 20000 in
theorem ggX12_cell_X12_isSheet : GoodIn wsX12_cell wsX12_isSheet := goodIn_r _ [8, 9, 10, 11, 7, 12] (by decide +kernel) (by decide +kernel)
set_option maxRecDepth 20000 in
theorem gX12_cell_X12_isSheet : GoodIn wsX12_cell (va_wsS RX12 354 yX12_isSheet wsX12_isSheet) := goodIn_app (goodIn_of _ (by decide +kernel)) ggX12_cell_X12_isSheet
set_option maxRecDepth 20000 in
theorem ggX12_cell_X12_in : GoodIn wsX12_cell wsX12_in := goodIn_r _ [12] (by decide +kernel) (by decide +kernel)
set_option maxRecDepth 20000 in
theorem gX12_cell_X12_in : GoodIn wsX12_cell (va_wsS RX12 64 yX12_in wsX12_in) := goodIn_app (goodIn_of _ (by decide +kernel)) ggX12_cell_X12_in
theorem dX12_cell_0 : decode cX12_cell 0 = .ok (.iload_n 1, 1) := by decide +kernel
theorem dX12_cell_1 : decode cX12_cell 1 = .ok (.invokestatic 354, 3) := by decide +kernel
theorem dX12_cell_4 : decode cX12_cell 4 = .ok (.ifCond .ne 6, 3) := by decide +kernel
theorem dX12_cell_7 : decode cX12_cell 7 = .ok (.bipush (-2), 2) := by decide +kernel
theorem dX12_cell_9 : decode cX12_cell 9 = .ok (.ireturn, 1) := by decide +kernel
theorem dX12_cell_10 : decode cX12_cell 10 = .ok (.aload_n 0, 1) := by decide +kernel
theorem dX12_cell_11 : decode cX12_cell 11 = .ok (.getfield 41, 3) := by decide +kernel
theorem dX12_cell_14 : decode cX12_cell 14 = .ok (.iload_n 1, 1) := by decide +kernel
theorem dX12_cell_15 : decode cX12_cell 15 = .ok (.baload, 1) := by decide +kernel
theorem dX12_cell_16 : decode cX12_cell 16 = .ok (.ifCond .ne 6, 3) := by decide +kernel
theorem dX12_cell_19 : decode cX12_cell 19 = .ok (.bipush (-11), 2) := by decide +kernel
theorem dX12_cell_21 : decode cX12_cell 21 = .ok (.ireturn, 1) := by decide +kernel
theorem dX12_cell_22 : decode cX12_cell 22 = .ok (.iload_n 2, 1) := by decide +kernel
theorem dX12_cell_23 : decode cX12_cell 23 = .ok (.i2l, 1) := by decide +kernel
theorem dX12_cell_24 : decode cX12_cell 24 = .ok (.lconst 0, 1) := by decide +kernel
theorem dX12_cell_25 : decode cX12_cell 25 = .ok (.aload_n 0, 1) := by decide +kernel
theorem dX12_cell_26 : decode cX12_cell 26 = .ok (.getfield 48, 3) := by decide +kernel
theorem dX12_cell_29 : decode cX12_cell 29 = .ok (.iload_n 1, 1) := by decide +kernel
theorem dX12_cell_30 : decode cX12_cell 30 = .ok (.iaload, 1) := by decide +kernel
theorem dX12_cell_31 : decode cX12_cell 31 = .ok (.iconst 1, 1) := by decide +kernel
theorem dX12_cell_32 : decode cX12_cell 32 = .ok (.isub, 1) := by decide +kernel
theorem dX12_cell_33 : decode cX12_cell 33 = .ok (.i2l, 1) := by decide +kernel
theorem dX12_cell_34 : decode cX12_cell 34 = .ok (.invokestatic 64, 3) := by decide +kernel
theorem dX12_cell_37 : decode cX12_cell 37 = .ok (.ifCond .ne 6, 3) := by decide +kernel
theorem dX12_cell_40 : decode cX12_cell 40 = .ok (.bipush (-12), 2) := by decide +kernel
theorem dX12_cell_42 : decode cX12_cell 42 = .ok (.ireturn, 1) := by decide +kernel
theorem dX12_cell_43 : decode cX12_cell 43 = .ok (.aload_n 0, 1) := by decide +kernel
theorem dX12_cell_44 : decode cX12_cell 44 = .ok (.getfield 51, 3) := by decide +kernel
theorem dX12_cell_47 : decode cX12_cell 47 = .ok (.bipush 40, 2) := by decide +kernel
theorem dX12_cell_49 : decode cX12_cell 49 = .ok (.iload_n 1, 1) := by decide +kernel
theorem dX12_cell_50 : decode cX12_cell 50 = .ok (.imul, 1) := by decide +kernel
theorem dX12_cell_51 : decode cX12_cell 51 = .ok (.iload_n 2, 1) := by decide +kernel
theorem dX12_cell_52 : decode cX12_cell 52 = .ok (.iadd, 1) := by decide +kernel
theorem dX12_cell_53 : decode cX12_cell 53 = .ok (.aload_n 0, 1) := by decide +kernel
theorem dX12_cell_54 : decode cX12_cell 54 = .ok (.getfield 45, 3) := by decide +kernel
theorem dX12_cell_57 : decode cX12_cell 57 = .ok (.iload_n 1, 1) := by decide +kernel
theorem dX12_cell_58 : decode cX12_cell 58 = .ok (.iaload, 1) := by decide +kernel
theorem dX12_cell_59 : decode cX12_cell 59 = .ok (.ifCond .ne 8, 3) := by decide +kernel
theorem dX12_cell_62 : decode cX12_cell 62 = .ok (.iload_n 3, 1) := by decide +kernel
theorem dX12_cell_63 : decode cX12_cell 63 = .ok (.i2b, 1) := by decide +kernel
theorem dX12_cell_64 : decode cX12_cell 64 = .ok (.goto 19, 3) := by decide +kernel
theorem dX12_cell_67 : decode cX12_cell 67 = .ok (.aload_n 0, 1) := by decide +kernel
theorem dX12_cell_68 : decode cX12_cell 68 = .ok (.getfield 45, 3) := by decide +kernel
theorem dX12_cell_71 : decode cX12_cell 71 = .ok (.iload_n 1, 1) := by decide +kernel
theorem dX12_cell_72 : decode cX12_cell 72 = .ok (.iaload, 1) := by decide +kernel
theorem dX12_cell_73 : decode cX12_cell 73 = .ok (.iconst 1, 1) := by decide +kernel
theorem dX12_cell_74 : decode cX12_cell 74 = .ok (.if_icmp .ne 8, 3) := by decide +kernel
theorem dX12_cell_77 : decode cX12_cell 77 = .ok (.iload_n 3, 1) := by decide +kernel
theorem dX12_cell_78 : decode cX12_cell 78 = .ok (.i2s, 1) := by decide +kernel
theorem dX12_cell_79 : decode cX12_cell 79 = .ok (.goto 4, 3) := by decide +kernel
theorem dX12_cell_82 : decode cX12_cell 82 = .ok (.iload_n 3, 1) := by decide +kernel
theorem dX12_cell_83 : decode cX12_cell 83 = .ok (.iastore, 1) := by decide +kernel
theorem dX12_cell_84 : decode cX12_cell 84 = .ok (.iconst 1, 1) := by decide +kernel
theorem dX12_cell_85 : decode cX12_cell 85 = .ok (.ireturn, 1) := by decide +kernel
set_option maxRecDepth 20000 in
theorem ggX12_copy_X12_isSheet : GoodIn wsX12_copy wsX12_isSheet := goodIn_r _ [8, 9, 10, 11, 7, 12] (by decide +kernel) (by decide +kernel)
set_option maxRecDepth 20000 in
theorem gX12_copy_X12_isSheet : GoodIn wsX12_copy (va_wsS RX12 354 yX12_isSheet wsX12_isSheet) := goodIn_app (goodIn_of _ (by decide +kernel)) ggX12_copy_X12_isSheet
theorem dX12_copy_0 : decode cX12_copy 0 = .ok (.iload_n 1, 1) := by decide +kernel
theorem dX12_copy_1 : decode cX12_copy 1 = .ok (.invokestatic 354, 3) := by decide +kernel
theorem dX12_copy_4 : decode cX12_copy 4 = .ok (.ifCond .eq 10, 3) := by decide +kernel
theorem dX12_copy_7 : decode cX12_copy 7 = .ok (.iload_n 3, 1) := by decide +kernel
theorem dX12_copy_8 : decode cX12_copy 8 = .ok (.invokestatic 354, 3) := by decide +kernel
theorem dX12_copy_11 : decode cX12_copy 11 = .ok (.ifCond .ne 6, 3) := by decide +kernel
theorem dX12_copy_14 : decode cX12_copy 14 = .ok (.bipush (-2), 2) := by decide +kernel
theorem dX12_copy_16 : decode cX12_copy 16 = .ok (.ireturn, 1) := by decide +kernel
theorem dX12_copy_17 : decode cX12_copy 17 = .ok (.aload_n 0, 1) := by decide +kernel
theorem dX12_copy_18 : decode cX12_copy 18 = .ok (.getfield 41, 3) := by decide +kernel
theorem dX12_copy_21 : decode cX12_copy 21 = .ok (.iload_n 1, 1) := by decide +kernel
theorem dX12_copy_22 : decode cX12_copy 22 = .ok (.baload, 1) := by decide +kernel
theorem dX12_copy_23 : decode cX12_copy 23 = .ok (.ifCond .eq 12, 3) := by decide +kernel
theorem dX12_copy_26 : decode cX12_copy 26 = .ok (.aload_n 0, 1) := by decide +kernel
theorem dX12_copy_27 : decode cX12_copy 27 = .ok (.getfield 41, 3) := by decide +kernel
theorem dX12_copy_30 : decode cX12_copy 30 = .ok (.iload_n 3, 1) := by decide +kernel
theorem dX12_copy_31 : decode cX12_copy 31 = .ok (.baload, 1) := by decide +kernel
theorem dX12_copy_32 : decode cX12_copy 32 = .ok (.ifCond .ne 6, 3) := by decide +kernel
theorem dX12_copy_35 : decode cX12_copy 35 = .ok (.bipush (-11), 2) := by decide +kernel
theorem dX12_copy_37 : decode cX12_copy 37 = .ok (.ireturn, 1) := by decide +kernel
theorem dX12_copy_38 : decode cX12_copy 38 = .ok (.aload_n 0, 1) := by decide +kernel
theorem dX12_copy_39 : decode cX12_copy 39 = .ok (.getfield 45, 3) := by decide +kernel
theorem dX12_copy_42 : decode cX12_copy 42 = .ok (.iload_n 1, 1) := by decide +kernel
theorem dX12_copy_43 : decode cX12_copy 43 = .ok (.iaload, 1) := by decide +kernel
theorem dX12_copy_44 : decode cX12_copy 44 = .ok (.aload_n 0, 1) := by decide +kernel
theorem dX12_copy_45 : decode cX12_copy 45 = .ok (.getfield 45, 3) := by decide +kernel
theorem dX12_copy_48 : decode cX12_copy 48 = .ok (.iload_n 3, 1) := by decide +kernel
theorem dX12_copy_49 : decode cX12_copy 49 = .ok (.iaload, 1) := by decide +kernel
theorem dX12_copy_50 : decode cX12_copy 50 = .ok (.if_icmp .eq 6, 3) := by decide +kernel
theorem dX12_copy_53 : decode cX12_copy 53 = .ok (.bipush (-13), 2) := by decide +kernel
theorem dX12_copy_55 : decode cX12_copy 55 = .ok (.ireturn, 1) := by decide +kernel
theorem dX12_copy_56 : decode cX12_copy 56 = .ok (.iload 5, 2) := by decide +kernel
theorem dX12_copy_58 : decode cX12_copy 58 = .ok (.ifCond .lt 39, 3) := by decide +kernel
theorem dX12_copy_61 : decode cX12_copy 61 = .ok (.iload_n 2, 1) := by decide +kernel
theorem dX12_copy_62 : decode cX12_copy 62 = .ok (.ifCond .lt 35, 3) := by decide +kernel
theorem dX12_copy_65 : decode cX12_copy 65 = .ok (.iload 4, 2) := by decide +kernel
theorem dX12_copy_67 : decode cX12_copy 67 = .ok (.ifCond .lt 30, 3) := by decide +kernel
theorem dX12_copy_70 : decode cX12_copy 70 = .ok (.iload_n 2, 1) := by decide +kernel
theorem dX12_copy_71 : decode cX12_copy 71 = .ok (.aload_n 0, 1) := by decide +kernel
theorem dX12_copy_72 : decode cX12_copy 72 = .ok (.getfield 48, 3) := by decide +kernel
theorem dX12_copy_75 : decode cX12_copy 75 = .ok (.iload_n 1, 1) := by decide +kernel
theorem dX12_copy_76 : decode cX12_copy 76 = .ok (.iaload, 1) := by decide +kernel
theorem dX12_copy_77 : decode cX12_copy 77 = .ok (.iload 5, 2) := by decide +kernel
theorem dX12_copy_79 : decode cX12_copy 79 = .ok (.isub, 1) := by decide +kernel
theorem dX12_copy_80 : decode cX12_copy 80 = .ok (.if_icmp .gt 17, 3) := by decide +kernel
theorem dX12_copy_83 : decode cX12_copy 83 = .ok (.iload 4, 2) := by decide +kernel
theorem dX12_copy_85 : decode cX12_copy 85 = .ok (.aload_n 0, 1) := by decide +kernel
theorem dX12_copy_86 : decode cX12_copy 86 = .ok (.getfield 48, 3) := by decide +kernel
theorem dX12_copy_89 : decode cX12_copy 89 = .ok (.iload_n 3, 1) := by decide +kernel
theorem dX12_copy_90 : decode cX12_copy 90 = .ok (.iaload, 1) := by decide +kernel
theorem dX12_copy_91 : decode cX12_copy 91 = .ok (.iload 5, 2) := by decide +kernel
theorem dX12_copy_93 : decode cX12_copy 93 = .ok (.isub, 1) := by decide +kernel
theorem dX12_copy_94 : decode cX12_copy 94 = .ok (.if_icmp .le 6, 3) := by decide +kernel
theorem dX12_copy_97 : decode cX12_copy 97 = .ok (.bipush (-12), 2) := by decide +kernel
theorem dX12_copy_99 : decode cX12_copy 99 = .ok (.ireturn, 1) := by decide +kernel
theorem dX12_copy_100 : decode cX12_copy 100 = .ok (.iload_n 1, 1) := by decide +kernel
theorem dX12_copy_101 : decode cX12_copy 101 = .ok (.iload_n 3, 1) := by decide +kernel
theorem dX12_copy_102 : decode cX12_copy 102 = .ok (.if_icmp .ne 13, 3) := by decide +kernel
theorem dX12_copy_105 : decode cX12_copy 105 = .ok (.iload_n 2, 1) := by decide +kernel
theorem dX12_copy_106 : decode cX12_copy 106 = .ok (.iload 4, 2) := by decide +kernel
theorem dX12_copy_108 : decode cX12_copy 108 = .ok (.if_icmp .ge 7, 3) := by decide +kernel
theorem dX12_copy_111 : decode cX12_copy 111 = .ok (.iconst 1, 1) := by decide +kernel
theorem dX12_copy_112 : decode cX12_copy 112 = .ok (.goto 4, 3) := by decide +kernel
theorem dX12_copy_115 : decode cX12_copy 115 = .ok (.iconst 0, 1) := by decide +kernel
theorem dX12_copy_116 : decode cX12_copy 116 = .ok (.istore 6, 2) := by decide +kernel
theorem dX12_copy_118 : decode cX12_copy 118 = .ok (.iconst 0, 1) := by decide +kernel
theorem dX12_copy_119 : decode cX12_copy 119 = .ok (.istore 7, 2) := by decide +kernel
theorem dX12_copy_121 : decode cX12_copy 121 = .ok (.iload 7, 2) := by decide +kernel
theorem dX12_copy_123 : decode cX12_copy 123 = .ok (.iload 5, 2) := by decide +kernel
theorem dX12_copy_125 : decode cX12_copy 125 = .ok (.if_icmp .ge 57, 3) := by decide +kernel
theorem dX12_copy_128 : decode cX12_copy 128 = .ok (.iload 6, 2) := by decide +kernel
theorem dX12_copy_130 : decode cX12_copy 130 = .ok (.ifCond .eq 13, 3) := by decide +kernel
theorem dX12_copy_133 : decode cX12_copy 133 = .ok (.iload 5, 2) := by decide +kernel
theorem dX12_copy_135 : decode cX12_copy 135 = .ok (.iconst 1, 1) := by decide +kernel
theorem dX12_copy_136 : decode cX12_copy 136 = .ok (.isub, 1) := by decide +kernel
theorem dX12_copy_137 : decode cX12_copy 137 = .ok (.iload 7, 2) := by decide +kernel
theorem dX12_copy_139 : decode cX12_copy 139 = .ok (.isub, 1) := by decide +kernel
theorem dX12_copy_140 : decode cX12_copy 140 = .ok (.goto 5, 3) := by decide +kernel
theorem dX12_copy_143 : decode cX12_copy 143 = .ok (.iload 7, 2) := by decide +kernel
theorem dX12_copy_145 : decode cX12_copy 145 = .ok (.istore 8, 2) := by decide +kernel
theorem dX12_copy_147 : decode cX12_copy 147 = .ok (.aload_n 0, 1) := by decide +kernel
theorem dX12_copy_148 : decode cX12_copy 148 = .ok (.getfield 51, 3) := by decide +kernel
theorem dX12_copy_151 : decode cX12_copy 151 = .ok (.bipush 40, 2) := by decide +kernel
theorem dX12_copy_153 : decode cX12_copy 153 = .ok (.iload_n 3, 1) := by decide +kernel
theorem dX12_copy_154 : decode cX12_copy 154 = .ok (.imul, 1) := by decide +kernel
theorem dX12_copy_155 : decode cX12_copy 155 = .ok (.iload 4, 2) := by decide +kernel
theorem dX12_copy_157 : decode cX12_copy 157 = .ok (.iadd, 1) := by decide +kernel
theorem dX12_copy_158 : decode cX12_copy 158 = .ok (.iload 8, 2) := by decide +kernel
theorem dX12_copy_160 : decode cX12_copy 160 = .ok (.iadd, 1) := by decide +kernel
theorem dX12_copy_161 : decode cX12_copy 161 = .ok (.aload_n 0, 1) := by decide +kernel
theorem dX12_copy_162 : decode cX12_copy 162 = .ok (.getfield 51, 3) := by decide +kernel
theorem dX12_copy_165 : decode cX12_copy 165 = .ok (.bipush 40, 2) := by decide +kernel
theorem dX12_copy_167 : decode cX12_copy 167 = .ok (.iload_n 1, 1) := by decide +kernel
theorem dX12_copy_168 : decode cX12_copy 168 = .ok (.imul, 1) := by decide +kernel
theorem dX12_copy_169 : decode cX12_copy 169 = .ok (.iload_n 2, 1) := by decide +kernel
theorem dX12_copy_170 : decode cX12_copy 170 = .ok (.iadd, 1) := by decide +kernel
theorem dX12_copy_171 : decode cX12_copy 171 = .ok (.iload 8, 2) := by decide +kernel
theorem dX12_copy_173 : decode cX12_copy 173 = .ok (.iadd, 1) := by decide +kernel
theorem dX12_copy_174 : decode cX12_copy 174 = .ok (.iaload, 1) := by decide +kernel
theorem dX12_copy_175 : decode cX12_copy 175 = .ok (.iastore, 1) := by decide +kernel
theorem dX12_copy_176 : decode cX12_copy 176 = .ok (.iinc 7 1, 3) := by decide +kernel
theorem dX12_copy_179 : decode cX12_copy 179 = .ok (.goto (-58), 3) := by decide +kernel
theorem dX12_copy_182 : decode cX12_copy 182 = .ok (.iload 5, 2) := by decide +kernel
theorem dX12_copy_184 : decode cX12_copy 184 = .ok (.ireturn, 1) := by decide +kernel
set_option maxRecDepth 20000 in
theorem ggX12_customers_X12_isSheet : GoodIn wsX12_customers wsX12_isSheet := goodIn_r _ [10, 11, 12, 13, 9, 14] (by decide +kernel) (by decide +kernel)
set_option maxRecDepth 20000 in
theorem gX12_customers_X12_isSheet : GoodIn wsX12_customers (va_wsS RX12 354 yX12_isSheet wsX12_isSheet) := goodIn_app (goodIn_of _ (by decide +kernel)) ggX12_customers_X12_isSheet
set_option maxRecDepth 20000 in
theorem ggX12_customers_X12_in : GoodIn wsX12_customers wsX12_in := goodIn_r _ [14] (by decide +kernel) (by decide +kernel)
set_option maxRecDepth 20000 in
theorem gX12_customers_X12_in : GoodIn wsX12_customers (va_wsS RX12 64 yX12_in wsX12_in) := goodIn_app (goodIn_of _ (by decide +kernel)) ggX12_customers_X12_in
set_option maxRecDepth 20000 in
theorem ggX12_customers_X12_customer : GoodIn wsX12_customers wsX12_customer := goodIn_r _ [18, 19, 20, 21, 22, 23, 12, 13, 9, 14, 24, 25, 26, 27, 28, 29, 30, 31, 32, 33, 34, 35, 36, 37, 38, 39, 40, 41, 42, 43, 44, 45, 46, 47, 48, 49, 50, 51, 52, 53, 54, 55, 56, 57] (by decide +kernel) (by decide +kernel)
set_option maxRecDepth 20000 in
theorem gX12_customers_X12_customer : GoodIn wsX12_customers (wsV RX12 385 RX12 yX12_customer wsX12_customer) := goodIn_app (goodIn_of _ (by decide +kernel)) ggX12_customers_X12_customer
theorem dX12_customers_0 : decode cX12_customers 0 = .ok (.iload_n 1, 1) := by decide +kernel
theorem dX12_customers_1 : decode cX12_customers 1 = .ok (.invokestatic 354, 3) := by decide +kernel
theorem dX12_customers_4 : decode cX12_customers 4 = .ok (.ifCond .eq 28, 3) := by decide +kernel
theorem dX12_customers_7 : decode cX12_customers 7 = .ok (.iload_n 2, 1) := by decide +kernel
theorem dX12_customers_8 : decode cX12_customers 8 = .ok (.i2l, 1) := by decide +kernel
theorem dX12_customers_9 : decode cX12_customers 9 = .ok (.lconst 0, 1) := by decide +kernel
theorem dX12_customers_10 : decode cX12_customers 10 = .ok (.ldc2_w 381, 3) := by decide +kernel
theorem dX12_customers_13 : decode cX12_customers 13 = .ok (.invokestatic 64, 3) := by decide +kernel
theorem dX12_customers_16 : decode cX12_customers 16 = .ok (.ifCond .eq 16, 3) := by decide +kernel
theorem dX12_customers_19 : decode cX12_customers 19 = .ok (.iload 4, 2) := by decide +kernel
theorem dX12_customers_21 : decode cX12_customers 21 = .ok (.i2l, 1) := by decide +kernel
theorem dX12_customers_22 : decode cX12_customers 22 = .ok (.lconst 0, 1) := by decide +kernel
theorem dX12_customers_23 : decode cX12_customers 23 = .ok (.ldc2_w 383, 3) := by decide +kernel
theorem dX12_customers_26 : decode cX12_customers 26 = .ok (.invokestatic 64, 3) := by decide +kernel
theorem dX12_customers_29 : decode cX12_customers 29 = .ok (.ifCond .ne 6, 3) := by decide +kernel
theorem dX12_customers_32 : decode cX12_customers 32 = .ok (.bipush (-2), 2) := by decide +kernel
theorem dX12_customers_34 : decode cX12_customers 34 = .ok (.ireturn, 1) := by decide +kernel
theorem dX12_customers_35 : decode cX12_customers 35 = .ok (.aload_n 0, 1) := by decide +kernel
theorem dX12_customers_36 : decode cX12_customers 36 = .ok (.getfield 41, 3) := by decide +kernel
theorem dX12_customers_39 : decode cX12_customers 39 = .ok (.iload_n 1, 1) := by decide +kernel
theorem dX12_customers_40 : decode cX12_customers 40 = .ok (.baload, 1) := by decide +kernel
theorem dX12_customers_41 : decode cX12_customers 41 = .ok (.ifCond .eq 16, 3) := by decide +kernel
theorem dX12_customers_44 : decode cX12_customers 44 = .ok (.aload_n 0, 1) := by decide +kernel
theorem dX12_customers_45 : decode cX12_customers 45 = .ok (.getfield 45, 3) := by decide +kernel
theorem dX12_customers_48 : decode cX12_customers 48 = .ok (.iload_n 1, 1) := by decide +kernel
theorem dX12_customers_49 : decode cX12_customers 49 = .ok (.iaload, 1) := by decide +kernel
theorem dX12_customers_50 : decode cX12_customers 50 = .ok (.iload_n 2, 1) := by decide +kernel
theorem dX12_customers_51 : decode cX12_customers 51 = .ok (.if_icmp .eq 6, 3) := by decide +kernel
theorem dX12_customers_54 : decode cX12_customers 54 = .ok (.bipush (-13), 2) := by decide +kernel
theorem dX12_customers_56 : decode cX12_customers 56 = .ok (.ireturn, 1) := by decide +kernel
theorem dX12_customers_57 : decode cX12_customers 57 = .ok (.aload_n 0, 1) := by decide +kernel
theorem dX12_customers_58 : decode cX12_customers 58 = .ok (.getfield 41, 3) := by decide +kernel
theorem dX12_customers_61 : decode cX12_customers 61 = .ok (.iload_n 1, 1) := by decide +kernel
theorem dX12_customers_62 : decode cX12_customers 62 = .ok (.baload, 1) := by decide +kernel
theorem dX12_customers_63 : decode cX12_customers 63 = .ok (.ifCond .ne 6, 3) := by decide +kernel
theorem dX12_customers_66 : decode cX12_customers 66 = .ok (.bipush (-11), 2) := by decide +kernel
theorem dX12_customers_68 : decode cX12_customers 68 = .ok (.ireturn, 1) := by decide +kernel
theorem dX12_customers_69 : decode cX12_customers 69 = .ok (.iconst 0, 1) := by decide +kernel
theorem dX12_customers_70 : decode cX12_customers 70 = .ok (.istore 5, 2) := by decide +kernel
theorem dX12_customers_72 : decode cX12_customers 72 = .ok (.iconst 0, 1) := by decide +kernel
theorem dX12_customers_73 : decode cX12_customers 73 = .ok (.istore 6, 2) := by decide +kernel
theorem dX12_customers_75 : decode cX12_customers 75 = .ok (.iload 6, 2) := by decide +kernel
theorem dX12_customers_77 : decode cX12_customers 77 = .ok (.iload 4, 2) := by decide +kernel
theorem dX12_customers_79 : decode cX12_customers 79 = .ok (.if_icmp .ge 88, 3) := by decide +kernel
theorem dX12_customers_82 : decode cX12_customers 82 = .ok (.iload_n 3, 1) := by decide +kernel
theorem dX12_customers_83 : decode cX12_customers 83 = .ok (.ifCond .lt 20, 3) := by decide +kernel
theorem dX12_customers_86 : decode cX12_customers 86 = .ok (.iload_n 3, 1) := by decide +kernel
theorem dX12_customers_87 : decode cX12_customers 87 = .ok (.aload_n 0, 1) := by decide +kernel
theorem dX12_customers_88 : decode cX12_customers 88 = .ok (.getfield 48, 3) := by decide +kernel
theorem dX12_customers_91 : decode cX12_customers 91 = .ok (.iload_n 1, 1) := by decide +kernel
theorem dX12_customers_92 : decode cX12_customers 92 = .ok (.iaload, 1) := by decide +kernel
theorem dX12_customers_93 : decode cX12_customers 93 = .ok (.iconst 3, 1) := by decide +kernel
theorem dX12_customers_94 : decode cX12_customers 94 = .ok (.iload 6, 2) := by decide +kernel
theorem dX12_customers_96 : decode cX12_customers 96 = .ok (.imul, 1) := by decide +kernel
theorem dX12_customers_97 : decode cX12_customers 97 = .ok (.isub, 1) := by decide +kernel
theorem dX12_customers_98 : decode cX12_customers 98 = .ok (.iconst 3, 1) := by decide +kernel
theorem dX12_customers_99 : decode cX12_customers 99 = .ok (.isub, 1) := by decide +kernel
theorem dX12_customers_100 : decode cX12_customers 100 = .ok (.if_icmp .le 6, 3) := by decide +kernel
theorem dX12_customers_103 : decode cX12_customers 103 = .ok (.bipush (-12), 2) := by decide +kernel
theorem dX12_customers_105 : decode cX12_customers 105 = .ok (.ireturn, 1) := by decide +kernel
theorem dX12_customers_106 : decode cX12_customers 106 = .ok (.bipush 40, 2) := by decide +kernel
theorem dX12_customers_108 : decode cX12_customers 108 = .ok (.iload_n 1, 1) := by decide +kernel
theorem dX12_customers_109 : decode cX12_customers 109 = .ok (.imul, 1) := by decide +kernel
theorem dX12_customers_110 : decode cX12_customers 110 = .ok (.iload_n 3, 1) := by decide +kernel
theorem dX12_customers_111 : decode cX12_customers 111 = .ok (.iadd, 1) := by decide +kernel
theorem dX12_customers_112 : decode cX12_customers 112 = .ok (.iconst 3, 1) := by decide +kernel
theorem dX12_customers_113 : decode cX12_customers 113 = .ok (.iload 6, 2) := by decide +kernel
theorem dX12_customers_115 : decode cX12_customers 115 = .ok (.imul, 1) := by decide +kernel
theorem dX12_customers_116 : decode cX12_customers 116 = .ok (.iadd, 1) := by decide +kernel
theorem dX12_customers_117 : decode cX12_customers 117 = .ok (.istore 7, 2) := by decide +kernel
theorem dX12_customers_119 : decode cX12_customers 119 = .ok (.iload 5, 2) := by decide +kernel
theorem dX12_customers_121 : decode cX12_customers 121 = .ok (.aload_n 0, 1) := by decide +kernel
theorem dX12_customers_122 : decode cX12_customers 122 = .ok (.aload_n 0, 1) := by decide +kernel
theorem dX12_customers_123 : decode cX12_customers 123 = .ok (.getfield 51, 3) := by decide +kernel
theorem dX12_customers_126 : decode cX12_customers 126 = .ok (.iload 7, 2) := by decide +kernel
theorem dX12_customers_128 : decode cX12_customers 128 = .ok (.iaload, 1) := by decide +kernel
theorem dX12_customers_129 : decode cX12_customers 129 = .ok (.aload_n 0, 1) := by decide +kernel
theorem dX12_customers_130 : decode cX12_customers 130 = .ok (.getfield 51, 3) := by decide +kernel
theorem dX12_customers_133 : decode cX12_customers 133 = .ok (.iload 7, 2) := by decide +kernel
theorem dX12_customers_135 : decode cX12_customers 135 = .ok (.iconst 1, 1) := by decide +kernel
theorem dX12_customers_136 : decode cX12_customers 136 = .ok (.iadd, 1) := by decide +kernel
theorem dX12_customers_137 : decode cX12_customers 137 = .ok (.iaload, 1) := by decide +kernel
theorem dX12_customers_138 : decode cX12_customers 138 = .ok (.aload_n 0, 1) := by decide +kernel
theorem dX12_customers_139 : decode cX12_customers 139 = .ok (.getfield 51, 3) := by decide +kernel
theorem dX12_customers_142 : decode cX12_customers 142 = .ok (.iload 7, 2) := by decide +kernel
theorem dX12_customers_144 : decode cX12_customers 144 = .ok (.iconst 2, 1) := by decide +kernel
theorem dX12_customers_145 : decode cX12_customers 145 = .ok (.iadd, 1) := by decide +kernel
theorem dX12_customers_146 : decode cX12_customers 146 = .ok (.iaload, 1) := by decide +kernel
theorem dX12_customers_147 : decode cX12_customers 147 = .ok (.invokevirtual 385, 3) := by decide +kernel
theorem dX12_customers_150 : decode cX12_customers 150 = .ok (.ifCond .lt 7, 3) := by decide +kernel
theorem dX12_customers_153 : decode cX12_customers 153 = .ok (.iconst 1, 1) := by decide +kernel
theorem dX12_customers_154 : decode cX12_customers 154 = .ok (.goto 4, 3) := by decide +kernel
theorem dX12_customers_157 : decode cX12_customers 157 = .ok (.iconst 0, 1) := by decide +kernel
theorem dX12_customers_158 : decode cX12_customers 158 = .ok (.iadd, 1) := by decide +kernel
theorem dX12_customers_159 : decode cX12_customers 159 = .ok (.istore 5, 2) := by decide +kernel
theorem dX12_customers_161 : decode cX12_customers 161 = .ok (.iinc 6 1, 3) := by decide +kernel
theorem dX12_customers_164 : decode cX12_customers 164 = .ok (.goto (-89), 3) := by decide +kernel
theorem dX12_customers_167 : decode cX12_customers 167 = .ok (.iload 5, 2) := by decide +kernel
theorem dX12_customers_169 : decode cX12_customers 169 = .ok (.ireturn, 1) := by decide +kernel
theorem dX12_over_0 : decode cX12_over 0 = .ok (.iload_n 0, 1) := by decide +kernel
theorem dX12_over_1 : decode cX12_over 1 = .ok (.ifCond .ne 7, 3) := by decide +kernel
theorem dX12_over_4 : decode cX12_over 4 = .ok (.iconst (-1), 1) := by decide +kernel
theorem dX12_over_5 : decode cX12_over 5 = .ok (.goto 22, 3) := by decide +kernel
theorem dX12_over_8 : decode cX12_over 8 = .ok (.iload_n 0, 1) := by decide +kernel
theorem dX12_over_9 : decode cX12_over 9 = .ok (.iconst 3, 1) := by decide +kernel
theorem dX12_over_10 : decode cX12_over 10 = .ok (.if_icmp .ne 7, 3) := by decide +kernel
theorem dX12_over_13 : decode cX12_over 13 = .ok (.iconst 1, 1) := by decide +kernel
theorem dX12_over_14 : decode cX12_over 14 = .ok (.goto 13, 3) := by decide +kernel
theorem dX12_over_17 : decode cX12_over 17 = .ok (.iload_n 0, 1) := by decide +kernel
theorem dX12_over_18 : decode cX12_over 18 = .ok (.iconst 4, 1) := by decide +kernel
theorem dX12_over_19 : decode cX12_over 19 = .ok (.if_icmp .ne 7, 3) := by decide +kernel
theorem dX12_over_22 : decode cX12_over 22 = .ok (.iconst 2, 1) := by decide +kernel
theorem dX12_over_23 : decode cX12_over 23 = .ok (.goto 4, 3) := by decide +kernel
theorem dX12_over_26 : decode cX12_over 26 = .ok (.iconst 0, 1) := by decide +kernel
theorem dX12_over_27 : decode cX12_over 27 = .ok (.ireturn, 1) := by decide +kernel
set_option maxRecDepth 20000 in
theorem ggX12_taken_X12_in : GoodIn wsX12_taken wsX12_in := goodIn_r _ [7] (by decide +kernel) (by decide +kernel)
set_option maxRecDepth 20000 in
theorem gX12_taken_X12_in : GoodIn wsX12_taken (va_wsS RX12 64 yX12_in wsX12_in) := goodIn_app (goodIn_of _ (by decide +kernel)) ggX12_taken_X12_in
set_option maxRecDepth 20000 in
theorem ggX12_taken_X12_isOne : GoodIn wsX12_taken wsX12_isOne := goodIn_r _ [11, 12, 4, 5, 6, 7, 16, 17, 18, 19, 20, 21, 22, 23, 24, 25, 26, 27, 28, 29, 30, 31, 32, 33, 34, 35, 36, 37, 38, 39, 40, 41, 42, 43, 44, 45, 46, 47, 48, 49] (by decide +kernel) (by decide +kernel)
set_option maxRecDepth 20000 in
theorem gX12_taken_X12_isOne : GoodIn wsX12_taken (wsV RX12 70 RX12 yX12_isOne wsX12_isOne) := goodIn_app (goodIn_of _ (by decide +kernel)) ggX12_taken_X12_isOne
set_option maxRecDepth 20000 in
theorem ggX12_taken_X12_over : GoodIn wsX12_taken wsX12_over := goodIn_r _ [15] (by decide +kernel) (by decide +kernel)
set_option maxRecDepth 20000 in
theorem gX12_taken_X12_over : GoodIn wsX12_taken (va_wsS RX12 388 yX12_over wsX12_over) := goodIn_app (goodIn_of _ (by decide +kernel)) ggX12_taken_X12_over
theorem dX12_taken_0 : decode cX12_taken 0 = .ok (.iload_n 2, 1) := by decide +kernel
theorem dX12_taken_1 : decode cX12_taken 1 = .ok (.i2l, 1) := by decide +kernel
theorem dX12_taken_2 : decode cX12_taken 2 = .ok (.lconst 0, 1) := by decide +kernel
theorem dX12_taken_3 : decode cX12_taken 3 = .ok (.ldc2_w 92, 3) := by decide +kernel
theorem dX12_taken_6 : decode cX12_taken 6 = .ok (.invokestatic 64, 3) := by decide +kernel
theorem dX12_taken_9 : decode cX12_taken 9 = .ok (.ifCond .ne 6, 3) := by decide +kernel
theorem dX12_taken_12 : decode cX12_taken 12 = .ok (.bipush (-2), 2) := by decide +kernel
theorem dX12_taken_14 : decode cX12_taken 14 = .ok (.ireturn, 1) := by decide +kernel
theorem dX12_taken_15 : decode cX12_taken 15 = .ok (.aload_n 0, 1) := by decide +kernel
theorem dX12_taken_16 : decode cX12_taken 16 = .ok (.iload_n 1, 1) := by decide +kernel
theorem dX12_taken_17 : decode cX12_taken 17 = .ok (.invokevirtual 70, 3) := by decide +kernel
theorem dX12_taken_20 : decode cX12_taken 20 = .ok (.ifCond .ne 6, 3) := by decide +kernel
theorem dX12_taken_23 : decode cX12_taken 23 = .ok (.bipush (-11), 2) := by decide +kernel
theorem dX12_taken_25 : decode cX12_taken 25 = .ok (.ireturn, 1) := by decide +kernel
theorem dX12_taken_26 : decode cX12_taken 26 = .ok (.aload_n 0, 1) := by decide +kernel
theorem dX12_taken_27 : decode cX12_taken 27 = .ok (.getfield 26, 3) := by decide +kernel
theorem dX12_taken_30 : decode cX12_taken 30 = .ok (.iload_n 1, 1) := by decide +kernel
theorem dX12_taken_31 : decode cX12_taken 31 = .ok (.iaload, 1) := by decide +kernel
theorem dX12_taken_32 : decode cX12_taken 32 = .ok (.istore_n 3, 1) := by decide +kernel
theorem dX12_taken_33 : decode cX12_taken 33 = .ok (.iload_n 3, 1) := by decide +kernel
theorem dX12_taken_34 : decode cX12_taken 34 = .ok (.iconst (-1), 1) := by decide +kernel
theorem dX12_taken_35 : decode cX12_taken 35 = .ok (.if_icmp .eq 16, 3) := by decide +kernel
theorem dX12_taken_38 : decode cX12_taken 38 = .ok (.iload_n 3, 1) := by decide +kernel
theorem dX12_taken_39 : decode cX12_taken 39 = .ok (.iload_n 2, 1) := by decide +kernel
theorem dX12_taken_40 : decode cX12_taken 40 = .ok (.if_icmp .eq 11, 3) := by decide +kernel
theorem dX12_taken_43 : decode cX12_taken 43 = .ok (.iload_n 3, 1) := by decide +kernel
theorem dX12_taken_44 : decode cX12_taken 44 = .ok (.invokestatic 388, 3) := by decide +kernel
theorem dX12_taken_47 : decode cX12_taken 47 = .ok (.istore_n 3, 1) := by decide +kernel
theorem dX12_taken_48 : decode cX12_taken 48 = .ok (.goto (-15), 3) := by decide +kernel
theorem dX12_taken_51 : decode cX12_taken 51 = .ok (.iload_n 3, 1) := by decide +kernel
theorem dX12_taken_52 : decode cX12_taken 52 = .ok (.iload_n 2, 1) := by decide +kernel
theorem dX12_taken_53 : decode cX12_taken 53 = .ok (.if_icmp .ne 14, 3) := by decide +kernel
theorem dX12_taken_56 : decode cX12_taken 56 = .ok (.aload_n 0, 1) := by decide +kernel
theorem dX12_taken_57 : decode cX12_taken 57 = .ok (.getfield 29, 3) := by decide +kernel
theorem dX12_taken_60 : decode cX12_taken 60 = .ok (.iconst 4, 1) := by decide +kernel
theorem dX12_taken_61 : decode cX12_taken 61 = .ok (.iload_n 1, 1) := by decide +kernel
theorem dX12_taken_62 : decode cX12_taken 62 = .ok (.imul, 1) := by decide +kernel
theorem dX12_taken_63 : decode cX12_taken 63 = .ok (.iaload, 1) := by decide +kernel
theorem dX12_taken_64 : decode cX12_taken 64 = .ok (.goto 5, 3) := by decide +kernel
theorem dX12_taken_67 : decode cX12_taken 67 = .ok (.bipush (-13), 2) := by decide +kernel
theorem dX12_taken_69 : decode cX12_taken 69 = .ok (.ireturn, 1) := by decide +kernel
theorem dJ11_isValidCodePoint_9a6ad_0 : decode cJ11_isValidCodePoint_9a6ad 0 = .ok (.iload_n 0, 1) := by decide +kernel
theorem dJ11_isValidCodePoint_9a6ad_1 : decode cJ11_isValidCodePoint_9a6ad 1 = .ok (.bipush 16, 2) := by decide +kernel
theorem dJ11_isValidCodePoint_9a6ad_3 : decode cJ11_isValidCodePoint_9a6ad 3 = .ok (.iushr, 1) := by decide +kernel
theorem dJ11_isValidCodePoint_9a6ad_4 : decode cJ11_isValidCodePoint_9a6ad 4 = .ok (.istore_n 1, 1) := by decide +kernel
theorem dJ11_isValidCodePoint_9a6ad_5 : decode cJ11_isValidCodePoint_9a6ad 5 = .ok (.iload_n 1, 1) := by decide +kernel
theorem dJ11_isValidCodePoint_9a6ad_6 : decode cJ11_isValidCodePoint_9a6ad 6 = .ok (.bipush 17, 2) := by decide +kernel
theorem dJ11_isValidCodePoint_9a6ad_8 : decode cJ11_isValidCodePoint_9a6ad 8 = .ok (.if_icmp .ge 7, 3) := by decide +kernel
theorem dJ11_isValidCodePoint_9a6ad_11 : decode cJ11_isValidCodePoint_9a6ad 11 = .ok (.iconst 1, 1) := by decide +kernel
theorem dJ11_isValidCodePoint_9a6ad_12 : decode cJ11_isValidCodePoint_9a6ad 12 = .ok (.goto 4, 3) := by decide +kernel
theorem dJ11_isValidCodePoint_9a6ad_15 : decode cJ11_isValidCodePoint_9a6ad 15 = .ok (.iconst 0, 1) := by decide +kernel
theorem dJ11_isValidCodePoint_9a6ad_16 : decode cJ11_isValidCodePoint_9a6ad 16 = .ok (.ireturn, 1) := by decide +kernel
theorem dJ11_highSurrogate_5068e_0 : decode cJ11_highSurrogate_5068e 0 = .ok (.iload_n 0, 1) := by decide +kernel
theorem dJ11_highSurrogate_5068e_1 : decode cJ11_highSurrogate_5068e 1 = .ok (.bipush 10, 2) := by decide +kernel
theorem dJ11_highSurrogate_5068e_3 : decode cJ11_highSurrogate_5068e 3 = .ok (.iushr, 1) := by decide +kernel
theorem dJ11_highSurrogate_5068e_4 : decode cJ11_highSurrogate_5068e 4 = .ok (.ldc 110, 2) := by decide +kernel
theorem dJ11_highSurrogate_5068e_6 : decode cJ11_highSurrogate_5068e 6 = .ok (.iadd, 1) := by decide +kernel
theorem dJ11_highSurrogate_5068e_7 : decode cJ11_highSurrogate_5068e 7 = .ok (.i2c, 1) := by decide +kernel
theorem dJ11_highSurrogate_5068e_8 : decode cJ11_highSurrogate_5068e 8 = .ok (.ireturn, 1) := by decide +kernel
theorem dJ11_lowSurrogate_5068e_0 : decode cJ11_lowSurrogate_5068e 0 = .ok (.iload_n 0, 1) := by decide +kernel
theorem dJ11_lowSurrogate_5068e_1 : decode cJ11_lowSurrogate_5068e 1 = .ok (.sipush 1023, 3) := by decide +kernel
theorem dJ11_lowSurrogate_5068e_4 : decode cJ11_lowSurrogate_5068e 4 = .ok (.iand, 1) := by decide +kernel
theorem dJ11_lowSurrogate_5068e_5 : decode cJ11_lowSurrogate_5068e 5 = .ok (.ldc 76, 2) := by decide +kernel
theorem dJ11_lowSurrogate_5068e_7 : decode cJ11_lowSurrogate_5068e 7 = .ok (.iadd, 1) := by decide +kernel
theorem dJ11_lowSurrogate_5068e_8 : decode cJ11_lowSurrogate_5068e 8 = .ok (.i2c, 1) := by decide +kernel
theorem dJ11_lowSurrogate_5068e_9 : decode cJ11_lowSurrogate_5068e 9 = .ok (.ireturn, 1) := by decide +kernel
theorem dJ6_bitCount_0f7a4_0 : decode cJ6_bitCount_0f7a4 0 = .ok (.iload_n 0, 1) := by decide +kernel
theorem dJ6_bitCount_0f7a4_1 : decode cJ6_bitCount_0f7a4 1 = .ok (.iload_n 0, 1) := by decide +kernel
theorem dJ6_bitCount_0f7a4_2 : decode cJ6_bitCount_0f7a4 2 = .ok (.iconst 1, 1) := by decide +kernel
theorem dJ6_bitCount_0f7a4_3 : decode cJ6_bitCount_0f7a4 3 = .ok (.iushr, 1) := by decide +kernel
theorem dJ6_bitCount_0f7a4_4 : decode cJ6_bitCount_0f7a4 4 = .ok (.ldc_w 265, 3) := by decide +kernel
theorem dJ6_bitCount_0f7a4_7 : decode cJ6_bitCount_0f7a4 7 = .ok (.iand, 1) := by decide +kernel
theorem dJ6_bitCount_0f7a4_8 : decode cJ6_bitCount_0f7a4 8 = .ok (.isub, 1) := by decide +kernel
theorem dJ6_bitCount_0f7a4_9 : decode cJ6_bitCount_0f7a4 9 = .ok (.istore_n 0, 1) := by decide +kernel
theorem dJ6_bitCount_0f7a4_10 : decode cJ6_bitCount_0f7a4 10 = .ok (.iload_n 0, 1) := by decide +kernel
theorem dJ6_bitCount_0f7a4_11 : decode cJ6_bitCount_0f7a4 11 = .ok (.ldc_w 266, 3) := by decide +kernel
theorem dJ6_bitCount_0f7a4_14 : decode cJ6_bitCount_0f7a4 14 = .ok (.iand, 1) := by decide +kernel
theorem dJ6_bitCount_0f7a4_15 : decode cJ6_bitCount_0f7a4 15 = .ok (.iload_n 0, 1) := by decide +kernel
theorem dJ6_bitCount_0f7a4_16 : decode cJ6_bitCount_0f7a4 16 = .ok (.iconst 2, 1) := by decide +kernel
theorem dJ6_bitCount_0f7a4_17 : decode cJ6_bitCount_0f7a4 17 = .ok (.iushr, 1) := by decide +kernel
theorem dJ6_bitCount_0f7a4_18 : decode cJ6_bitCount_0f7a4 18 = .ok (.ldc_w 266, 3) := by decide +kernel
theorem dJ6_bitCount_0f7a4_21 : decode cJ6_bitCount_0f7a4 21 = .ok (.iand, 1) := by decide +kernel
theorem dJ6_bitCount_0f7a4_22 : decode cJ6_bitCount_0f7a4 22 = .ok (.iadd, 1) := by decide +kernel
theorem dJ6_bitCount_0f7a4_23 : decode cJ6_bitCount_0f7a4 23 = .ok (.istore_n 0, 1) := by decide +kernel
theorem dJ6_bitCount_0f7a4_24 : decode cJ6_bitCount_0f7a4 24 = .ok (.iload_n 0, 1) := by decide +kernel
theorem dJ6_bitCount_0f7a4_25 : decode cJ6_bitCount_0f7a4 25 = .ok (.iload_n 0, 1) := by decide +kernel
theorem dJ6_bitCount_0f7a4_26 : decode cJ6_bitCount_0f7a4 26 = .ok (.iconst 4, 1) := by decide +kernel
theorem dJ6_bitCount_0f7a4_27 : decode cJ6_bitCount_0f7a4 27 = .ok (.iushr, 1) := by decide +kernel
theorem dJ6_bitCount_0f7a4_28 : decode cJ6_bitCount_0f7a4 28 = .ok (.iadd, 1) := by decide +kernel
theorem dJ6_bitCount_0f7a4_29 : decode cJ6_bitCount_0f7a4 29 = .ok (.ldc_w 267, 3) := by decide +kernel
theorem dJ6_bitCount_0f7a4_32 : decode cJ6_bitCount_0f7a4 32 = .ok (.iand, 1) := by decide +kernel
theorem dJ6_bitCount_0f7a4_33 : decode cJ6_bitCount_0f7a4 33 = .ok (.istore_n 0, 1) := by decide +kernel
theorem dJ6_bitCount_0f7a4_34 : decode cJ6_bitCount_0f7a4 34 = .ok (.iload_n 0, 1) := by decide +kernel
theorem dJ6_bitCount_0f7a4_35 : decode cJ6_bitCount_0f7a4 35 = .ok (.iload_n 0, 1) := by decide +kernel
theorem dJ6_bitCount_0f7a4_36 : decode cJ6_bitCount_0f7a4 36 = .ok (.bipush 8, 2) := by decide +kernel
theorem dJ6_bitCount_0f7a4_38 : decode cJ6_bitCount_0f7a4 38 = .ok (.iushr, 1) := by decide +kernel
theorem dJ6_bitCount_0f7a4_39 : decode cJ6_bitCount_0f7a4 39 = .ok (.iadd, 1) := by decide +kernel
theorem dJ6_bitCount_0f7a4_40 : decode cJ6_bitCount_0f7a4 40 = .ok (.istore_n 0, 1) := by decide +kernel
theorem dJ6_bitCount_0f7a4_41 : decode cJ6_bitCount_0f7a4 41 = .ok (.iload_n 0, 1) := by decide +kernel
theorem dJ6_bitCount_0f7a4_42 : decode cJ6_bitCount_0f7a4 42 = .ok (.iload_n 0, 1) := by decide +kernel
theorem dJ6_bitCount_0f7a4_43 : decode cJ6_bitCount_0f7a4 43 = .ok (.bipush 16, 2) := by decide +kernel
theorem dJ6_bitCount_0f7a4_45 : decode cJ6_bitCount_0f7a4 45 = .ok (.iushr, 1) := by decide +kernel
theorem dJ6_bitCount_0f7a4_46 : decode cJ6_bitCount_0f7a4 46 = .ok (.iadd, 1) := by decide +kernel
theorem dJ6_bitCount_0f7a4_47 : decode cJ6_bitCount_0f7a4 47 = .ok (.istore_n 0, 1) := by decide +kernel
theorem dJ6_bitCount_0f7a4_48 : decode cJ6_bitCount_0f7a4 48 = .ok (.iload_n 0, 1) := by decide +kernel
theorem dJ6_bitCount_0f7a4_49 : decode cJ6_bitCount_0f7a4 49 = .ok (.bipush 63, 2) := by decide +kernel
theorem dJ6_bitCount_0f7a4_51 : decode cJ6_bitCount_0f7a4 51 = .ok (.iand, 1) := by decide +kernel
theorem dJ6_bitCount_0f7a4_52 : decode cJ6_bitCount_0f7a4 52 = .ok (.ireturn, 1) := by decide +kernel
theorem dJ9_max_7cf53_0 : decode cJ9_max_7cf53 0 = .ok (.iload_n 0, 1) := by decide +kernel
theorem dJ9_max_7cf53_1 : decode cJ9_max_7cf53 1 = .ok (.iload_n 1, 1) := by decide +kernel
theorem dJ9_max_7cf53_2 : decode cJ9_max_7cf53 2 = .ok (.if_icmp .lt 7, 3) := by decide +kernel
theorem dJ9_max_7cf53_5 : decode cJ9_max_7cf53 5 = .ok (.iload_n 0, 1) := by decide +kernel
theorem dJ9_max_7cf53_6 : decode cJ9_max_7cf53 6 = .ok (.goto 4, 3) := by decide +kernel
theorem dJ9_max_7cf53_9 : decode cJ9_max_7cf53 9 = .ok (.iload_n 1, 1) := by decide +kernel
theorem dJ9_max_7cf53_10 : decode cJ9_max_7cf53 10 = .ok (.ireturn, 1) := by decide +kernel
theorem dJ9_min_7cf53_0 : decode cJ9_min_7cf53 0 = .ok (.iload_n 0, 1) := by decide +kernel
theorem dJ9_min_7cf53_1 : decode cJ9_min_7cf53 1 = .ok (.iload_n 1, 1) := by decide +kernel
theorem dJ9_min_7cf53_2 : decode cJ9_min_7cf53 2 = .ok (.if_icmp .gt 7, 3) := by decide +kernel
theorem dJ9_min_7cf53_5 : decode cJ9_min_7cf53 5 = .ok (.iload_n 0, 1) := by decide +kernel
theorem dJ9_min_7cf53_6 : decode cJ9_min_7cf53 6 = .ok (.goto 4, 3) := by decide +kernel
theorem dJ9_min_7cf53_9 : decode cJ9_min_7cf53 9 = .ok (.iload_n 1, 1) := by decide +kernel
theorem dJ9_min_7cf53_10 : decode cJ9_min_7cf53 10 = .ok (.ireturn, 1) := by decide +kernel
set_option maxRecDepth 20000 in
theorem ggJ0_length_8abf5_J0_coder_7d493 : GoodIn wsJ0_length_8abf5 wsJ0_coder_7d493 := goodIn_r _ [6, 7, 8] (by decide +kernel) (by decide +kernel)
set_option maxRecDepth 20000 in
theorem gJ0_length_8abf5_J0_coder_7d493 : GoodIn wsJ0_length_8abf5 (wsV RJ0 335 RJ0 yJ0_coder_7d493 wsJ0_coder_7d493) := goodIn_app (goodIn_of _ (by decide +kernel)) ggJ0_length_8abf5_J0_coder_7d493
theorem dJ0_length_8abf5_0 : decode cJ0_length_8abf5 0 = .ok (.aload_n 0, 1) := by decide +kernel
theorem dJ0_length_8abf5_1 : decode cJ0_length_8abf5 1 = .ok (.getfield 9, 3) := by decide +kernel
theorem dJ0_length_8abf5_4 : decode cJ0_length_8abf5 4 = .ok (.arraylength, 1) := by decide +kernel
theorem dJ0_length_8abf5_5 : decode cJ0_length_8abf5 5 = .ok (.aload_n 0, 1) := by decide +kernel
theorem dJ0_length_8abf5_6 : decode cJ0_length_8abf5 6 = .ok (.invokevirtual 335, 3) := by decide +kernel
theorem dJ0_length_8abf5_9 : decode cJ0_length_8abf5 9 = .ok (.ishr, 1) := by decide +kernel
theorem dJ0_length_8abf5_10 : decode cJ0_length_8abf5 10 = .ok (.ireturn, 1) := by decide +kernel
set_option maxRecDepth 20000 in
theorem ggJ0_charAt_5068e_J0_isLatin1_aae02 : GoodIn wsJ0_charAt_5068e wsJ0_isLatin1_aae02 := goodIn_r _ [6, 7, 8] (by decide +kernel) (by decide +kernel)
set_option maxRecDepth 20000 in
theorem gJ0_charAt_5068e_J0_isLatin1_aae02 : GoodIn wsJ0_charAt_5068e (wsV RJ0 492 RJ0 yJ0_isLatin1_aae02 wsJ0_isLatin1_aae02) := goodIn_app (goodIn_of _ (by decide +kernel)) ggJ0_charAt_5068e_J0_isLatin1_aae02
set_option maxRecDepth 20000 in
theorem ggJ0_charAt_5068e_J1_charAt_3b067 : GoodIn wsJ0_charAt_5068e wsJ1_charAt_3b067 := goodIn_r _ [12, 13, 14, 5, 15, 16, 17, 18, 19, 20] (by decide +kernel) (by decide +kernel)
set_option maxRecDepth 20000 in
theorem gJ0_charAt_5068e_J1_charAt_3b067 : GoodIn wsJ0_charAt_5068e (va_wsS RJ0 495 yJ1_charAt_3b067 wsJ1_charAt_3b067) := goodIn_app (goodIn_of _ (by decide +kernel)) ggJ0_charAt_5068e_J1_charAt_3b067
set_option maxRecDepth 20000 in
theorem ggJ0_charAt_5068e_J2_charAt_3b067 : GoodIn wsJ0_charAt_5068e wsJ2_charAt_3b067 := goodIn_r _ [24, 25, 26, 23, 27, 28, 29, 30, 31, 14, 5, 15, 16, 17, 18, 19, 20, 32, 33, 34, 35, 36, 37] (by decide +kernel) (by decide +kernel)
set_option maxRecDepth 20000 in
theorem gJ0_charAt_5068e_J2_charAt_3b067 : GoodIn wsJ0_charAt_5068e (va_wsS RJ0 498 yJ2_charAt_3b067 wsJ2_charAt_3b067) := goodIn_app (goodIn_of _ (by decide +kernel)) ggJ0_charAt_5068e_J2_charAt_3b067
theorem dJ0_charAt_5068e_0 : decode cJ0_charAt_5068e 0 = .ok (.aload_n 0, 1) := by decide +kernel
theorem dJ0_charAt_5068e_1 : decode cJ0_charAt_5068e 1 = .ok (.invokevirtual 492, 3) := by decide +kernel
theorem dJ0_charAt_5068e_4 : decode cJ0_charAt_5068e 4 = .ok (.ifCond .eq 12, 3) := by decide +kernel
theorem dJ0_charAt_5068e_7 : decode cJ0_charAt_5068e 7 = .ok (.aload_n 0, 1) := by decide +kernel
theorem dJ0_charAt_5068e_8 : decode cJ0_charAt_5068e 8 = .ok (.getfield 9, 3) := by decide +kernel
theorem dJ0_charAt_5068e_11 : decode cJ0_charAt_5068e 11 = .ok (.iload_n 1, 1) := by decide +kernel
theorem dJ0_charAt_5068e_12 : decode cJ0_charAt_5068e 12 = .ok (.invokestatic 495, 3) := by decide +kernel
theorem dJ0_charAt_5068e_15 : decode cJ0_charAt_5068e 15 = .ok (.ireturn, 1) := by decide +kernel
theorem dJ0_charAt_5068e_16 : decode cJ0_charAt_5068e 16 = .ok (.aload_n 0, 1) := by decide +kernel
theorem dJ0_charAt_5068e_17 : decode cJ0_charAt_5068e 17 = .ok (.getfield 9, 3) := by decide +kernel
theorem dJ0_charAt_5068e_20 : decode cJ0_charAt_5068e 20 = .ok (.iload_n 1, 1) := by decide +kernel
theorem dJ0_charAt_5068e_21 : decode cJ0_charAt_5068e 21 = .ok (.invokestatic 498, 3) := by decide +kernel
theorem dJ0_charAt_5068e_24 : decode cJ0_charAt_5068e 24 = .ok (.ireturn, 1) := by decide +kernel
set_option maxRecDepth 20000 in
theorem ggJ0_indexOf_0f7a4_J0_indexOf_7cf53 : GoodIn wsJ0_indexOf_0f7a4 wsJ0_indexOf_7cf53 := goodIn_r _ [5, 6, 7, 8, 9, 4, 10, 11, 12, 13, 14, 15, 16, 17, 18, 19, 20, 21, 22, 23, 24, 25, 26, 27, 28, 29, 30, 31, 32, 33, 34, 35, 36, 37, 38, 39, 40, 41, 42, 43, 44, 45, 46, 47, 48, 49, 50, 51, 52, 53, 54, 55, 56, 57, 58, 59, 60, 61, 62, 63, 64, 65, 66, 67, 68, 69, 70, 71, 72, 73, 74, 75, 76, 77, 78, 79, 80, 81, 82, 83, 84, 85] (by decide +kernel) (by decide +kernel)
set_option maxRecDepth 20000 in
theorem gJ0_indexOf_0f7a4_J0_indexOf_7cf53 : GoodIn wsJ0_indexOf_0f7a4 (wsV RJ0 633 RJ0 yJ0_indexOf_7cf53 wsJ0_indexOf_7cf53) := goodIn_app (goodIn_of _ (by decide +kernel)) ggJ0_indexOf_0f7a4_J0_indexOf_7cf53
theorem dJ0_indexOf_0f7a4_0 : decode cJ0_indexOf_0f7a4 0 = .ok (.aload_n 0, 1) := by decide +kernel
theorem dJ0_indexOf_0f7a4_1 : decode cJ0_indexOf_0f7a4 1 = .ok (.iload_n 1, 1) := by decide +kernel
theorem dJ0_indexOf_0f7a4_2 : decode cJ0_indexOf_0f7a4 2 = .ok (.iconst 0, 1) := by decide +kernel
theorem dJ0_indexOf_0f7a4_3 : decode cJ0_indexOf_0f7a4 3 = .ok (.invokevirtual 633, 3) := by decide +kernel
theorem dJ0_indexOf_0f7a4_6 : decode cJ0_indexOf_0f7a4 6 = .ok (.ireturn, 1) := by decide +kernel
set_option maxRecDepth 20000 in
theorem ggJ0_indexOf_7cf53_J0_isLatin1_aae02 : GoodIn wsJ0_indexOf_7cf53 wsJ0_isLatin1_aae02 := goodIn_r _ [6, 7, 8] (by decide +kernel) (by decide +kernel)
set_option maxRecDepth 20000 in
theorem gJ0_indexOf_7cf53_J0_isLatin1_aae02 : GoodIn wsJ0_indexOf_7cf53 (wsV RJ0 492 RJ0 yJ0_isLatin1_aae02 wsJ0_isLatin1_aae02) := goodIn_app (goodIn_of _ (by decide +kernel)) ggJ0_indexOf_7cf53_J0_isLatin1_aae02
set_option maxRecDepth 20000 in
theorem ggJ0_indexOf_7cf53_J0_length_8abf5 : GoodIn wsJ0_indexOf_7cf53 wsJ0_length_8abf5 := goodIn_r _ [12, 1, 13, 14, 15, 5, 16, 7, 8] (by decide +kernel) (by decide +kernel)
set_option maxRecDepth 20000 in
theorem gJ0_indexOf_7cf53_J0_length_8abf5 : GoodIn wsJ0_indexOf_7cf53 (wsV RJ0 505 RJ0 yJ0_length_8abf5 wsJ0_length_8abf5) := goodIn_app (goodIn_of _ (by decide +kernel)) ggJ0_indexOf_7cf53_J0_length_8abf5
set_option maxRecDepth 20000 in
theorem ggJ0_indexOf_7cf53_J1_indexOf_4cfef : GoodIn wsJ0_indexOf_7cf53 wsJ1_indexOf_4cfef := goodIn_r _ [20, 21, 22, 23, 24, 25, 26, 27, 28, 29, 19, 30, 31, 32, 33] (by decide +kernel) (by decide +kernel)
set_option maxRecDepth 20000 in
theorem gJ0_indexOf_7cf53_J1_indexOf_4cfef : GoodIn wsJ0_indexOf_7cf53 (va_wsS RJ0 637 yJ1_indexOf_4cfef wsJ1_indexOf_4cfef) := goodIn_app (goodIn_of _ (by decide +kernel)) ggJ0_indexOf_7cf53_J1_indexOf_4cfef
set_option maxRecDepth 20000 in
theorem ggJ0_indexOf_7cf53_J2_indexOf_4cfef : GoodIn wsJ0_indexOf_7cf53 wsJ2_indexOf_4cfef := goodIn_r _ [37, 38, 22, 23, 24, 39, 26, 27, 40, 41, 42, 36, 43, 44, 45, 46, 47, 48, 49, 50, 51, 5, 52, 53, 54, 55, 56, 57, 58, 59, 60, 61, 62, 63, 64, 65, 66, 67, 68, 69, 70, 71, 72, 73, 74, 75, 76, 77, 78, 79, 80, 81] (by decide +kernel) (by decide +kernel)
set_option maxRecDepth 20000 in
theorem gJ0_indexOf_7cf53_J2_indexOf_4cfef : GoodIn wsJ0_indexOf_7cf53 (va_wsS RJ0 640 yJ2_indexOf_4cfef wsJ2_indexOf_4cfef) := goodIn_app (goodIn_of _ (by decide +kernel)) ggJ0_indexOf_7cf53_J2_indexOf_4cfef
theorem dJ0_indexOf_7cf53_0 : decode cJ0_indexOf_7cf53 0 = .ok (.aload_n 0, 1) := by decide +kernel
theorem dJ0_indexOf_7cf53_1 : decode cJ0_indexOf_7cf53 1 = .ok (.invokevirtual 492, 3) := by decide +kernel
theorem dJ0_indexOf_7cf53_4 : decode cJ0_indexOf_7cf53 4 = .ok (.ifCond .eq 19, 3) := by decide +kernel
theorem dJ0_indexOf_7cf53_7 : decode cJ0_indexOf_7cf53 7 = .ok (.aload_n 0, 1) := by decide +kernel
theorem dJ0_indexOf_7cf53_8 : decode cJ0_indexOf_7cf53 8 = .ok (.getfield 9, 3) := by decide +kernel
theorem dJ0_indexOf_7cf53_11 : decode cJ0_indexOf_7cf53 11 = .ok (.iload_n 1, 1) := by decide +kernel
theorem dJ0_indexOf_7cf53_12 : decode cJ0_indexOf_7cf53 12 = .ok (.iload_n 2, 1) := by decide +kernel
theorem dJ0_indexOf_7cf53_13 : decode cJ0_indexOf_7cf53 13 = .ok (.aload_n 0, 1) := by decide +kernel
theorem dJ0_indexOf_7cf53_14 : decode cJ0_indexOf_7cf53 14 = .ok (.invokevirtual 505, 3) := by decide +kernel
theorem dJ0_indexOf_7cf53_17 : decode cJ0_indexOf_7cf53 17 = .ok (.invokestatic 637, 3) := by decide +kernel
theorem dJ0_indexOf_7cf53_20 : decode cJ0_indexOf_7cf53 20 = .ok (.goto 16, 3) := by decide +kernel
theorem dJ0_indexOf_7cf53_23 : decode cJ0_indexOf_7cf53 23 = .ok (.aload_n 0, 1) := by decide +kernel
theorem dJ0_indexOf_7cf53_24 : decode cJ0_indexOf_7cf53 24 = .ok (.getfield 9, 3) := by decide +kernel
theorem dJ0_indexOf_7cf53_27 : decode cJ0_indexOf_7cf53 27 = .ok (.iload_n 1, 1) := by decide +kernel
theorem dJ0_indexOf_7cf53_28 : decode cJ0_indexOf_7cf53 28 = .ok (.iload_n 2, 1) := by decide +kernel
theorem dJ0_indexOf_7cf53_29 : decode cJ0_indexOf_7cf53 29 = .ok (.aload_n 0, 1) := by decide +kernel
theorem dJ0_indexOf_7cf53_30 : decode cJ0_indexOf_7cf53 30 = .ok (.invokevirtual 505, 3) := by decide +kernel
theorem dJ0_indexOf_7cf53_33 : decode cJ0_indexOf_7cf53 33 = .ok (.invokestatic 640, 3) := by decide +kernel
theorem dJ0_indexOf_7cf53_36 : decode cJ0_indexOf_7cf53 36 = .ok (.ireturn, 1) := by decide +kernel
theorem dJ0_coder_7d493_0 : decode cJ0_coder_7d493 0 = .ok (.getstatic 38, 3) := by decide +kernel
theorem dJ0_coder_7d493_3 : decode cJ0_coder_7d493 3 = .ok (.ifCond .eq 10, 3) := by decide +kernel
theorem dJ0_coder_7d493_6 : decode cJ0_coder_7d493 6 = .ok (.aload_n 0, 1) := by decide +kernel
theorem dJ0_coder_7d493_7 : decode cJ0_coder_7d493 7 = .ok (.getfield 15, 3) := by decide +kernel
theorem dJ0_coder_7d493_10 : decode cJ0_coder_7d493 10 = .ok (.goto 4, 3) := by decide +kernel
theorem dJ0_coder_7d493_13 : decode cJ0_coder_7d493 13 = .ok (.iconst 1, 1) := by decide +kernel
theorem dJ0_coder_7d493_14 : decode cJ0_coder_7d493 14 = .ok (.ireturn, 1) := by decide +kernel
theorem dJ0_isLatin1_aae02_0 : decode cJ0_isLatin1_aae02 0 = .ok (.getstatic 38, 3) := by decide +kernel
theorem dJ0_isLatin1_aae02_3 : decode cJ0_isLatin1_aae02 3 = .ok (.ifCond .eq 14, 3) := by decide +kernel
theorem dJ0_isLatin1_aae02_6 : decode cJ0_isLatin1_aae02 6 = .ok (.aload_n 0, 1) := by decide +kernel
theorem dJ0_isLatin1_aae02_7 : decode cJ0_isLatin1_aae02 7 = .ok (.getfield 15, 3) := by decide +kernel
theorem dJ0_isLatin1_aae02_10 : decode cJ0_isLatin1_aae02 10 = .ok (.ifCond .ne 7, 3) := by decide +kernel
theorem dJ0_isLatin1_aae02_13 : decode cJ0_isLatin1_aae02 13 = .ok (.iconst 1, 1) := by decide +kernel
theorem dJ0_isLatin1_aae02_14 : decode cJ0_isLatin1_aae02 14 = .ok (.goto 4, 3) := by decide +kernel
theorem dJ0_isLatin1_aae02_17 : decode cJ0_isLatin1_aae02 17 = .ok (.iconst 0, 1) := by decide +kernel
theorem dJ0_isLatin1_aae02_18 : decode cJ0_isLatin1_aae02 18 = .ok (.ireturn, 1) := by decide +kernel
set_option maxRecDepth 20000 in
theorem ggJ0_checkIndex_df160_J3_checkIndex_8e157 : GoodIn wsJ0_checkIndex_df160 wsJ3_checkIndex_8e157 := goodIn_r _ [5] (by decide +kernel) (by decide +kernel)
set_option maxRecDepth 20000 in
theorem gJ0_checkIndex_df160_J3_checkIndex_8e157 : GoodIn wsJ0_checkIndex_df160 (va_wsS RJ0 1059 yJ3_checkIndex_8e157 wsJ3_checkIndex_8e157) := goodIn_app (goodIn_of _ (by decide +kernel)) ggJ0_checkIndex_df160_J3_checkIndex_8e157
theorem dJ0_checkIndex_df160_0 : decode cJ0_checkIndex_df160 0 = .ok (.iload_n 0, 1) := by decide +kernel
theorem dJ0_checkIndex_df160_1 : decode cJ0_checkIndex_df160 1 = .ok (.iload_n 1, 1) := by decide +kernel
theorem dJ0_checkIndex_df160_2 : decode cJ0_checkIndex_df160 2 = .ok (.getstatic 1053, 3) := by decide +kernel
theorem dJ0_checkIndex_df160_5 : decode cJ0_checkIndex_df160 5 = .ok (.invokestatic 1059, 3) := by decide +kernel
theorem dJ0_checkIndex_df160_8 : decode cJ0_checkIndex_df160 8 = .ok (.pop, 1) := by decide +kernel
theorem dJ0_checkIndex_df160_9 : decode cJ0_checkIndex_df160 9 = .ok (.return_, 1) := by decide +kernel
set_option maxRecDepth 20000 in
theorem ggJ0_checkBoundsBeginEnd_23922_J3_checkFromToIndex_8c36e : GoodIn wsJ0_checkBoundsBeginEnd_23922 wsJ3_checkFromToIndex_8c36e := goodIn_r _ [5] (by decide +kernel) (by decide +kernel)
set_option maxRecDepth 20000 in
theorem gJ0_checkBoundsBeginEnd_23922_J3_checkFromToIndex_8c36e : GoodIn wsJ0_checkBoundsBeginEnd_23922 (va_wsS RJ0 1062 yJ3_checkFromToIndex_8c36e wsJ3_checkFromToIndex_8c36e) := goodIn_app (goodIn_of _ (by decide +kernel)) ggJ0_checkBoundsBeginEnd_23922_J3_checkFromToIndex_8c36e
theorem dJ0_checkBoundsBeginEnd_23922_0 : decode cJ0_checkBoundsBeginEnd_23922 0 = .ok (.iload_n 0, 1) := by decide +kernel
theorem dJ0_checkBoundsBeginEnd_23922_1 : decode cJ0_checkBoundsBeginEnd_23922 1 = .ok (.iload_n 1, 1) := by decide +kernel
theorem dJ0_checkBoundsBeginEnd_23922_2 : decode cJ0_checkBoundsBeginEnd_23922 2 = .ok (.iload_n 2, 1) := by decide +kernel
theorem dJ0_checkBoundsBeginEnd_23922_3 : decode cJ0_checkBoundsBeginEnd_23922 3 = .ok (.getstatic 1053, 3) := by decide +kernel
theorem dJ0_checkBoundsBeginEnd_23922_6 : decode cJ0_checkBoundsBeginEnd_23922 6 = .ok (.invokestatic 1062, 3) := by decide +kernel
theorem dJ0_checkBoundsBeginEnd_23922_9 : decode cJ0_checkBoundsBeginEnd_23922 9 = .ok (.pop, 1) := by decide +kernel
theorem dJ0_checkBoundsBeginEnd_23922_10 : decode cJ0_checkBoundsBeginEnd_23922 10 = .ok (.return_, 1) := by decide +kernel
set_option maxRecDepth 20000 in
theorem ggJ1_charAt_3b067_J0_checkIndex_df160 : GoodIn wsJ1_charAt_3b067 wsJ0_checkIndex_df160 := goodIn_r _ [4, 5, 6, 7, 8, 9] (by decide +kernel) (by decide +kernel)
set_option maxRecDepth 20000 in
theorem gJ1_charAt_3b067_J0_checkIndex_df160 : GoodIn wsJ1_charAt_3b067 (va_wsS RJ1 9 yJ0_checkIndex_df160 wsJ0_checkIndex_df160) := goodIn_app (goodIn_of _ (by decide +kernel)) ggJ1_charAt_3b067_J0_checkIndex_df160
theorem dJ1_charAt_3b067_0 : decode cJ1_charAt_3b067 0 = .ok (.iload_n 1, 1) := by decide +kernel
theorem dJ1_charAt_3b067_1 : decode cJ1_charAt_3b067 1 = .ok (.aload_n 0, 1) := by decide +kernel
theorem dJ1_charAt_3b067_2 : decode cJ1_charAt_3b067 2 = .ok (.arraylength, 1) := by decide +kernel
theorem dJ1_charAt_3b067_3 : decode cJ1_charAt_3b067 3 = .ok (.invokestatic 9, 3) := by decide +kernel
theorem dJ1_charAt_3b067_6 : decode cJ1_charAt_3b067 6 = .ok (.aload_n 0, 1) := by decide +kernel
theorem dJ1_charAt_3b067_7 : decode cJ1_charAt_3b067 7 = .ok (.iload_n 1, 1) := by decide +kernel
theorem dJ1_charAt_3b067_8 : decode cJ1_charAt_3b067 8 = .ok (.baload, 1) := by decide +kernel
theorem dJ1_charAt_3b067_9 : decode cJ1_charAt_3b067 9 = .ok (.sipush 255, 3) := by decide +kernel
theorem dJ1_charAt_3b067_12 : decode cJ1_charAt_3b067 12 = .ok (.iand, 1) := by decide +kernel
theorem dJ1_charAt_3b067_13 : decode cJ1_charAt_3b067 13 = .ok (.i2c, 1) := by decide +kernel
theorem dJ1_charAt_3b067_14 : decode cJ1_charAt_3b067 14 = .ok (.ireturn, 1) := by decide +kernel
theorem dJ1_canEncode_9a6ad_0 : decode cJ1_canEncode_9a6ad 0 = .ok (.iload_n 0, 1) := by decide +kernel
theorem dJ1_canEncode_9a6ad_1 : decode cJ1_canEncode_9a6ad 1 = .ok (.ifCond .lt 14, 3) := by decide +kernel
theorem dJ1_canEncode_9a6ad_4 : decode cJ1_canEncode_9a6ad 4 = .ok (.iload_n 0, 1) := by decide +kernel
theorem dJ1_canEncode_9a6ad_5 : decode cJ1_canEncode_9a6ad 5 = .ok (.sipush 255, 3) := by decide +kernel
theorem dJ1_canEncode_9a6ad_8 : decode cJ1_canEncode_9a6ad 8 = .ok (.if_icmp .gt 7, 3) := by decide +kernel
theorem dJ1_canEncode_9a6ad_11 : decode cJ1_canEncode_9a6ad 11 = .ok (.iconst 1, 1) := by decide +kernel
theorem dJ1_canEncode_9a6ad_12 : decode cJ1_canEncode_9a6ad 12 = .ok (.goto 4, 3) := by decide +kernel
theorem dJ1_canEncode_9a6ad_15 : decode cJ1_canEncode_9a6ad 15 = .ok (.iconst 0, 1) := by decide +kernel
theorem dJ1_canEncode_9a6ad_16 : decode cJ1_canEncode_9a6ad 16 = .ok (.ireturn, 1) := by decide +kernel
set_option maxRecDepth 20000 in
theorem ggJ1_indexOf_4cfef_J1_canEncode_9a6ad : GoodIn wsJ1_indexOf_4cfef wsJ1_canEncode_9a6ad := goodIn_r _ [11] (by decide +kernel) (by decide +kernel)
set_option maxRecDepth 20000 in
theorem gJ1_indexOf_4cfef_J1_canEncode_9a6ad : GoodIn wsJ1_indexOf_4cfef (va_wsS RJ1 88 yJ1_canEncode_9a6ad wsJ1_canEncode_9a6ad) := goodIn_app (goodIn_of _ (by decide +kernel)) ggJ1_indexOf_4cfef_J1_canEncode_9a6ad
set_option maxRecDepth 20000 in
theorem ggJ1_indexOf_4cfef_J1_indexOfChar_4cfef : GoodIn wsJ1_indexOf_4cfef wsJ1_indexOfChar_4cfef := goodIn_r _ [14] (by decide +kernel) (by decide +kernel)
set_option maxRecDepth 20000 in
theorem gJ1_indexOf_4cfef_J1_indexOfChar_4cfef : GoodIn wsJ1_indexOf_4cfef (va_wsS RJ1 95 yJ1_indexOfChar_4cfef wsJ1_indexOfChar_4cfef) := goodIn_app (goodIn_of _ (by decide +kernel)) ggJ1_indexOf_4cfef_J1_indexOfChar_4cfef
theorem dJ1_indexOf_4cfef_0 : decode cJ1_indexOf_4cfef 0 = .ok (.iload_n 1, 1) := by decide +kernel
theorem dJ1_indexOf_4cfef_1 : decode cJ1_indexOf_4cfef 1 = .ok (.invokestatic 88, 3) := by decide +kernel
theorem dJ1_indexOf_4cfef_4 : decode cJ1_indexOf_4cfef 4 = .ok (.ifCond .ne 5, 3) := by decide +kernel
theorem dJ1_indexOf_4cfef_7 : decode cJ1_indexOf_4cfef 7 = .ok (.iconst (-1), 1) := by decide +kernel
theorem dJ1_indexOf_4cfef_8 : decode cJ1_indexOf_4cfef 8 = .ok (.ireturn, 1) := by decide +kernel
theorem dJ1_indexOf_4cfef_9 : decode cJ1_indexOf_4cfef 9 = .ok (.iload_n 2, 1) := by decide +kernel
theorem dJ1_indexOf_4cfef_10 : decode cJ1_indexOf_4cfef 10 = .ok (.iconst 0, 1) := by decide +kernel
theorem dJ1_indexOf_4cfef_11 : decode cJ1_indexOf_4cfef 11 = .ok (.invokestatic 92, 3) := by decide +kernel
theorem dJ1_indexOf_4cfef_14 : decode cJ1_indexOf_4cfef 14 = .ok (.istore_n 2, 1) := by decide +kernel
theorem dJ1_indexOf_4cfef_15 : decode cJ1_indexOf_4cfef 15 = .ok (.iload_n 3, 1) := by decide +kernel
theorem dJ1_indexOf_4cfef_16 : decode cJ1_indexOf_4cfef 16 = .ok (.aload_n 0, 1) := by decide +kernel
theorem dJ1_indexOf_4cfef_17 : decode cJ1_indexOf_4cfef 17 = .ok (.arraylength, 1) := by decide +kernel
theorem dJ1_indexOf_4cfef_18 : decode cJ1_indexOf_4cfef 18 = .ok (.invokestatic 38, 3) := by decide +kernel
theorem dJ1_indexOf_4cfef_21 : decode cJ1_indexOf_4cfef 21 = .ok (.istore_n 3, 1) := by decide +kernel
theorem dJ1_indexOf_4cfef_22 : decode cJ1_indexOf_4cfef 22 = .ok (.iload_n 2, 1) := by decide +kernel
theorem dJ1_indexOf_4cfef_23 : decode cJ1_indexOf_4cfef 23 = .ok (.iload_n 3, 1) := by decide +kernel
theorem dJ1_indexOf_4cfef_24 : decode cJ1_indexOf_4cfef 24 = .ok (.if_icmp .lt 5, 3) := by decide +kernel
theorem dJ1_indexOf_4cfef_27 : decode cJ1_indexOf_4cfef 27 = .ok (.iconst (-1), 1) := by decide +kernel
theorem dJ1_indexOf_4cfef_28 : decode cJ1_indexOf_4cfef 28 = .ok (.ireturn, 1) := by decide +kernel
theorem dJ1_indexOf_4cfef_29 : decode cJ1_indexOf_4cfef 29 = .ok (.aload_n 0, 1) := by decide +kernel
theorem dJ1_indexOf_4cfef_30 : decode cJ1_indexOf_4cfef 30 = .ok (.iload_n 1, 1) := by decide +kernel
theorem dJ1_indexOf_4cfef_31 : decode cJ1_indexOf_4cfef 31 = .ok (.iload_n 2, 1) := by decide +kernel
theorem dJ1_indexOf_4cfef_32 : decode cJ1_indexOf_4cfef 32 = .ok (.iload_n 3, 1) := by decide +kernel
theorem dJ1_indexOf_4cfef_33 : decode cJ1_indexOf_4cfef 33 = .ok (.invokestatic 95, 3) := by decide +kernel
theorem dJ1_indexOf_4cfef_36 : decode cJ1_indexOf_4cfef 36 = .ok (.ireturn, 1) := by decide +kernel
theorem dJ1_indexOfChar_4cfef_0 : decode cJ1_indexOfChar_4cfef 0 = .ok (.iload_n 1, 1) := by decide +kernel
theorem dJ1_indexOfChar_4cfef_1 : decode cJ1_indexOfChar_4cfef 1 = .ok (.i2b, 1) := by decide +kernel
theorem dJ1_indexOfChar_4cfef_2 : decode cJ1_indexOfChar_4cfef 2 = .ok (.istore 4, 2) := by decide +kernel
theorem dJ1_indexOfChar_4cfef_4 : decode cJ1_indexOfChar_4cfef 4 = .ok (.iload_n 2, 1) := by decide +kernel
theorem dJ1_indexOfChar_4cfef_5 : decode cJ1_indexOfChar_4cfef 5 = .ok (.istore 5, 2) := by decide +kernel
theorem dJ1_indexOfChar_4cfef_7 : decode cJ1_indexOfChar_4cfef 7 = .ok (.iload 5, 2) := by decide +kernel
theorem dJ1_indexOfChar_4cfef_9 : decode cJ1_indexOfChar_4cfef 9 = .ok (.iload_n 3, 1) := by decide +kernel
theorem dJ1_indexOfChar_4cfef_10 : decode cJ1_indexOfChar_4cfef 10 = .ok (.if_icmp .ge 21, 3) := by decide +kernel
theorem dJ1_indexOfChar_4cfef_13 : decode cJ1_indexOfChar_4cfef 13 = .ok (.aload_n 0, 1) := by decide +kernel
theorem dJ1_indexOfChar_4cfef_14 : decode cJ1_indexOfChar_4cfef 14 = .ok (.iload 5, 2) := by decide +kernel
theorem dJ1_indexOfChar_4cfef_16 : decode cJ1_indexOfChar_4cfef 16 = .ok (.baload, 1) := by decide +kernel
theorem dJ1_indexOfChar_4cfef_17 : decode cJ1_indexOfChar_4cfef 17 = .ok (.iload 4, 2) := by decide +kernel
theorem dJ1_indexOfChar_4cfef_19 : decode cJ1_indexOfChar_4cfef 19 = .ok (.if_icmp .ne 6, 3) := by decide +kernel
theorem dJ1_indexOfChar_4cfef_22 : decode cJ1_indexOfChar_4cfef 22 = .ok (.iload 5, 2) := by decide +kernel
theorem dJ1_indexOfChar_4cfef_24 : decode cJ1_indexOfChar_4cfef 24 = .ok (.ireturn, 1) := by decide +kernel
theorem dJ1_indexOfChar_4cfef_25 : decode cJ1_indexOfChar_4cfef 25 = .ok (.iinc 5 1, 3) := by decide +kernel
theorem dJ1_indexOfChar_4cfef_28 : decode cJ1_indexOfChar_4cfef 28 = .ok (.goto (-21), 3) := by decide +kernel
theorem dJ1_indexOfChar_4cfef_31 : decode cJ1_indexOfChar_4cfef 31 = .ok (.iconst (-1), 1) := by decide +kernel
theorem dJ1_indexOfChar_4cfef_32 : decode cJ1_indexOfChar_4cfef 32 = .ok (.ireturn, 1) := by decide +kernel
set_option maxRecDepth 20000 in
theorem ggJ2_getChar_3b067_J2_length_9d52b : GoodIn wsJ2_getChar_3b067 wsJ2_length_9d52b := goodIn_r _ [7] (by decide +kernel) (by decide +kernel)
set_option maxRecDepth 20000 in
theorem gJ2_getChar_3b067_J2_length_9d52b : GoodIn wsJ2_getChar_3b067 (va_wsS RJ2 48 yJ2_length_9d52b wsJ2_length_9d52b) := goodIn_app (goodIn_of _ (by decide +kernel)) ggJ2_getChar_3b067_J2_length_9d52b
theorem dJ2_getChar_3b067_0 : decode cJ2_getChar_3b067 0 = .ok (.getstatic 44, 3) := by decide +kernel
theorem dJ2_getChar_3b067_3 : decode cJ2_getChar_3b067 3 = .ok (.ifCond .ne 25, 3) := by decide +kernel
theorem dJ2_getChar_3b067_6 : decode cJ2_getChar_3b067 6 = .ok (.iload_n 1, 1) := by decide +kernel
theorem dJ2_getChar_3b067_7 : decode cJ2_getChar_3b067 7 = .ok (.ifCond .lt 11, 3) := by decide +kernel
theorem dJ2_getChar_3b067_10 : decode cJ2_getChar_3b067 10 = .ok (.iload_n 1, 1) := by decide +kernel
theorem dJ2_getChar_3b067_11 : decode cJ2_getChar_3b067 11 = .ok (.aload_n 0, 1) := by decide +kernel
theorem dJ2_getChar_3b067_12 : decode cJ2_getChar_3b067 12 = .ok (.invokestatic 48, 3) := by decide +kernel
theorem dJ2_getChar_3b067_15 : decode cJ2_getChar_3b067 15 = .ok (.if_icmp .lt 13, 3) := by decide +kernel
theorem dJ2_getChar_3b067_18 : decode cJ2_getChar_3b067 18 = .ok (.new 52, 3) := by decide +kernel
theorem dJ2_getChar_3b067_21 : decode cJ2_getChar_3b067 21 = .ok (.dup, 1) := by decide +kernel
theorem dJ2_getChar_3b067_22 : decode cJ2_getChar_3b067 22 = .ok (.ldc 54, 2) := by decide +kernel
theorem dJ2_getChar_3b067_24 : decode cJ2_getChar_3b067 24 = .ok (.invokespecial 56, 3) := by decide +kernel
theorem dJ2_getChar_3b067_27 : decode cJ2_getChar_3b067 27 = .ok (.athrow, 1) := by decide +kernel
theorem dJ2_getChar_3b067_28 : decode cJ2_getChar_3b067 28 = .ok (.iload_n 1, 1) := by decide +kernel
theorem dJ2_getChar_3b067_29 : decode cJ2_getChar_3b067 29 = .ok (.iconst 1, 1) := by decide +kernel
theorem dJ2_getChar_3b067_30 : decode cJ2_getChar_3b067 30 = .ok (.ishl, 1) := by decide +kernel
theorem dJ2_getChar_3b067_31 : decode cJ2_getChar_3b067 31 = .ok (.istore_n 1, 1) := by decide +kernel
theorem dJ2_getChar_3b067_32 : decode cJ2_getChar_3b067 32 = .ok (.aload_n 0, 1) := by decide +kernel
theorem dJ2_getChar_3b067_33 : decode cJ2_getChar_3b067 33 = .ok (.iload_n 1, 1) := by decide +kernel
theorem dJ2_getChar_3b067_34 : decode cJ2_getChar_3b067 34 = .ok (.iinc 1 1, 3) := by decide +kernel
theorem dJ2_getChar_3b067_37 : decode cJ2_getChar_3b067 37 = .ok (.baload, 1) := by decide +kernel
theorem dJ2_getChar_3b067_38 : decode cJ2_getChar_3b067 38 = .ok (.sipush 255, 3) := by decide +kernel
theorem dJ2_getChar_3b067_41 : decode cJ2_getChar_3b067 41 = .ok (.iand, 1) := by decide +kernel
theorem dJ2_getChar_3b067_42 : decode cJ2_getChar_3b067 42 = .ok (.getstatic 59, 3) := by decide +kernel
theorem dJ2_getChar_3b067_45 : decode cJ2_getChar_3b067 45 = .ok (.ishl, 1) := by decide +kernel
theorem dJ2_getChar_3b067_46 : decode cJ2_getChar_3b067 46 = .ok (.aload_n 0, 1) := by decide +kernel
theorem dJ2_getChar_3b067_47 : decode cJ2_getChar_3b067 47 = .ok (.iload_n 1, 1) := by decide +kernel
theorem dJ2_getChar_3b067_48 : decode cJ2_getChar_3b067 48 = .ok (.baload, 1) := by decide +kernel
theorem dJ2_getChar_3b067_49 : decode cJ2_getChar_3b067 49 = .ok (.sipush 255, 3) := by decide +kernel
theorem dJ2_getChar_3b067_52 : decode cJ2_getChar_3b067 52 = .ok (.iand, 1) := by decide +kernel
theorem dJ2_getChar_3b067_53 : decode cJ2_getChar_3b067 53 = .ok (.getstatic 63, 3) := by decide +kernel
theorem dJ2_getChar_3b067_56 : decode cJ2_getChar_3b067 56 = .ok (.ishl, 1) := by decide +kernel
theorem dJ2_getChar_3b067_57 : decode cJ2_getChar_3b067 57 = .ok (.ior, 1) := by decide +kernel
theorem dJ2_getChar_3b067_58 : decode cJ2_getChar_3b067 58 = .ok (.i2c, 1) := by decide +kernel
theorem dJ2_getChar_3b067_59 : decode cJ2_getChar_3b067 59 = .ok (.ireturn, 1) := by decide +kernel
theorem dJ2_length_9d52b_0 : decode cJ2_length_9d52b 0 = .ok (.aload_n 0, 1) := by decide +kernel
theorem dJ2_length_9d52b_1 : decode cJ2_length_9d52b 1 = .ok (.arraylength, 1) := by decide +kernel
theorem dJ2_length_9d52b_2 : decode cJ2_length_9d52b 2 = .ok (.iconst 1, 1) := by decide +kernel
theorem dJ2_length_9d52b_3 : decode cJ2_length_9d52b 3 = .ok (.ishr, 1) := by decide +kernel
theorem dJ2_length_9d52b_4 : decode cJ2_length_9d52b 4 = .ok (.ireturn, 1) := by decide +kernel
set_option maxRecDepth 20000 in
theorem ggJ2_indexOf_4cfef_J2_indexOfChar_4cfef : GoodIn wsJ2_indexOf_4cfef wsJ2_indexOfChar_4cfef := goodIn_r _ [12, 13, 14, 11, 15, 16, 17, 18, 19, 20, 21, 22, 23, 24, 25, 26, 27, 28, 29, 30, 31, 32, 33, 34, 35, 36] (by decide +kernel) (by decide +kernel)
set_option maxRecDepth 20000 in
theorem gJ2_indexOf_4cfef_J2_indexOfChar_4cfef : GoodIn wsJ2_indexOf_4cfef (va_wsS RJ2 228 yJ2_indexOfChar_4cfef wsJ2_indexOfChar_4cfef) := goodIn_app (goodIn_of _ (by decide +kernel)) ggJ2_indexOf_4cfef_J2_indexOfChar_4cfef
set_option maxRecDepth 20000 in
theorem ggJ2_indexOf_4cfef_J2_indexOfSupplementary_4cfef : GoodIn wsJ2_indexOf_4cfef wsJ2_indexOfSupplementary_4cfef := goodIn_r _ [39, 40, 41, 42, 43, 44, 45, 46, 47, 48, 49, 50, 51, 13, 14, 11, 15, 16, 17, 18, 19, 20, 21, 22, 23, 24, 25, 26, 27, 31, 32, 33, 34, 35, 36] (by decide +kernel) (by decide +kernel)
set_option maxRecDepth 20000 in
theorem gJ2_indexOf_4cfef_J2_indexOfSupplementary_4cfef : GoodIn wsJ2_indexOf_4cfef (va_wsS RJ2 232 yJ2_indexOfSupplementary_4cfef wsJ2_indexOfSupplementary_4cfef) := goodIn_app (goodIn_of _ (by decide +kernel)) ggJ2_indexOf_4cfef_J2_indexOfSupplementary_4cfef
theorem dJ2_indexOf_4cfef_0 : decode cJ2_indexOf_4cfef 0 = .ok (.iload_n 2, 1) := by decide +kernel
theorem dJ2_indexOf_4cfef_1 : decode cJ2_indexOf_4cfef 1 = .ok (.iconst 0, 1) := by decide +kernel
theorem dJ2_indexOf_4cfef_2 : decode cJ2_indexOf_4cfef 2 = .ok (.invokestatic 224, 3) := by decide +kernel
theorem dJ2_indexOf_4cfef_5 : decode cJ2_indexOf_4cfef 5 = .ok (.istore_n 2, 1) := by decide +kernel
theorem dJ2_indexOf_4cfef_6 : decode cJ2_indexOf_4cfef 6 = .ok (.iload_n 3, 1) := by decide +kernel
theorem dJ2_indexOf_4cfef_7 : decode cJ2_indexOf_4cfef 7 = .ok (.aload_n 0, 1) := by decide +kernel
theorem dJ2_indexOf_4cfef_8 : decode cJ2_indexOf_4cfef 8 = .ok (.arraylength, 1) := by decide +kernel
theorem dJ2_indexOf_4cfef_9 : decode cJ2_indexOf_4cfef 9 = .ok (.iconst 1, 1) := by decide +kernel
theorem dJ2_indexOf_4cfef_10 : decode cJ2_indexOf_4cfef 10 = .ok (.ishr, 1) := by decide +kernel
theorem dJ2_indexOf_4cfef_11 : decode cJ2_indexOf_4cfef 11 = .ok (.invokestatic 183, 3) := by decide +kernel
theorem dJ2_indexOf_4cfef_14 : decode cJ2_indexOf_4cfef 14 = .ok (.istore_n 3, 1) := by decide +kernel
theorem dJ2_indexOf_4cfef_15 : decode cJ2_indexOf_4cfef 15 = .ok (.iload_n 2, 1) := by decide +kernel
theorem dJ2_indexOf_4cfef_16 : decode cJ2_indexOf_4cfef 16 = .ok (.iload_n 3, 1) := by decide +kernel
theorem dJ2_indexOf_4cfef_17 : decode cJ2_indexOf_4cfef 17 = .ok (.if_icmp .lt 5, 3) := by decide +kernel
theorem dJ2_indexOf_4cfef_20 : decode cJ2_indexOf_4cfef 20 = .ok (.iconst (-1), 1) := by decide +kernel
theorem dJ2_indexOf_4cfef_21 : decode cJ2_indexOf_4cfef 21 = .ok (.ireturn, 1) := by decide +kernel
theorem dJ2_indexOf_4cfef_22 : decode cJ2_indexOf_4cfef 22 = .ok (.iload_n 1, 1) := by decide +kernel
theorem dJ2_indexOf_4cfef_23 : decode cJ2_indexOf_4cfef 23 = .ok (.ldc 227, 2) := by decide +kernel
theorem dJ2_indexOf_4cfef_25 : decode cJ2_indexOf_4cfef 25 = .ok (.if_icmp .ge 11, 3) := by decide +kernel
theorem dJ2_indexOf_4cfef_28 : decode cJ2_indexOf_4cfef 28 = .ok (.aload_n 0, 1) := by decide +kernel
theorem dJ2_indexOf_4cfef_29 : decode cJ2_indexOf_4cfef 29 = .ok (.iload_n 1, 1) := by decide +kernel
theorem dJ2_indexOf_4cfef_30 : decode cJ2_indexOf_4cfef 30 = .ok (.iload_n 2, 1) := by decide +kernel
theorem dJ2_indexOf_4cfef_31 : decode cJ2_indexOf_4cfef 31 = .ok (.iload_n 3, 1) := by decide +kernel
theorem dJ2_indexOf_4cfef_32 : decode cJ2_indexOf_4cfef 32 = .ok (.invokestatic 228, 3) := by decide +kernel
theorem dJ2_indexOf_4cfef_35 : decode cJ2_indexOf_4cfef 35 = .ok (.ireturn, 1) := by decide +kernel
theorem dJ2_indexOf_4cfef_36 : decode cJ2_indexOf_4cfef 36 = .ok (.aload_n 0, 1) := by decide +kernel
theorem dJ2_indexOf_4cfef_37 : decode cJ2_indexOf_4cfef 37 = .ok (.iload_n 1, 1) := by decide +kernel
theorem dJ2_indexOf_4cfef_38 : decode cJ2_indexOf_4cfef 38 = .ok (.iload_n 2, 1) := by decide +kernel
theorem dJ2_indexOf_4cfef_39 : decode cJ2_indexOf_4cfef 39 = .ok (.iload_n 3, 1) := by decide +kernel
theorem dJ2_indexOf_4cfef_40 : decode cJ2_indexOf_4cfef 40 = .ok (.invokestatic 232, 3) := by decide +kernel
theorem dJ2_indexOf_4cfef_43 : decode cJ2_indexOf_4cfef 43 = .ok (.ireturn, 1) := by decide +kernel
set_option maxRecDepth 20000 in
theorem ggJ2_indexOfChar_4cfef_J2_checkBoundsBeginEnd_d044e : GoodIn wsJ2_indexOfChar_4cfef wsJ2_checkBoundsBeginEnd_d044e := goodIn_r _ [4, 5, 6, 3, 7, 8, 9, 10, 11, 12, 13, 14, 15, 16] (by decide +kernel) (by decide +kernel)
set_option maxRecDepth 20000 in
theorem gJ2_indexOfChar_4cfef_J2_checkBoundsBeginEnd_d044e : GoodIn wsJ2_indexOfChar_4cfef (va_wsS RJ2 96 yJ2_checkBoundsBeginEnd_d044e wsJ2_checkBoundsBeginEnd_d044e) := goodIn_app (goodIn_of _ (by decide +kernel)) ggJ2_indexOfChar_4cfef_J2_checkBoundsBeginEnd_d044e
set_option maxRecDepth 20000 in
theorem ggJ2_indexOfChar_4cfef_J2_indexOfCharUnsafe_4cfef : GoodIn wsJ2_indexOfChar_4cfef wsJ2_indexOfCharUnsafe_4cfef := goodIn_r _ [19, 20, 21, 3, 22, 23, 24, 25, 5, 6, 7] (by decide +kernel) (by decide +kernel)
set_option maxRecDepth 20000 in
theorem gJ2_indexOfChar_4cfef_J2_indexOfCharUnsafe_4cfef : GoodIn wsJ2_indexOfChar_4cfef (va_wsS RJ2 244 yJ2_indexOfCharUnsafe_4cfef wsJ2_indexOfCharUnsafe_4cfef) := goodIn_app (goodIn_of _ (by decide +kernel)) ggJ2_indexOfChar_4cfef_J2_indexOfCharUnsafe_4cfef
theorem dJ2_indexOfChar_4cfef_0 : decode cJ2_indexOfChar_4cfef 0 = .ok (.iload_n 2, 1) := by decide +kernel
theorem dJ2_indexOfChar_4cfef_1 : decode cJ2_indexOfChar_4cfef 1 = .ok (.iload_n 3, 1) := by decide +kernel
theorem dJ2_indexOfChar_4cfef_2 : decode cJ2_indexOfChar_4cfef 2 = .ok (.aload_n 0, 1) := by decide +kernel
theorem dJ2_indexOfChar_4cfef_3 : decode cJ2_indexOfChar_4cfef 3 = .ok (.invokestatic 96, 3) := by decide +kernel
theorem dJ2_indexOfChar_4cfef_6 : decode cJ2_indexOfChar_4cfef 6 = .ok (.aload_n 0, 1) := by decide +kernel
theorem dJ2_indexOfChar_4cfef_7 : decode cJ2_indexOfChar_4cfef 7 = .ok (.iload_n 1, 1) := by decide +kernel
theorem dJ2_indexOfChar_4cfef_8 : decode cJ2_indexOfChar_4cfef 8 = .ok (.iload_n 2, 1) := by decide +kernel
theorem dJ2_indexOfChar_4cfef_9 : decode cJ2_indexOfChar_4cfef 9 = .ok (.iload_n 3, 1) := by decide +kernel
theorem dJ2_indexOfChar_4cfef_10 : decode cJ2_indexOfChar_4cfef 10 = .ok (.invokestatic 244, 3) := by decide +kernel
theorem dJ2_indexOfChar_4cfef_13 : decode cJ2_indexOfChar_4cfef 13 = .ok (.ireturn, 1) := by decide +kernel
set_option maxRecDepth 20000 in
theorem ggJ2_indexOfCharUnsafe_4cfef_J2_getChar_3b067 : GoodIn wsJ2_indexOfCharUnsafe_4cfef wsJ2_getChar_3b067 := goodIn_r _ [4, 5, 6, 7, 8, 9, 3, 10] (by decide +kernel) (by decide +kernel)
set_option maxRecDepth 20000 in
theorem gJ2_indexOfCharUnsafe_4cfef_J2_getChar_3b067 : GoodIn wsJ2_indexOfCharUnsafe_4cfef (va_wsS RJ2 71 yJ2_getChar_3b067 wsJ2_getChar_3b067) := goodIn_app (goodIn_of _ (by decide +kernel)) ggJ2_indexOfCharUnsafe_4cfef_J2_getChar_3b067
theorem dJ2_indexOfCharUnsafe_4cfef_0 : decode cJ2_indexOfCharUnsafe_4cfef 0 = .ok (.iload_n 2, 1) := by decide +kernel
theorem dJ2_indexOfCharUnsafe_4cfef_1 : decode cJ2_indexOfCharUnsafe_4cfef 1 = .ok (.istore 4, 2) := by decide +kernel
theorem dJ2_indexOfCharUnsafe_4cfef_3 : decode cJ2_indexOfCharUnsafe_4cfef 3 = .ok (.iload 4, 2) := by decide +kernel
theorem dJ2_indexOfCharUnsafe_4cfef_5 : decode cJ2_indexOfCharUnsafe_4cfef 5 = .ok (.iload_n 3, 1) := by decide +kernel
theorem dJ2_indexOfCharUnsafe_4cfef_6 : decode cJ2_indexOfCharUnsafe_4cfef 6 = .ok (.if_icmp .ge 22, 3) := by decide +kernel
theorem dJ2_indexOfCharUnsafe_4cfef_9 : decode cJ2_indexOfCharUnsafe_4cfef 9 = .ok (.aload_n 0, 1) := by decide +kernel
theorem dJ2_indexOfCharUnsafe_4cfef_10 : decode cJ2_indexOfCharUnsafe_4cfef 10 = .ok (.iload 4, 2) := by decide +kernel
theorem dJ2_indexOfCharUnsafe_4cfef_12 : decode cJ2_indexOfCharUnsafe_4cfef 12 = .ok (.invokestatic 71, 3) := by decide +kernel
theorem dJ2_indexOfCharUnsafe_4cfef_15 : decode cJ2_indexOfCharUnsafe_4cfef 15 = .ok (.iload_n 1, 1) := by decide +kernel
theorem dJ2_indexOfCharUnsafe_4cfef_16 : decode cJ2_indexOfCharUnsafe_4cfef 16 = .ok (.if_icmp .ne 6, 3) := by decide +kernel
theorem dJ2_indexOfCharUnsafe_4cfef_19 : decode cJ2_indexOfCharUnsafe_4cfef 19 = .ok (.iload 4, 2) := by decide +kernel
theorem dJ2_indexOfCharUnsafe_4cfef_21 : decode cJ2_indexOfCharUnsafe_4cfef 21 = .ok (.ireturn, 1) := by decide +kernel
theorem dJ2_indexOfCharUnsafe_4cfef_22 : decode cJ2_indexOfCharUnsafe_4cfef 22 = .ok (.iinc 4 1, 3) := by decide +kernel
theorem dJ2_indexOfCharUnsafe_4cfef_25 : decode cJ2_indexOfCharUnsafe_4cfef 25 = .ok (.goto (-22), 3) := by decide +kernel
theorem dJ2_indexOfCharUnsafe_4cfef_28 : decode cJ2_indexOfCharUnsafe_4cfef 28 = .ok (.iconst (-1), 1) := by decide +kernel
theorem dJ2_indexOfCharUnsafe_4cfef_29 : decode cJ2_indexOfCharUnsafe_4cfef 29 = .ok (.ireturn, 1) := by decide +kernel
set_option maxRecDepth 20000 in
theorem ggJ2_indexOfSupplementary_4cfef_J11_isValidCodePoint_9a6ad : GoodIn wsJ2_indexOfSupplementary_4cfef wsJ11_isValidCodePoint_9a6ad := goodIn_r _ [4] (by decide +kernel) (by decide +kernel)
set_option maxRecDepth 20000 in
theorem gJ2_indexOfSupplementary_4cfef_J11_isValidCodePoint_9a6ad : GoodIn wsJ2_indexOfSupplementary_4cfef (va_wsS RJ2 164 yJ11_isValidCodePoint_9a6ad wsJ11_isValidCodePoint_9a6ad) := goodIn_app (goodIn_of _ (by decide +kernel)) ggJ2_indexOfSupplementary_4cfef_J11_isValidCodePoint_9a6ad
set_option maxRecDepth 20000 in
theorem ggJ2_indexOfSupplementary_4cfef_J11_highSurrogate_5068e : GoodIn wsJ2_indexOfSupplementary_4cfef wsJ11_highSurrogate_5068e := goodIn_r _ [7, 8] (by decide +kernel) (by decide +kernel)
set_option maxRecDepth 20000 in
theorem gJ2_indexOfSupplementary_4cfef_J11_highSurrogate_5068e : GoodIn wsJ2_indexOfSupplementary_4cfef (va_wsS RJ2 157 yJ11_highSurrogate_5068e wsJ11_highSurrogate_5068e) := goodIn_app (goodIn_of _ (by decide +kernel)) ggJ2_indexOfSupplementary_4cfef_J11_highSurrogate_5068e
set_option maxRecDepth 20000 in
theorem ggJ2_indexOfSupplementary_4cfef_J11_lowSurrogate_5068e : GoodIn wsJ2_indexOfSupplementary_4cfef wsJ11_lowSurrogate_5068e := goodIn_r _ [11, 12] (by decide +kernel) (by decide +kernel)
set_option maxRecDepth 20000 in
theorem gJ2_indexOfSupplementary_4cfef_J11_lowSurrogate_5068e : GoodIn wsJ2_indexOfSupplementary_4cfef (va_wsS RJ2 161 yJ11_lowSurrogate_5068e wsJ11_lowSurrogate_5068e) := goodIn_app (goodIn_of _ (by decide +kernel)) ggJ2_indexOfSupplementary_4cfef_J11_lowSurrogate_5068e
set_option maxRecDepth 20000 in
theorem ggJ2_indexOfSupplementary_4cfef_J2_checkBoundsBeginEnd_d044e : GoodIn wsJ2_indexOfSupplementary_4cfef wsJ2_checkBoundsBeginEnd_d044e := goodIn_r _ [16, 17, 18, 15, 19, 20, 21, 22, 23, 24, 25, 26, 27, 28] (by decide +kernel) (by decide +kernel)
set_option maxRecDepth 20000 in
theorem gJ2_indexOfSupplementary_4cfef_J2_checkBoundsBeginEnd_d044e : GoodIn wsJ2_indexOfSupplementary_4cfef (va_wsS RJ2 96 yJ2_checkBoundsBeginEnd_d044e wsJ2_checkBoundsBeginEnd_d044e) := goodIn_app (goodIn_of _ (by decide +kernel)) ggJ2_indexOfSupplementary_4cfef_J2_checkBoundsBeginEnd_d044e
set_option maxRecDepth 20000 in
theorem ggJ2_indexOfSupplementary_4cfef_J2_getChar_3b067 : GoodIn wsJ2_indexOfSupplementary_4cfef wsJ2_getChar_3b067 := goodIn_r _ [31, 32, 33, 34, 17, 18, 15, 19] (by decide +kernel) (by decide +kernel)
set_option maxRecDepth 20000 in
theorem gJ2_indexOfSupplementary_4cfef_J2_getChar_3b067 : GoodIn wsJ2_indexOfSupplementary_4cfef (va_wsS RJ2 71 yJ2_getChar_3b067 wsJ2_getChar_3b067) := goodIn_app (goodIn_of _ (by decide +kernel)) ggJ2_indexOfSupplementary_4cfef_J2_getChar_3b067
theorem dJ2_indexOfSupplementary_4cfef_0 : decode cJ2_indexOfSupplementary_4cfef 0 = .ok (.iload_n 1, 1) := by decide +kernel
theorem dJ2_indexOfSupplementary_4cfef_1 : decode cJ2_indexOfSupplementary_4cfef 1 = .ok (.invokestatic 164, 3) := by decide +kernel
theorem dJ2_indexOfSupplementary_4cfef_4 : decode cJ2_indexOfSupplementary_4cfef 4 = .ok (.ifCond .eq 65, 3) := by decide +kernel
theorem dJ2_indexOfSupplementary_4cfef_7 : decode cJ2_indexOfSupplementary_4cfef 7 = .ok (.iload_n 1, 1) := by decide +kernel
theorem dJ2_indexOfSupplementary_4cfef_8 : decode cJ2_indexOfSupplementary_4cfef 8 = .ok (.invokestatic 157, 3) := by decide +kernel
theorem dJ2_indexOfSupplementary_4cfef_11 : decode cJ2_indexOfSupplementary_4cfef 11 = .ok (.istore 4, 2) := by decide +kernel
theorem dJ2_indexOfSupplementary_4cfef_13 : decode cJ2_indexOfSupplementary_4cfef 13 = .ok (.iload_n 1, 1) := by decide +kernel
theorem dJ2_indexOfSupplementary_4cfef_14 : decode cJ2_indexOfSupplementary_4cfef 14 = .ok (.invokestatic 161, 3) := by decide +kernel
theorem dJ2_indexOfSupplementary_4cfef_17 : decode cJ2_indexOfSupplementary_4cfef 17 = .ok (.istore 5, 2) := by decide +kernel
theorem dJ2_indexOfSupplementary_4cfef_19 : decode cJ2_indexOfSupplementary_4cfef 19 = .ok (.iload_n 2, 1) := by decide +kernel
theorem dJ2_indexOfSupplementary_4cfef_20 : decode cJ2_indexOfSupplementary_4cfef 20 = .ok (.iload_n 3, 1) := by decide +kernel
theorem dJ2_indexOfSupplementary_4cfef_21 : decode cJ2_indexOfSupplementary_4cfef 21 = .ok (.aload_n 0, 1) := by decide +kernel
theorem dJ2_indexOfSupplementary_4cfef_22 : decode cJ2_indexOfSupplementary_4cfef 22 = .ok (.invokestatic 96, 3) := by decide +kernel
theorem dJ2_indexOfSupplementary_4cfef_25 : decode cJ2_indexOfSupplementary_4cfef 25 = .ok (.iload_n 2, 1) := by decide +kernel
theorem dJ2_indexOfSupplementary_4cfef_26 : decode cJ2_indexOfSupplementary_4cfef 26 = .ok (.istore 6, 2) := by decide +kernel
theorem dJ2_indexOfSupplementary_4cfef_28 : decode cJ2_indexOfSupplementary_4cfef 28 = .ok (.iload 6, 2) := by decide +kernel
theorem dJ2_indexOfSupplementary_4cfef_30 : decode cJ2_indexOfSupplementary_4cfef 30 = .ok (.iload_n 3, 1) := by decide +kernel
theorem dJ2_indexOfSupplementary_4cfef_31 : decode cJ2_indexOfSupplementary_4cfef 31 = .ok (.iconst 1, 1) := by decide +kernel
theorem dJ2_indexOfSupplementary_4cfef_32 : decode cJ2_indexOfSupplementary_4cfef 32 = .ok (.isub, 1) := by decide +kernel
theorem dJ2_indexOfSupplementary_4cfef_33 : decode cJ2_indexOfSupplementary_4cfef 33 = .ok (.if_icmp .ge 36, 3) := by decide +kernel
theorem dJ2_indexOfSupplementary_4cfef_36 : decode cJ2_indexOfSupplementary_4cfef 36 = .ok (.aload_n 0, 1) := by decide +kernel
theorem dJ2_indexOfSupplementary_4cfef_37 : decode cJ2_indexOfSupplementary_4cfef 37 = .ok (.iload 6, 2) := by decide +kernel
theorem dJ2_indexOfSupplementary_4cfef_39 : decode cJ2_indexOfSupplementary_4cfef 39 = .ok (.invokestatic 71, 3) := by decide +kernel
theorem dJ2_indexOfSupplementary_4cfef_42 : decode cJ2_indexOfSupplementary_4cfef 42 = .ok (.iload 4, 2) := by decide +kernel
theorem dJ2_indexOfSupplementary_4cfef_44 : decode cJ2_indexOfSupplementary_4cfef 44 = .ok (.if_icmp .ne 19, 3) := by decide +kernel
theorem dJ2_indexOfSupplementary_4cfef_47 : decode cJ2_indexOfSupplementary_4cfef 47 = .ok (.aload_n 0, 1) := by decide +kernel
theorem dJ2_indexOfSupplementary_4cfef_48 : decode cJ2_indexOfSupplementary_4cfef 48 = .ok (.iload 6, 2) := by decide +kernel
theorem dJ2_indexOfSupplementary_4cfef_50 : decode cJ2_indexOfSupplementary_4cfef 50 = .ok (.iconst 1, 1) := by decide +kernel
theorem dJ2_indexOfSupplementary_4cfef_51 : decode cJ2_indexOfSupplementary_4cfef 51 = .ok (.iadd, 1) := by decide +kernel
theorem dJ2_indexOfSupplementary_4cfef_52 : decode cJ2_indexOfSupplementary_4cfef 52 = .ok (.invokestatic 71, 3) := by decide +kernel
theorem dJ2_indexOfSupplementary_4cfef_55 : decode cJ2_indexOfSupplementary_4cfef 55 = .ok (.iload 5, 2) := by decide +kernel
theorem dJ2_indexOfSupplementary_4cfef_57 : decode cJ2_indexOfSupplementary_4cfef 57 = .ok (.if_icmp .ne 6, 3) := by decide +kernel
theorem dJ2_indexOfSupplementary_4cfef_60 : decode cJ2_indexOfSupplementary_4cfef 60 = .ok (.iload 6, 2) := by decide +kernel
theorem dJ2_indexOfSupplementary_4cfef_62 : decode cJ2_indexOfSupplementary_4cfef 62 = .ok (.ireturn, 1) := by decide +kernel
theorem dJ2_indexOfSupplementary_4cfef_63 : decode cJ2_indexOfSupplementary_4cfef 63 = .ok (.iinc 6 1, 3) := by decide +kernel
theorem dJ2_indexOfSupplementary_4cfef_66 : decode cJ2_indexOfSupplementary_4cfef 66 = .ok (.goto (-38), 3) := by decide +kernel
theorem dJ2_indexOfSupplementary_4cfef_69 : decode cJ2_indexOfSupplementary_4cfef 69 = .ok (.iconst (-1), 1) := by decide +kernel
theorem dJ2_indexOfSupplementary_4cfef_70 : decode cJ2_indexOfSupplementary_4cfef 70 = .ok (.ireturn, 1) := by decide +kernel
set_option maxRecDepth 20000 in
theorem ggJ2_charAt_3b067_J2_checkIndex_2214a : GoodIn wsJ2_charAt_3b067 wsJ2_checkIndex_2214a := goodIn_r _ [4, 5, 6, 3, 7, 8, 9, 10, 11, 12, 13, 14, 15, 16] (by decide +kernel) (by decide +kernel)
set_option maxRecDepth 20000 in
theorem gJ2_charAt_3b067_J2_checkIndex_2214a : GoodIn wsJ2_charAt_3b067 (va_wsS RJ2 67 yJ2_checkIndex_2214a wsJ2_checkIndex_2214a) := goodIn_app (goodIn_of _ (by decide +kernel)) ggJ2_charAt_3b067_J2_checkIndex_2214a
set_option maxRecDepth 20000 in
theorem ggJ2_charAt_3b067_J2_getChar_3b067 : GoodIn wsJ2_charAt_3b067 wsJ2_getChar_3b067 := goodIn_r _ [19, 20, 21, 22, 5, 6, 3, 7] (by decide +kernel) (by decide +kernel)
set_option maxRecDepth 20000 in
theorem gJ2_charAt_3b067_J2_getChar_3b067 : GoodIn wsJ2_charAt_3b067 (va_wsS RJ2 71 yJ2_getChar_3b067 wsJ2_getChar_3b067) := goodIn_app (goodIn_of _ (by decide +kernel)) ggJ2_charAt_3b067_J2_getChar_3b067
theorem dJ2_charAt_3b067_0 : decode cJ2_charAt_3b067 0 = .ok (.iload_n 1, 1) := by decide +kernel
theorem dJ2_charAt_3b067_1 : decode cJ2_charAt_3b067 1 = .ok (.aload_n 0, 1) := by decide +kernel
theorem dJ2_charAt_3b067_2 : decode cJ2_charAt_3b067 2 = .ok (.invokestatic 67, 3) := by decide +kernel
theorem dJ2_charAt_3b067_5 : decode cJ2_charAt_3b067 5 = .ok (.aload_n 0, 1) := by decide +kernel
theorem dJ2_charAt_3b067_6 : decode cJ2_charAt_3b067 6 = .ok (.iload_n 1, 1) := by decide +kernel
theorem dJ2_charAt_3b067_7 : decode cJ2_charAt_3b067 7 = .ok (.invokestatic 71, 3) := by decide +kernel
theorem dJ2_charAt_3b067_10 : decode cJ2_charAt_3b067 10 = .ok (.ireturn, 1) := by decide +kernel
set_option maxRecDepth 20000 in
theorem ggJ2_checkIndex_2214a_J2_length_9d52b : GoodIn wsJ2_checkIndex_2214a wsJ2_length_9d52b := goodIn_r _ [4] (by decide +kernel) (by decide +kernel)
set_option maxRecDepth 20000 in
theorem gJ2_checkIndex_2214a_J2_length_9d52b : GoodIn wsJ2_checkIndex_2214a (va_wsS RJ2 48 yJ2_length_9d52b wsJ2_length_9d52b) := goodIn_app (goodIn_of _ (by decide +kernel)) ggJ2_checkIndex_2214a_J2_length_9d52b
set_option maxRecDepth 20000 in
theorem ggJ2_checkIndex_2214a_J0_checkIndex_df160 : GoodIn wsJ2_checkIndex_2214a wsJ0_checkIndex_df160 := goodIn_r _ [8, 9, 10, 11, 12, 13] (by decide +kernel) (by decide +kernel)
set_option maxRecDepth 20000 in
theorem gJ2_checkIndex_2214a_J0_checkIndex_df160 : GoodIn wsJ2_checkIndex_2214a (va_wsS RJ2 414 yJ0_checkIndex_df160 wsJ0_checkIndex_df160) := goodIn_app (goodIn_of _ (by decide +kernel)) ggJ2_checkIndex_2214a_J0_checkIndex_df160
theorem dJ2_checkIndex_2214a_0 : decode cJ2_checkIndex_2214a 0 = .ok (.iload_n 0, 1) := by decide +kernel
theorem dJ2_checkIndex_2214a_1 : decode cJ2_checkIndex_2214a 1 = .ok (.aload_n 1, 1) := by decide +kernel
theorem dJ2_checkIndex_2214a_2 : decode cJ2_checkIndex_2214a 2 = .ok (.invokestatic 48, 3) := by decide +kernel
theorem dJ2_checkIndex_2214a_5 : decode cJ2_checkIndex_2214a 5 = .ok (.invokestatic 414, 3) := by decide +kernel
theorem dJ2_checkIndex_2214a_8 : decode cJ2_checkIndex_2214a 8 = .ok (.return_, 1) := by decide +kernel
set_option maxRecDepth 20000 in
theorem ggJ2_checkBoundsBeginEnd_d044e_J2_length_9d52b : GoodIn wsJ2_checkBoundsBeginEnd_d044e wsJ2_length_9d52b := goodIn_r _ [4] (by decide +kernel) (by decide +kernel)
set_option maxRecDepth 20000 in
theorem gJ2_checkBoundsBeginEnd_d044e_J2_length_9d52b : GoodIn wsJ2_checkBoundsBeginEnd_d044e (va_wsS RJ2 48 yJ2_length_9d52b wsJ2_length_9d52b) := goodIn_app (goodIn_of _ (by decide +kernel)) ggJ2_checkBoundsBeginEnd_d044e_J2_length_9d52b
set_option maxRecDepth 20000 in
theorem ggJ2_checkBoundsBeginEnd_d044e_J0_checkBoundsBeginEnd_23922 : GoodIn wsJ2_checkBoundsBeginEnd_d044e wsJ0_checkBoundsBeginEnd_23922 := goodIn_r _ [8, 9, 10, 11, 12, 13] (by decide +kernel) (by decide +kernel)
set_option maxRecDepth 20000 in
theorem gJ2_checkBoundsBeginEnd_d044e_J0_checkBoundsBeginEnd_23922 : GoodIn wsJ2_checkBoundsBeginEnd_d044e (va_wsS RJ2 241 yJ0_checkBoundsBeginEnd_23922 wsJ0_checkBoundsBeginEnd_23922) := goodIn_app (goodIn_of _ (by decide +kernel)) ggJ2_checkBoundsBeginEnd_d044e_J0_checkBoundsBeginEnd_23922
theorem dJ2_checkBoundsBeginEnd_d044e_0 : decode cJ2_checkBoundsBeginEnd_d044e 0 = .ok (.iload_n 0, 1) := by decide +kernel
theorem dJ2_checkBoundsBeginEnd_d044e_1 : decode cJ2_checkBoundsBeginEnd_d044e 1 = .ok (.iload_n 1, 1) := by decide +kernel
theorem dJ2_checkBoundsBeginEnd_d044e_2 : decode cJ2_checkBoundsBeginEnd_d044e 2 = .ok (.aload_n 2, 1) := by decide +kernel
theorem dJ2_checkBoundsBeginEnd_d044e_3 : decode cJ2_checkBoundsBeginEnd_d044e 3 = .ok (.invokestatic 48, 3) := by decide +kernel
theorem dJ2_checkBoundsBeginEnd_d044e_6 : decode cJ2_checkBoundsBeginEnd_d044e 6 = .ok (.invokestatic 241, 3) := by decide +kernel
theorem dJ2_checkBoundsBeginEnd_d044e_9 : decode cJ2_checkBoundsBeginEnd_d044e 9 = .ok (.return_, 1) := by decide +kernel
theorem dJ3_checkIndex_8e157_0 : decode cJ3_checkIndex_8e157 0 = .ok (.iload_n 0, 1) := by decide +kernel
theorem dJ3_checkIndex_8e157_1 : decode cJ3_checkIndex_8e157 1 = .ok (.ifCond .lt 8, 3) := by decide +kernel
theorem dJ3_checkIndex_8e157_4 : decode cJ3_checkIndex_8e157 4 = .ok (.iload_n 0, 1) := by decide +kernel
theorem dJ3_checkIndex_8e157_5 : decode cJ3_checkIndex_8e157 5 = .ok (.iload_n 1, 1) := by decide +kernel
theorem dJ3_checkIndex_8e157_6 : decode cJ3_checkIndex_8e157 6 = .ok (.if_icmp .lt 10, 3) := by decide +kernel
theorem dJ3_checkIndex_8e157_9 : decode cJ3_checkIndex_8e157 9 = .ok (.aload_n 2, 1) := by decide +kernel
theorem dJ3_checkIndex_8e157_10 : decode cJ3_checkIndex_8e157 10 = .ok (.iload_n 0, 1) := by decide +kernel
theorem dJ3_checkIndex_8e157_11 : decode cJ3_checkIndex_8e157 11 = .ok (.iload_n 1, 1) := by decide +kernel
theorem dJ3_checkIndex_8e157_12 : decode cJ3_checkIndex_8e157 12 = .ok (.invokestatic 95, 3) := by decide +kernel
theorem dJ3_checkIndex_8e157_15 : decode cJ3_checkIndex_8e157 15 = .ok (.athrow, 1) := by decide +kernel
theorem dJ3_checkIndex_8e157_16 : decode cJ3_checkIndex_8e157 16 = .ok (.iload_n 0, 1) := by decide +kernel
theorem dJ3_checkIndex_8e157_17 : decode cJ3_checkIndex_8e157 17 = .ok (.ireturn, 1) := by decide +kernel
theorem dJ3_checkFromToIndex_8c36e_0 : decode cJ3_checkFromToIndex_8c36e 0 = .ok (.iload_n 0, 1) := by decide +kernel
theorem dJ3_checkFromToIndex_8c36e_1 : decode cJ3_checkFromToIndex_8c36e 1 = .ok (.ifCond .lt 13, 3) := by decide +kernel
theorem dJ3_checkFromToIndex_8c36e_4 : decode cJ3_checkFromToIndex_8c36e 4 = .ok (.iload_n 0, 1) := by decide +kernel
theorem dJ3_checkFromToIndex_8c36e_5 : decode cJ3_checkFromToIndex_8c36e 5 = .ok (.iload_n 1, 1) := by decide +kernel
theorem dJ3_checkFromToIndex_8c36e_6 : decode cJ3_checkFromToIndex_8c36e 6 = .ok (.if_icmp .gt 8, 3) := by decide +kernel
theorem dJ3_checkFromToIndex_8c36e_9 : decode cJ3_checkFromToIndex_8c36e 9 = .ok (.iload_n 1, 1) := by decide +kernel
theorem dJ3_checkFromToIndex_8c36e_10 : decode cJ3_checkFromToIndex_8c36e 10 = .ok (.iload_n 2, 1) := by decide +kernel
theorem dJ3_checkFromToIndex_8c36e_11 : decode cJ3_checkFromToIndex_8c36e 11 = .ok (.if_icmp .le 11, 3) := by decide +kernel
theorem dJ3_checkFromToIndex_8c36e_14 : decode cJ3_checkFromToIndex_8c36e 14 = .ok (.aload_n 3, 1) := by decide +kernel
theorem dJ3_checkFromToIndex_8c36e_15 : decode cJ3_checkFromToIndex_8c36e 15 = .ok (.iload_n 0, 1) := by decide +kernel
theorem dJ3_checkFromToIndex_8c36e_16 : decode cJ3_checkFromToIndex_8c36e 16 = .ok (.iload_n 1, 1) := by decide +kernel
theorem dJ3_checkFromToIndex_8c36e_17 : decode cJ3_checkFromToIndex_8c36e 17 = .ok (.iload_n 2, 1) := by decide +kernel
theorem dJ3_checkFromToIndex_8c36e_18 : decode cJ3_checkFromToIndex_8c36e 18 = .ok (.invokestatic 99, 3) := by decide +kernel
theorem dJ3_checkFromToIndex_8c36e_21 : decode cJ3_checkFromToIndex_8c36e 21 = .ok (.athrow, 1) := by decide +kernel
theorem dJ3_checkFromToIndex_8c36e_22 : decode cJ3_checkFromToIndex_8c36e 22 = .ok (.iload_n 0, 1) := by decide +kernel
theorem dJ3_checkFromToIndex_8c36e_23 : decode cJ3_checkFromToIndex_8c36e 23 = .ok (.ireturn, 1) := by decide +kernel
set_option maxRecDepth 20000 in
theorem ggL_law_X11_init : GoodIn wsL_law wsX11_init := goodIn_r _ [8, 9, 10, 11, 12, 13, 14, 15, 16, 17, 18, 19, 20, 21, 22, 23, 24, 25, 26, 27, 28, 29, 30, 31, 32, 33, 34, 35, 36, 37, 38, 39, 40, 41, 42, 43, 44, 45, 46, 47, 48, 49, 50, 51, 52, 53, 54, 55, 56, 57, 58, 59, 60, 61, 62, 63, 64, 65, 66, 67, 68, 69, 70, 71, 72, 73, 74, 75, 76, 77, 78, 79, 80, 81, 82, 83, 84, 85, 86, 87, 88, 89, 90, 91, 92, 93, 94, 95, 96, 97, 98, 99, 100, 101, 102, 103, 104, 105, 106, 107, 108, 109, 110, 111, 112, 113, 114, 115, 116, 117, 118, 119, 120, 121, 122, 123, 124, 125, 126, 127, 128, 129, 130, 131, 132, 133, 134, 135, 136, 137, 138, 139, 140, 141, 142, 143, 144, 145, 146, 147, 148, 149, 150, 151, 152, 153, 154, 155, 156, 157, 158, 159, 160, 161, 162, 163, 164, 165, 166, 167, 168, 169, 170, 171, 172, 173, 174, 175, 176, 2, 177, 178, 179, 180, 181, 182, 183, 184, 185, 186, 187, 188, 189, 190, 191, 192, 193, 194, 195, 196, 197, 198, 199, 200, 201, 202, 203, 204, 205, 206, 207, 208, 209, 210, 211, 212, 213, 214, 215, 216, 217, 218, 219, 220, 221, 222, 223, 224, 225, 226, 227, 228, 229, 230, 231, 232, 233, 234, 235, 236, 237, 238, 239, 240, 241, 242, 243, 244, 245, 246, 247, 248, 249, 250, 251, 252, 253, 254, 255, 256, 257, 258, 259, 260, 261, 262, 263, 264, 265, 266, 267, 268, 269, 270, 271, 272, 273, 274, 275, 276, 277, 278, 279, 280, 281, 282, 283, 284, 285, 286, 287, 288, 289, 290, 291, 292, 293, 294, 295, 296, 297, 298, 299, 300, 301, 302, 303, 304, 305, 306, 307, 308, 309, 310, 311, 312, 313, 314, 315, 316, 317, 318, 319, 320, 321, 322, 323, 324, 325, 326, 327, 328, 329, 330, 331, 1229, 1230, 1231, 1232, 1233, 1234, 1235, 1236, 1184, 1185, 1186, 1187, 1188, 1189, 1190, 1191, 1192, 1193, 1194, 1237, 1238, 1239, 1240, 1241, 1242, 1243, 1244, 1245, 1246, 1247, 1248, 1249, 1250, 1251, 1252, 1253, 1254, 1255, 1256, 1257, 1258, 1259, 1260, 1261, 1262, 1263, 1264] (by decide +kernel) (by decide +kernel)
