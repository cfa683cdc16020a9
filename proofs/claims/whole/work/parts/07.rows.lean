theorem dX12_eatsOf_62 : decode cX12_eatsOf 62 = .ok (.idiv, 1) := by decide +kernel
theorem dX12_eatsOf_63 : decode cX12_eatsOf 63 = .ok (.iadd, 1) := by decide +kernel
theorem dX12_eatsOf_64 : decode cX12_eatsOf 64 = .ok (.goto 42, 3) := by decide +kernel
theorem dX12_eatsOf_67 : decode cX12_eatsOf 67 = .ok (.iload_n 2, 1) := by decide +kernel
theorem dX12_eatsOf_68 : decode cX12_eatsOf 68 = .ok (.iconst 2, 1) := by decide +kernel
theorem dX12_eatsOf_69 : decode cX12_eatsOf 69 = .ok (.if_icmp .eq 8, 3) := by decide +kernel
theorem dX12_eatsOf_72 : decode cX12_eatsOf 72 = .ok (.iload_n 2, 1) := by decide +kernel
theorem dX12_eatsOf_73 : decode cX12_eatsOf 73 = .ok (.iconst 4, 1) := by decide +kernel
theorem dX12_eatsOf_74 : decode cX12_eatsOf 74 = .ok (.if_icmp .ne 17, 3) := by decide +kernel
theorem dX12_eatsOf_77 : decode cX12_eatsOf 77 = .ok (.iload_n 3, 1) := by decide +kernel
theorem dX12_eatsOf_78 : decode cX12_eatsOf 78 = .ok (.iconst 0, 1) := by decide +kernel
theorem dX12_eatsOf_79 : decode cX12_eatsOf 79 = .ok (.aload_n 0, 1) := by decide +kernel
theorem dX12_eatsOf_80 : decode cX12_eatsOf 80 = .ok (.getfield 23, 3) := by decide +kernel
theorem dX12_eatsOf_83 : decode cX12_eatsOf 83 = .ok (.iconst 1, 1) := by decide +kernel
theorem dX12_eatsOf_84 : decode cX12_eatsOf 84 = .ok (.iaload, 1) := by decide +kernel
theorem dX12_eatsOf_85 : decode cX12_eatsOf 85 = .ok (.invokestatic 326, 3) := by decide +kernel
theorem dX12_eatsOf_88 : decode cX12_eatsOf 88 = .ok (.goto 18, 3) := by decide +kernel
theorem dX12_eatsOf_91 : decode cX12_eatsOf 91 = .ok (.iload_n 2, 1) := by decide +kernel
theorem dX12_eatsOf_92 : decode cX12_eatsOf 92 = .ok (.iconst 5, 1) := by decide +kernel
theorem dX12_eatsOf_93 : decode cX12_eatsOf 93 = .ok (.if_icmp .ne 12, 3) := by decide +kernel
theorem dX12_eatsOf_96 : decode cX12_eatsOf 96 = .ok (.iload_n 3, 1) := by decide +kernel
theorem dX12_eatsOf_97 : decode cX12_eatsOf 97 = .ok (.iconst 0, 1) := by decide +kernel
theorem dX12_eatsOf_98 : decode cX12_eatsOf 98 = .ok (.iconst 1, 1) := by decide +kernel
theorem dX12_eatsOf_99 : decode cX12_eatsOf 99 = .ok (.invokestatic 326, 3) := by decide +kernel
theorem dX12_eatsOf_102 : decode cX12_eatsOf 102 = .ok (.goto 4, 3) := by decide +kernel
theorem dX12_eatsOf_105 : decode cX12_eatsOf 105 = .ok (.iload_n 3, 1) := by decide +kernel
theorem dX12_eatsOf_106 : decode cX12_eatsOf 106 = .ok (.istore 4, 2) := by decide +kernel
theorem dX12_eatsOf_108 : decode cX12_eatsOf 108 = .ok (.iload 4, 2) := by decide +kernel
theorem dX12_eatsOf_110 : decode cX12_eatsOf 110 = .ok (.iconst 0, 1) := by decide +kernel
theorem dX12_eatsOf_111 : decode cX12_eatsOf 111 = .ok (.bipush 99, 2) := by decide +kernel
theorem dX12_eatsOf_113 : decode cX12_eatsOf 113 = .ok (.invokestatic 326, 3) := by decide +kernel
theorem dX12_eatsOf_116 : decode cX12_eatsOf 116 = .ok (.ireturn, 1) := by decide +kernel
set_option maxRecDepth 20000 in
theorem ggX12_triesOf_X12_asks : GoodIn wsX12_triesOf wsX12_asks := goodIn_r _ [8, 3, 9, 10, 11, 2, 12, 13, 14, 15, 16, 17, 18, 7, 19, 20, 21, 22, 23, 24, 25, 26, 27, 28, 29, 30, 31, 32, 33, 34, 35, 36, 37, 38, 39, 40, 41, 42, 43, 44, 45, 46, 47, 48, 49, 50, 51, 52, 53, 54, 55, 56, 57, 58, 59, 60, 61, 62, 63, 64, 65, 66, 67, 68, 69, 70, 71, 72, 73, 74, 75, 76, 77, 78, 79, 80, 81, 82, 83, 84, 85, 86, 87, 88, 89, 90, 91, 92, 93, 94, 95, 96, 97, 98, 99, 100, 101, 102, 103, 104, 105, 106, 107, 108, 109, 110, 111, 112, 113, 114, 115, 116, 117, 118, 119, 120, 121, 122, 123, 124, 125, 126, 127, 128, 129, 130, 131, 132, 133, 134, 135, 136, 137, 138, 139, 140, 141, 142, 143, 144, 145, 146, 147, 148, 149, 150, 151, 152, 153, 154, 155, 156, 157, 158, 159, 160, 161, 162, 163, 164, 165, 166, 167, 168, 169, 170, 171, 172, 173, 174, 175, 176, 177, 178, 179, 180, 181, 182, 183, 184, 185, 186, 187, 188, 189, 190, 191, 192, 193, 194, 195, 196, 197, 198, 199, 200, 201, 202, 203, 204, 205, 206, 207, 208, 209, 210, 211, 212, 213, 214, 215, 216, 217, 218, 219, 220, 221, 222, 223, 224, 225, 226, 227, 228, 229, 230, 231, 232, 233, 234, 235, 236, 237, 238, 239, 240, 241, 242, 243, 244, 245, 246, 247, 248, 249, 250, 251, 252, 253, 254, 255, 256, 257] (by decide +kernel) (by decide +kernel)
set_option maxRecDepth 20000 in
theorem gX12_triesOf_X12_asks : GoodIn wsX12_triesOf (wsV RX12 330 RX12 yX12_asks wsX12_asks) := goodIn_app (goodIn_of _ (by decide +kernel)) ggX12_triesOf_X12_asks
set_option maxRecDepth 20000 in
theorem ggX12_triesOf_X12_within : GoodIn wsX12_triesOf wsX12_within := goodIn_r _ [223] (by decide +kernel) (by decide +kernel)
set_option maxRecDepth 20000 in
theorem gX12_triesOf_X12_within : GoodIn wsX12_triesOf (va_wsS RX12 326 yX12_within wsX12_within) := goodIn_app (goodIn_of _ (by decide +kernel)) ggX12_triesOf_X12_within
theorem dX12_triesOf_0 : decode cX12_triesOf 0 = .ok (.aload_n 0, 1) := by decide +kernel
theorem dX12_triesOf_1 : decode cX12_triesOf 1 = .ok (.getfield 26, 3) := by decide +kernel
theorem dX12_triesOf_4 : decode cX12_triesOf 4 = .ok (.iload_n 1, 1) := by decide +kernel
theorem dX12_triesOf_5 : decode cX12_triesOf 5 = .ok (.iaload, 1) := by decide +kernel
theorem dX12_triesOf_6 : decode cX12_triesOf 6 = .ok (.istore_n 2, 1) := by decide +kernel
theorem dX12_triesOf_7 : decode cX12_triesOf 7 = .ok (.iload_n 2, 1) := by decide +kernel
theorem dX12_triesOf_8 : decode cX12_triesOf 8 = .ok (.iconst 1, 1) := by decide +kernel
theorem dX12_triesOf_9 : decode cX12_triesOf 9 = .ok (.if_icmp .eq 23, 3) := by decide +kernel
theorem dX12_triesOf_12 : decode cX12_triesOf 12 = .ok (.iload_n 2, 1) := by decide +kernel
theorem dX12_triesOf_13 : decode cX12_triesOf 13 = .ok (.iconst 4, 1) := by decide +kernel
theorem dX12_triesOf_14 : decode cX12_triesOf 14 = .ok (.if_icmp .eq 18, 3) := by decide +kernel
theorem dX12_triesOf_17 : decode cX12_triesOf 17 = .ok (.iload_n 2, 1) := by decide +kernel
theorem dX12_triesOf_18 : decode cX12_triesOf 18 = .ok (.iconst 5, 1) := by decide +kernel
theorem dX12_triesOf_19 : decode cX12_triesOf 19 = .ok (.if_icmp .ne 24, 3) := by decide +kernel
theorem dX12_triesOf_22 : decode cX12_triesOf 22 = .ok (.aload_n 0, 1) := by decide +kernel
theorem dX12_triesOf_23 : decode cX12_triesOf 23 = .ok (.getfield 23, 3) := by decide +kernel
theorem dX12_triesOf_26 : decode cX12_triesOf 26 = .ok (.iconst 1, 1) := by decide +kernel
theorem dX12_triesOf_27 : decode cX12_triesOf 27 = .ok (.iaload, 1) := by decide +kernel
theorem dX12_triesOf_28 : decode cX12_triesOf 28 = .ok (.iconst 3, 1) := by decide +kernel
theorem dX12_triesOf_29 : decode cX12_triesOf 29 = .ok (.if_icmp .le 14, 3) := by decide +kernel
theorem dX12_triesOf_32 : decode cX12_triesOf 32 = .ok (.iload_n 2, 1) := by decide +kernel
theorem dX12_triesOf_33 : decode cX12_triesOf 33 = .ok (.iconst 5, 1) := by decide +kernel
theorem dX12_triesOf_34 : decode cX12_triesOf 34 = .ok (.if_icmp .ne 7, 3) := by decide +kernel
theorem dX12_triesOf_37 : decode cX12_triesOf 37 = .ok (.iconst 1, 1) := by decide +kernel
theorem dX12_triesOf_38 : decode cX12_triesOf 38 = .ok (.goto 4, 3) := by decide +kernel
theorem dX12_triesOf_41 : decode cX12_triesOf 41 = .ok (.iconst 0, 1) := by decide +kernel
theorem dX12_triesOf_42 : decode cX12_triesOf 42 = .ok (.ireturn, 1) := by decide +kernel
theorem dX12_triesOf_43 : decode cX12_triesOf 43 = .ok (.aload_n 0, 1) := by decide +kernel
theorem dX12_triesOf_44 : decode cX12_triesOf 44 = .ok (.iconst 1, 1) := by decide +kernel
theorem dX12_triesOf_45 : decode cX12_triesOf 45 = .ok (.iload_n 1, 1) := by decide +kernel
theorem dX12_triesOf_46 : decode cX12_triesOf 46 = .ok (.invokevirtual 330, 3) := by decide +kernel
theorem dX12_triesOf_49 : decode cX12_triesOf 49 = .ok (.istore_n 3, 1) := by decide +kernel
theorem dX12_triesOf_50 : decode cX12_triesOf 50 = .ok (.iload_n 2, 1) := by decide +kernel
theorem dX12_triesOf_51 : decode cX12_triesOf 51 = .ok (.iconst 2, 1) := by decide +kernel
theorem dX12_triesOf_52 : decode cX12_triesOf 52 = .ok (.if_icmp .ne 9, 3) := by decide +kernel
theorem dX12_triesOf_55 : decode cX12_triesOf 55 = .ok (.iconst 2, 1) := by decide +kernel
theorem dX12_triesOf_56 : decode cX12_triesOf 56 = .ok (.iload_n 3, 1) := by decide +kernel
theorem dX12_triesOf_57 : decode cX12_triesOf 57 = .ok (.imul, 1) := by decide +kernel
theorem dX12_triesOf_58 : decode cX12_triesOf 58 = .ok (.goto 22, 3) := by decide +kernel
theorem dX12_triesOf_61 : decode cX12_triesOf 61 = .ok (.iload_n 2, 1) := by decide +kernel
theorem dX12_triesOf_62 : decode cX12_triesOf 62 = .ok (.iconst 3, 1) := by decide +kernel
theorem dX12_triesOf_63 : decode cX12_triesOf 63 = .ok (.if_icmp .ne 16, 3) := by decide +kernel
theorem dX12_triesOf_66 : decode cX12_triesOf 66 = .ok (.iload_n 3, 1) := by decide +kernel
theorem dX12_triesOf_67 : decode cX12_triesOf 67 = .ok (.aload_n 0, 1) := by decide +kernel
theorem dX12_triesOf_68 : decode cX12_triesOf 68 = .ok (.getfield 29, 3) := by decide +kernel
theorem dX12_triesOf_71 : decode cX12_triesOf 71 = .ok (.iconst 4, 1) := by decide +kernel
theorem dX12_triesOf_72 : decode cX12_triesOf 72 = .ok (.iload_n 1, 1) := by decide +kernel
theorem dX12_triesOf_73 : decode cX12_triesOf 73 = .ok (.imul, 1) := by decide +kernel
theorem dX12_triesOf_74 : decode cX12_triesOf 74 = .ok (.iaload, 1) := by decide +kernel
theorem dX12_triesOf_75 : decode cX12_triesOf 75 = .ok (.iadd, 1) := by decide +kernel
theorem dX12_triesOf_76 : decode cX12_triesOf 76 = .ok (.goto 4, 3) := by decide +kernel
theorem dX12_triesOf_79 : decode cX12_triesOf 79 = .ok (.iload_n 3, 1) := by decide +kernel
theorem dX12_triesOf_80 : decode cX12_triesOf 80 = .ok (.iconst 0, 1) := by decide +kernel
theorem dX12_triesOf_81 : decode cX12_triesOf 81 = .ok (.bipush 99, 2) := by decide +kernel
theorem dX12_triesOf_83 : decode cX12_triesOf 83 = .ok (.invokestatic 326, 3) := by decide +kernel
theorem dX12_triesOf_86 : decode cX12_triesOf 86 = .ok (.ireturn, 1) := by decide +kernel
set_option maxRecDepth 20000 in
theorem ggX12_spendsOf_X12_asks : GoodIn wsX12_spendsOf wsX12_asks := goodIn_r _ [7, 2, 8, 9, 10, 11, 12, 13, 14, 15, 16, 17, 18, 6, 19, 20, 21, 22, 23, 24, 25, 26, 27, 28, 29, 30, 31, 32, 33, 34, 35, 36, 37, 38, 39, 40, 41, 42, 43, 44, 45, 46, 47, 48, 49, 50, 51, 52, 53, 54, 55, 56, 57, 58, 59, 60, 61, 62, 63, 64, 65, 66, 67, 68, 69, 70, 71, 72, 73, 74, 75, 76, 77, 78, 79, 80, 81, 82, 83, 84, 85, 86, 87, 88, 89, 90, 91, 92, 93, 94, 95, 96, 97, 98, 99, 100, 101, 102, 103, 104, 105, 106, 107, 108, 109, 110, 111, 112, 113, 114, 115, 116, 117, 118, 119, 120, 121, 122, 123, 124, 125, 126, 127, 128, 129, 130, 131, 132, 133, 134, 135, 136, 137, 138, 139, 140, 141, 142, 143, 144, 145, 146, 147, 148, 149, 150, 151, 152, 153, 154, 155, 156, 157, 158, 159, 160, 161, 162, 163, 164, 165, 166, 167, 168, 169, 170, 171, 172, 173, 174, 175, 176, 177, 178, 179, 180, 181, 182, 183, 184, 185, 186, 187, 188, 189, 190, 191, 192, 193, 194, 195, 196, 197, 198, 199, 200, 201, 202, 203, 204, 205, 206, 207, 208, 209, 210, 211, 212, 213, 214, 215, 216, 217, 218, 219, 220, 221, 222, 223, 224, 225, 226, 227, 228, 229, 230, 231, 232, 233, 234, 235, 236, 237, 238, 239, 240, 241, 242, 243, 244, 245, 246, 247, 248, 249, 250, 251, 252, 253, 254, 255, 256, 257] (by decide +kernel) (by decide +kernel)
set_option maxRecDepth 20000 in
theorem gX12_spendsOf_X12_asks : GoodIn wsX12_spendsOf (wsV RX12 330 RX12 yX12_asks wsX12_asks) := goodIn_app (goodIn_of _ (by decide +kernel)) ggX12_spendsOf_X12_asks
set_option maxRecDepth 20000 in
theorem ggX12_spendsOf_X12_within : GoodIn wsX12_spendsOf wsX12_within := goodIn_r _ [223] (by decide +kernel) (by decide +kernel)
set_option maxRecDepth 20000 in
theorem gX12_spendsOf_X12_within : GoodIn wsX12_spendsOf (va_wsS RX12 326 yX12_within wsX12_within) := goodIn_app (goodIn_of _ (by decide +kernel)) ggX12_spendsOf_X12_within
theorem dX12_spendsOf_0 : decode cX12_spendsOf 0 = .ok (.aload_n 0, 1) := by decide +kernel
theorem dX12_spendsOf_1 : decode cX12_spendsOf 1 = .ok (.getfield 26, 3) := by decide +kernel
theorem dX12_spendsOf_4 : decode cX12_spendsOf 4 = .ok (.iload_n 1, 1) := by decide +kernel
theorem dX12_spendsOf_5 : decode cX12_spendsOf 5 = .ok (.iaload, 1) := by decide +kernel
theorem dX12_spendsOf_6 : decode cX12_spendsOf 6 = .ok (.istore_n 2, 1) := by decide +kernel
theorem dX12_spendsOf_7 : decode cX12_spendsOf 7 = .ok (.iload_n 2, 1) := by decide +kernel
theorem dX12_spendsOf_8 : decode cX12_spendsOf 8 = .ok (.iconst 1, 1) := by decide +kernel
theorem dX12_spendsOf_9 : decode cX12_spendsOf 9 = .ok (.if_icmp .eq 8, 3) := by decide +kernel
theorem dX12_spendsOf_12 : decode cX12_spendsOf 12 = .ok (.iload_n 2, 1) := by decide +kernel
theorem dX12_spendsOf_13 : decode cX12_spendsOf 13 = .ok (.iconst 3, 1) := by decide +kernel
theorem dX12_spendsOf_14 : decode cX12_spendsOf 14 = .ok (.if_icmp .ne 14, 3) := by decide +kernel
theorem dX12_spendsOf_17 : decode cX12_spendsOf 17 = .ok (.iload_n 2, 1) := by decide +kernel
theorem dX12_spendsOf_18 : decode cX12_spendsOf 18 = .ok (.iconst 1, 1) := by decide +kernel
theorem dX12_spendsOf_19 : decode cX12_spendsOf 19 = .ok (.if_icmp .ne 7, 3) := by decide +kernel
theorem dX12_spendsOf_22 : decode cX12_spendsOf 22 = .ok (.iconst 0, 1) := by decide +kernel
theorem dX12_spendsOf_23 : decode cX12_spendsOf 23 = .ok (.goto 4, 3) := by decide +kernel
theorem dX12_spendsOf_26 : decode cX12_spendsOf 26 = .ok (.iconst 3, 1) := by decide +kernel
theorem dX12_spendsOf_27 : decode cX12_spendsOf 27 = .ok (.ireturn, 1) := by decide +kernel
theorem dX12_spendsOf_28 : decode cX12_spendsOf 28 = .ok (.aload_n 0, 1) := by decide +kernel
theorem dX12_spendsOf_29 : decode cX12_spendsOf 29 = .ok (.iconst 2, 1) := by decide +kernel
theorem dX12_spendsOf_30 : decode cX12_spendsOf 30 = .ok (.iload_n 1, 1) := by decide +kernel
theorem dX12_spendsOf_31 : decode cX12_spendsOf 31 = .ok (.invokevirtual 330, 3) := by decide +kernel
theorem dX12_spendsOf_34 : decode cX12_spendsOf 34 = .ok (.istore_n 3, 1) := by decide +kernel
theorem dX12_spendsOf_35 : decode cX12_spendsOf 35 = .ok (.iload_n 2, 1) := by decide +kernel
theorem dX12_spendsOf_36 : decode cX12_spendsOf 36 = .ok (.iconst 2, 1) := by decide +kernel
theorem dX12_spendsOf_37 : decode cX12_spendsOf 37 = .ok (.if_icmp .eq 8, 3) := by decide +kernel
theorem dX12_spendsOf_40 : decode cX12_spendsOf 40 = .ok (.iload_n 2, 1) := by decide +kernel
theorem dX12_spendsOf_41 : decode cX12_spendsOf 41 = .ok (.iconst 4, 1) := by decide +kernel
theorem dX12_spendsOf_42 : decode cX12_spendsOf 42 = .ok (.if_icmp .ne 9, 3) := by decide +kernel
theorem dX12_spendsOf_45 : decode cX12_spendsOf 45 = .ok (.iload_n 3, 1) := by decide +kernel
theorem dX12_spendsOf_46 : decode cX12_spendsOf 46 = .ok (.iconst 2, 1) := by decide +kernel
theorem dX12_spendsOf_47 : decode cX12_spendsOf 47 = .ok (.idiv, 1) := by decide +kernel
theorem dX12_spendsOf_48 : decode cX12_spendsOf 48 = .ok (.goto 25, 3) := by decide +kernel
theorem dX12_spendsOf_51 : decode cX12_spendsOf 51 = .ok (.iload_n 2, 1) := by decide +kernel
theorem dX12_spendsOf_52 : decode cX12_spendsOf 52 = .ok (.iconst 5, 1) := by decide +kernel
theorem dX12_spendsOf_53 : decode cX12_spendsOf 53 = .ok (.if_icmp .ne 19, 3) := by decide +kernel
theorem dX12_spendsOf_56 : decode cX12_spendsOf 56 = .ok (.iload_n 3, 1) := by decide +kernel
theorem dX12_spendsOf_57 : decode cX12_spendsOf 57 = .ok (.bipush 10, 2) := by decide +kernel
theorem dX12_spendsOf_59 : decode cX12_spendsOf 59 = .ok (.aload_n 0, 1) := by decide +kernel
theorem dX12_spendsOf_60 : decode cX12_spendsOf 60 = .ok (.getfield 29, 3) := by decide +kernel
theorem dX12_spendsOf_63 : decode cX12_spendsOf 63 = .ok (.iconst 4, 1) := by decide +kernel
theorem dX12_spendsOf_64 : decode cX12_spendsOf 64 = .ok (.iload_n 1, 1) := by decide +kernel
theorem dX12_spendsOf_65 : decode cX12_spendsOf 65 = .ok (.imul, 1) := by decide +kernel
theorem dX12_spendsOf_66 : decode cX12_spendsOf 66 = .ok (.iaload, 1) := by decide +kernel
theorem dX12_spendsOf_67 : decode cX12_spendsOf 67 = .ok (.imul, 1) := by decide +kernel
theorem dX12_spendsOf_68 : decode cX12_spendsOf 68 = .ok (.iadd, 1) := by decide +kernel
theorem dX12_spendsOf_69 : decode cX12_spendsOf 69 = .ok (.goto 4, 3) := by decide +kernel
theorem dX12_spendsOf_72 : decode cX12_spendsOf 72 = .ok (.iload_n 3, 1) := by decide +kernel
theorem dX12_spendsOf_73 : decode cX12_spendsOf 73 = .ok (.iconst 0, 1) := by decide +kernel
theorem dX12_spendsOf_74 : decode cX12_spendsOf 74 = .ok (.sipush 999, 3) := by decide +kernel
theorem dX12_spendsOf_77 : decode cX12_spendsOf 77 = .ok (.invokestatic 326, 3) := by decide +kernel
theorem dX12_spendsOf_80 : decode cX12_spendsOf 80 = .ok (.ireturn, 1) := by decide +kernel
theorem dX12_isThereNow_0 : decode cX12_isThereNow 0 = .ok (.aload_n 0, 1) := by decide +kernel
theorem dX12_isThereNow_1 : decode cX12_isThereNow 1 = .ok (.getfield 23, 3) := by decide +kernel
theorem dX12_isThereNow_4 : decode cX12_isThereNow 4 = .ok (.iconst 3, 1) := by decide +kernel
theorem dX12_isThereNow_5 : decode cX12_isThereNow 5 = .ok (.iaload, 1) := by decide +kernel
theorem dX12_isThereNow_6 : decode cX12_isThereNow 6 = .ok (.aload_n 0, 1) := by decide +kernel
theorem dX12_isThereNow_7 : decode cX12_isThereNow 7 = .ok (.getfield 29, 3) := by decide +kernel
theorem dX12_isThereNow_10 : decode cX12_isThereNow 10 = .ok (.iconst 4, 1) := by decide +kernel
theorem dX12_isThereNow_11 : decode cX12_isThereNow 11 = .ok (.iload_n 1, 1) := by decide +kernel
theorem dX12_isThereNow_12 : decode cX12_isThereNow 12 = .ok (.imul, 1) := by decide +kernel
theorem dX12_isThereNow_13 : decode cX12_isThereNow 13 = .ok (.iconst 1, 1) := by decide +kernel
theorem dX12_isThereNow_14 : decode cX12_isThereNow 14 = .ok (.iadd, 1) := by decide +kernel
theorem dX12_isThereNow_15 : decode cX12_isThereNow 15 = .ok (.iaload, 1) := by decide +kernel
theorem dX12_isThereNow_16 : decode cX12_isThereNow 16 = .ok (.ishr, 1) := by decide +kernel
theorem dX12_isThereNow_17 : decode cX12_isThereNow 17 = .ok (.iconst 1, 1) := by decide +kernel
theorem dX12_isThereNow_18 : decode cX12_isThereNow 18 = .ok (.iand, 1) := by decide +kernel
theorem dX12_isThereNow_19 : decode cX12_isThereNow 19 = .ok (.iconst 1, 1) := by decide +kernel
theorem dX12_isThereNow_20 : decode cX12_isThereNow 20 = .ok (.if_icmp .ne 7, 3) := by decide +kernel
theorem dX12_isThereNow_23 : decode cX12_isThereNow 23 = .ok (.iconst 1, 1) := by decide +kernel
theorem dX12_isThereNow_24 : decode cX12_isThereNow 24 = .ok (.goto 4, 3) := by decide +kernel
theorem dX12_isThereNow_27 : decode cX12_isThereNow 27 = .ok (.iconst 0, 1) := by decide +kernel
theorem dX12_isThereNow_28 : decode cX12_isThereNow 28 = .ok (.ireturn, 1) := by decide +kernel
set_option maxRecDepth 20000 in
theorem ggX12_costOf_X12_isThereNow : GoodIn wsX12_costOf wsX12_isThereNow := goodIn_r _ [6, 1, 7, 232, 233, 234, 235, 236, 237, 238, 239, 240, 241, 242, 243, 244, 245, 246, 247, 248, 249, 250, 251, 252, 253, 254, 255, 256, 257, 258, 259, 260, 261, 262, 263, 264, 265] (by decide +kernel) (by decide +kernel)
set_option maxRecDepth 20000 in
theorem gX12_costOf_X12_isThereNow : GoodIn wsX12_costOf (wsV RX12 108 RX12 yX12_isThereNow wsX12_isThereNow) := goodIn_app (goodIn_of _ (by decide +kernel)) ggX12_costOf_X12_isThereNow
set_option maxRecDepth 20000 in
theorem ggX12_costOf_X12_eatsOf : GoodIn wsX12_costOf wsX12_eatsOf := goodIn_r _ [11, 12, 1, 7, 13, 14, 15, 5, 16, 17, 18, 19, 20, 21, 22, 23, 24, 25, 26, 27, 28, 29, 30, 31, 32, 33, 34, 35, 36, 37, 38, 39, 40, 41, 42, 43, 44, 45, 46, 47, 48, 49, 50, 51, 52, 53, 54, 55, 56, 57, 58, 59, 60, 61, 62, 63, 64, 65, 66, 67, 68, 69, 70, 71, 72, 73, 74, 75, 76, 77, 78, 79, 80, 81, 82, 83, 84, 85, 86, 87, 88, 89, 90, 91, 92, 93, 94, 95, 96, 97, 98, 99, 100, 101, 102, 103, 104, 105, 106, 107, 108, 109, 110, 111, 112, 113, 114, 115, 116, 117, 118, 119, 120, 121, 122, 123, 124, 125, 126, 127, 128, 129, 130, 131, 132, 133, 134, 135, 136, 137, 138, 139, 140, 141, 142, 143, 144, 145, 146, 147, 148, 149, 150, 151, 152, 153, 154, 155, 156, 157, 158, 159, 160, 161, 162, 163, 164, 165, 166, 167, 168, 169, 170, 171, 172, 173, 174, 175, 176, 177, 178, 179, 180, 181, 182, 183, 184, 185, 186, 187, 188, 189, 190, 191, 192, 193, 194, 195, 196, 197, 198, 199, 200, 201, 202, 203, 204, 205, 206, 207, 208, 209, 210, 211, 212, 213, 214, 215, 216, 217, 218, 219, 220, 221, 222, 223, 224, 225, 226, 227, 228, 229, 230, 231, 232, 233, 234, 235, 236, 237, 238, 239, 240, 241, 242, 243, 244, 245, 246, 247, 248, 249, 250, 251, 252, 253, 254, 255, 256, 257, 258, 259, 260, 261, 262, 263, 264, 265] (by decide +kernel) (by decide +kernel)
set_option maxRecDepth 20000 in
theorem gX12_costOf_X12_eatsOf : GoodIn wsX12_costOf (wsV RX12 99 RX12 yX12_eatsOf wsX12_eatsOf) := goodIn_app (goodIn_of _ (by decide +kernel)) ggX12_costOf_X12_eatsOf
theorem dX12_costOf_0 : decode cX12_costOf 0 = .ok (.aload_n 0, 1) := by decide +kernel
theorem dX12_costOf_1 : decode cX12_costOf 1 = .ok (.iload_n 1, 1) := by decide +kernel
theorem dX12_costOf_2 : decode cX12_costOf 2 = .ok (.invokevirtual 108, 3) := by decide +kernel
theorem dX12_costOf_5 : decode cX12_costOf 5 = .ok (.ifCond .eq 28, 3) := by decide +kernel
theorem dX12_costOf_8 : decode cX12_costOf 8 = .ok (.aload_n 0, 1) := by decide +kernel
theorem dX12_costOf_9 : decode cX12_costOf 9 = .ok (.iload_n 1, 1) := by decide +kernel
theorem dX12_costOf_10 : decode cX12_costOf 10 = .ok (.invokevirtual 99, 3) := by decide +kernel
theorem dX12_costOf_13 : decode cX12_costOf 13 = .ok (.aload_n 0, 1) := by decide +kernel
theorem dX12_costOf_14 : decode cX12_costOf 14 = .ok (.getfield 23, 3) := by decide +kernel
theorem dX12_costOf_17 : decode cX12_costOf 17 = .ok (.iconst 0, 1) := by decide +kernel
theorem dX12_costOf_18 : decode cX12_costOf 18 = .ok (.iaload, 1) := by decide +kernel
theorem dX12_costOf_19 : decode cX12_costOf 19 = .ok (.imul, 1) := by decide +kernel
theorem dX12_costOf_20 : decode cX12_costOf 20 = .ok (.aload_n 0, 1) := by decide +kernel
theorem dX12_costOf_21 : decode cX12_costOf 21 = .ok (.getfield 23, 3) := by decide +kernel
theorem dX12_costOf_24 : decode cX12_costOf 24 = .ok (.iconst 4, 1) := by decide +kernel
theorem dX12_costOf_25 : decode cX12_costOf 25 = .ok (.iaload, 1) := by decide +kernel
theorem dX12_costOf_26 : decode cX12_costOf 26 = .ok (.imul, 1) := by decide +kernel
theorem dX12_costOf_27 : decode cX12_costOf 27 = .ok (.bipush 10, 2) := by decide +kernel
theorem dX12_costOf_29 : decode cX12_costOf 29 = .ok (.idiv, 1) := by decide +kernel
theorem dX12_costOf_30 : decode cX12_costOf 30 = .ok (.goto 4, 3) := by decide +kernel
theorem dX12_costOf_33 : decode cX12_costOf 33 = .ok (.iconst 0, 1) := by decide +kernel
theorem dX12_costOf_34 : decode cX12_costOf 34 = .ok (.ireturn, 1) := by decide +kernel
set_option maxRecDepth 20000 in
theorem ggX12_gainOf_X12_isThereNow : GoodIn wsX12_gainOf wsX12_isThereNow := goodIn_r _ [5, 6, 7, 244, 245, 246, 247, 248, 249, 250, 251, 252, 253, 254, 255, 256, 257, 258, 259, 260, 261, 262, 263, 264, 265, 266, 267, 268, 269, 270, 271, 272, 273, 274, 275, 276, 277] (by decide +kernel) (by decide +kernel)
set_option maxRecDepth 20000 in
theorem gX12_gainOf_X12_isThereNow : GoodIn wsX12_gainOf (wsV RX12 108 RX12 yX12_isThereNow wsX12_isThereNow) := goodIn_app (goodIn_of _ (by decide +kernel)) ggX12_gainOf_X12_isThereNow
set_option maxRecDepth 20000 in
theorem ggX12_gainOf_X12_triesOf : GoodIn wsX12_gainOf wsX12_triesOf := goodIn_r _ [11, 12, 6, 7, 13, 14, 15, 4, 16, 17, 18, 19, 20, 21, 22, 23, 24, 25, 26, 27, 28, 29, 30, 31, 32, 33, 34, 35, 36, 37, 38, 39, 40, 41, 42, 43, 44, 45, 46, 47, 48, 49, 50, 51, 52, 53, 54, 55, 56, 57, 58, 59, 60, 61, 62, 63, 64, 65, 66, 67, 68, 69, 70, 71, 72, 73, 74, 75, 76, 77, 78, 79, 80, 81, 82, 83, 84, 85, 86, 87, 88, 89, 90, 91, 92, 93, 94, 95, 96, 97, 98, 99, 100, 101, 102, 103, 104, 105, 106, 107, 108, 109, 110, 111, 112, 113, 114, 115, 116, 117, 118, 119, 120, 121, 122, 123, 124, 125, 126, 127, 128, 129, 130, 131, 132, 133, 134, 135, 136, 137, 138, 139, 140, 141, 142, 143, 144, 145, 146, 147, 148, 149, 150, 151, 152, 153, 154, 155, 156, 157, 158, 159, 160, 161, 162, 163, 164, 165, 166, 167, 168, 169, 170, 171, 172, 173, 174, 175, 176, 177, 178, 179, 180, 181, 182, 183, 184, 185, 186, 187, 188, 189, 190, 191, 192, 193, 194, 195, 196, 197, 198, 199, 200, 201, 202, 203, 204, 205, 206, 207, 208, 209, 210, 211, 212, 213, 214, 215, 216, 217, 218, 219, 220, 221, 222, 223, 224, 225, 226, 227, 228, 229, 230, 231, 244, 245, 246, 247, 248, 249, 250, 251, 252, 253, 254, 255, 256, 257, 258, 259, 260, 261, 262, 263, 264, 265, 266, 267, 268, 269, 270, 271, 272, 273, 274, 275, 276, 277] (by decide +kernel) (by decide +kernel)
set_option maxRecDepth 20000 in
theorem gX12_gainOf_X12_triesOf : GoodIn wsX12_gainOf (wsV RX12 102 RX12 yX12_triesOf wsX12_triesOf) := goodIn_app (goodIn_of _ (by decide +kernel)) ggX12_gainOf_X12_triesOf
set_option maxRecDepth 20000 in
theorem ggX12_gainOf_X12_spendsOf : GoodIn wsX12_gainOf wsX12_spendsOf := goodIn_r _ [235, 12, 7, 13, 14, 15, 4, 16, 17, 18, 19, 6, 20, 21, 22, 23, 24, 25, 26, 27, 28, 29, 30, 31, 32, 33, 34, 35, 36, 37, 38, 39, 40, 41, 42, 43, 44, 45, 46, 47, 48, 49, 50, 51, 52, 53, 54, 55, 56, 57, 58, 59, 60, 61, 62, 63, 64, 65, 66, 67, 68, 69, 70, 71, 72, 73, 74, 75, 76, 77, 78, 79, 80, 81, 82, 83, 84, 85, 86, 87, 88, 89, 90, 91, 92, 93, 94, 95, 96, 97, 98, 99, 100, 101, 102, 103, 104, 105, 106, 107, 108, 109, 110, 111, 112, 113, 114, 115, 116, 117, 118, 119, 120, 121, 122, 123, 124, 125, 126, 127, 128, 129, 130, 131, 132, 133, 134, 135, 136, 137, 138, 139, 140, 141, 142, 143, 144, 145, 146, 147, 148, 149, 150, 151, 152, 153, 154, 155, 156, 157, 158, 159, 160, 161, 162, 163, 164, 165, 166, 167, 168, 169, 170, 171, 172, 173, 174, 175, 176, 177, 178, 179, 180, 181, 182, 183, 184, 185, 186, 187, 188, 189, 190, 191, 192, 193, 194, 195, 196, 197, 198, 199, 200, 201, 202, 203, 204, 205, 206, 207, 208, 209, 210, 211, 212, 213, 214, 215, 216, 217, 218, 219, 220, 221, 222, 223, 224, 225, 226, 227, 228, 229, 230, 231, 244, 245, 246, 247, 248, 249, 250, 251, 252, 253, 254, 255, 256, 257, 258, 259, 260, 261, 262, 263, 264, 265, 266, 267, 268, 269, 270, 271, 272, 273, 274, 275, 276, 277] (by decide +kernel) (by decide +kernel)
set_option maxRecDepth 20000 in
theorem gX12_gainOf_X12_spendsOf : GoodIn wsX12_gainOf (wsV RX12 105 RX12 yX12_spendsOf wsX12_spendsOf) := goodIn_app (goodIn_of _ (by decide +kernel)) ggX12_gainOf_X12_spendsOf
set_option maxRecDepth 20000 in
theorem ggX12_gainOf_X12_costOf : GoodIn wsX12_gainOf wsX12_costOf := goodIn_r _ [239, 6, 1, 2, 3, 4, 5, 7, 240, 241, 242, 243, 12, 13, 14, 15, 16, 17, 18, 19, 20, 21, 22, 23, 24, 25, 26, 27, 28, 29, 30, 31, 32, 33, 34, 35, 36, 37, 38, 39, 40, 41, 42, 43, 44, 45, 46, 47, 48, 49, 50, 51, 52, 53, 54, 55, 56, 57, 58, 59, 60, 61, 62, 63, 64, 65, 66, 67, 68, 69, 70, 71, 72, 73, 74, 75, 76, 77, 78, 79, 80, 81, 82, 83, 84, 85, 86, 87, 88, 89, 90, 91, 92, 93, 94, 95, 96, 97, 98, 99, 100, 101, 102, 103, 104, 105, 106, 107, 108, 109, 110, 111, 112, 113, 114, 115, 116, 117, 118, 119, 120, 121, 122, 123, 124, 125, 126, 127, 128, 129, 130, 131, 132, 133, 134, 135, 136, 137, 138, 139, 140, 141, 142, 143, 144, 145, 146, 147, 148, 149, 150, 151, 152, 153, 154, 155, 156, 157, 158, 159, 160, 161, 162, 163, 164, 165, 166, 167, 168, 169, 170, 171, 172, 173, 174, 175, 176, 177, 178, 179, 180, 181, 182, 183, 184, 185, 186, 187, 188, 189, 190, 191, 192, 193, 194, 195, 196, 197, 198, 199, 200, 201, 202, 203, 204, 205, 206, 207, 208, 209, 210, 211, 212, 213, 214, 215, 216, 217, 218, 219, 220, 221, 222, 223, 224, 225, 226, 227, 228, 229, 230, 231, 244, 245, 246, 247, 248, 249, 250, 251, 252, 253, 254, 255, 256, 257, 258, 259, 260, 261, 262, 263, 264, 265, 266, 267, 268, 269, 270, 271, 272, 273, 274, 275, 276, 277] (by decide +kernel) (by decide +kernel)
set_option maxRecDepth 20000 in
theorem gX12_gainOf_X12_costOf : GoodIn wsX12_gainOf (wsV RX12 111 RX12 yX12_costOf wsX12_costOf) := goodIn_app (goodIn_of _ (by decide +kernel)) ggX12_gainOf_X12_costOf
theorem dX12_gainOf_0 : decode cX12_gainOf 0 = .ok (.aload_n 0, 1) := by decide +kernel
theorem dX12_gainOf_1 : decode cX12_gainOf 1 = .ok (.iload_n 1, 1) := by decide +kernel
theorem dX12_gainOf_2 : decode cX12_gainOf 2 = .ok (.invokevirtual 108, 3) := by decide +kernel
theorem dX12_gainOf_5 : decode cX12_gainOf 5 = .ok (.ifCond .ne 5, 3) := by decide +kernel
theorem dX12_gainOf_8 : decode cX12_gainOf 8 = .ok (.iconst 0, 1) := by decide +kernel
theorem dX12_gainOf_9 : decode cX12_gainOf 9 = .ok (.ireturn, 1) := by decide +kernel
theorem dX12_gainOf_10 : decode cX12_gainOf 10 = .ok (.aload_n 0, 1) := by decide +kernel
theorem dX12_gainOf_11 : decode cX12_gainOf 11 = .ok (.iload_n 1, 1) := by decide +kernel
theorem dX12_gainOf_12 : decode cX12_gainOf 12 = .ok (.invokevirtual 102, 3) := by decide +kernel
theorem dX12_gainOf_15 : decode cX12_gainOf 15 = .ok (.istore_n 2, 1) := by decide +kernel
theorem dX12_gainOf_16 : decode cX12_gainOf 16 = .ok (.iload_n 2, 1) := by decide +kernel
theorem dX12_gainOf_17 : decode cX12_gainOf 17 = .ok (.ifCond .ne 7, 3) := by decide +kernel
theorem dX12_gainOf_20 : decode cX12_gainOf 20 = .ok (.iconst 0, 1) := by decide +kernel
theorem dX12_gainOf_21 : decode cX12_gainOf 21 = .ok (.goto 14, 3) := by decide +kernel
theorem dX12_gainOf_24 : decode cX12_gainOf 24 = .ok (.aload_n 0, 1) := by decide +kernel
theorem dX12_gainOf_25 : decode cX12_gainOf 25 = .ok (.iload_n 1, 1) := by decide +kernel
theorem dX12_gainOf_26 : decode cX12_gainOf 26 = .ok (.invokevirtual 105, 3) := by decide +kernel
theorem dX12_gainOf_29 : decode cX12_gainOf 29 = .ok (.sipush 1000, 3) := by decide +kernel
theorem dX12_gainOf_32 : decode cX12_gainOf 32 = .ok (.imul, 1) := by decide +kernel
theorem dX12_gainOf_33 : decode cX12_gainOf 33 = .ok (.iload_n 2, 1) := by decide +kernel
theorem dX12_gainOf_34 : decode cX12_gainOf 34 = .ok (.idiv, 1) := by decide +kernel
theorem dX12_gainOf_35 : decode cX12_gainOf 35 = .ok (.sipush 1000, 3) := by decide +kernel
theorem dX12_gainOf_38 : decode cX12_gainOf 38 = .ok (.aload_n 0, 1) := by decide +kernel
theorem dX12_gainOf_39 : decode cX12_gainOf 39 = .ok (.iload_n 1, 1) := by decide +kernel
theorem dX12_gainOf_40 : decode cX12_gainOf 40 = .ok (.invokevirtual 111, 3) := by decide +kernel
theorem dX12_gainOf_43 : decode cX12_gainOf 43 = .ok (.imul, 1) := by decide +kernel
theorem dX12_gainOf_44 : decode cX12_gainOf 44 = .ok (.isub, 1) := by decide +kernel
theorem dX12_gainOf_45 : decode cX12_gainOf 45 = .ok (.ireturn, 1) := by decide +kernel
set_option maxRecDepth 20000 in
theorem ggX12_gainAll_X12_gainOf : GoodIn wsX12_gainAll wsX12_gainOf := goodIn_r _ [6, 7, 8, 9, 5, 10, 11, 12, 13, 14, 15, 16, 17, 18, 19, 20, 21, 22, 23, 24, 25, 26, 27, 28, 29, 30, 31, 32, 33, 34, 35, 36, 37, 38, 39, 40, 41, 42, 43, 44, 45, 46, 47, 48, 49, 50, 51, 52, 53, 54, 55, 56, 57, 58, 59, 60, 61, 62, 63, 64, 65, 66, 67, 68, 69, 70, 71, 72, 73, 74, 75, 76, 77, 78, 79, 80, 81, 82, 83, 84, 85, 86, 87, 88, 89, 90, 91, 92, 93, 94, 95, 96, 97, 98, 99, 100, 101, 102, 103, 104, 105, 106, 107, 108, 109, 110, 111, 112, 113, 114, 115, 116, 117, 118, 119, 120, 121, 122, 123, 124, 125, 126, 127, 128, 129, 130, 131, 132, 133, 134, 135, 136, 137, 138, 139, 140, 141, 142, 143, 144, 145, 146, 147, 148, 149, 150, 151, 152, 153, 154, 155, 156, 157, 158, 159, 160, 161, 162, 163, 164, 165, 166, 167, 168, 169, 170, 171, 172, 173, 174, 175, 176, 177, 178, 179, 180, 181, 182, 183, 184, 185, 186, 187, 188, 189, 190, 191, 192, 193, 194, 195, 196, 197, 198, 199, 200, 201, 202, 203, 204, 205, 206, 207, 208, 209, 210, 211, 212, 213, 214, 215, 216, 217, 218, 219, 220, 221, 222, 223, 224, 225, 226, 227, 228, 229, 230, 231, 232, 233, 234, 235, 236, 237, 238, 239, 240, 241, 242, 243, 244, 245, 246, 247, 248, 249, 250, 251, 252, 253, 254, 255, 256, 257, 258, 259, 260, 261, 262, 263, 264, 265, 266, 267, 268, 269, 270, 271, 272, 273, 274, 275, 276, 277, 278, 279, 280, 281, 282] (by decide +kernel) (by decide +kernel)
set_option maxRecDepth 20000 in
theorem gX12_gainAll_X12_gainOf : GoodIn wsX12_gainAll (wsV RX12 114 RX12 yX12_gainOf wsX12_gainOf) := goodIn_app (goodIn_of _ (by decide +kernel)) ggX12_gainAll_X12_gainOf
theorem dX12_gainAll_0 : decode cX12_gainAll 0 = .ok (.iconst 0, 1) := by decide +kernel
theorem dX12_gainAll_1 : decode cX12_gainAll 1 = .ok (.istore_n 1, 1) := by decide +kernel
theorem dX12_gainAll_2 : decode cX12_gainAll 2 = .ok (.iconst 0, 1) := by decide +kernel
theorem dX12_gainAll_3 : decode cX12_gainAll 3 = .ok (.istore_n 2, 1) := by decide +kernel
theorem dX12_gainAll_4 : decode cX12_gainAll 4 = .ok (.iload_n 2, 1) := by decide +kernel
theorem dX12_gainAll_5 : decode cX12_gainAll 5 = .ok (.aload_n 0, 1) := by decide +kernel
theorem dX12_gainAll_6 : decode cX12_gainAll 6 = .ok (.getfield 61, 3) := by decide +kernel
theorem dX12_gainAll_9 : decode cX12_gainAll 9 = .ok (.if_icmp .ge 17, 3) := by decide +kernel
theorem dX12_gainAll_12 : decode cX12_gainAll 12 = .ok (.iload_n 1, 1) := by decide +kernel
theorem dX12_gainAll_13 : decode cX12_gainAll 13 = .ok (.aload_n 0, 1) := by decide +kernel
theorem dX12_gainAll_14 : decode cX12_gainAll 14 = .ok (.iload_n 2, 1) := by decide +kernel
theorem dX12_gainAll_15 : decode cX12_gainAll 15 = .ok (.invokevirtual 114, 3) := by decide +kernel
theorem dX12_gainAll_18 : decode cX12_gainAll 18 = .ok (.iadd, 1) := by decide +kernel
theorem dX12_gainAll_19 : decode cX12_gainAll 19 = .ok (.istore_n 1, 1) := by decide +kernel
theorem dX12_gainAll_20 : decode cX12_gainAll 20 = .ok (.iinc 2 1, 3) := by decide +kernel
theorem dX12_gainAll_23 : decode cX12_gainAll 23 = .ok (.goto (-19), 3) := by decide +kernel
theorem dX12_gainAll_26 : decode cX12_gainAll 26 = .ok (.iload_n 1, 1) := by decide +kernel
theorem dX12_gainAll_27 : decode cX12_gainAll 27 = .ok (.ireturn, 1) := by decide +kernel
set_option maxRecDepth 20000 in
theorem ggX12_eatenIn_X12_isThereNow : GoodIn wsX12_eatenIn wsX12_isThereNow := goodIn_r _ [7, 8, 2, 233, 234, 235, 236, 237, 238, 239, 240, 241, 242, 243, 244, 245, 246, 247, 248, 249, 250, 251, 252, 253, 254, 255, 256, 257, 258, 259, 260, 261, 262, 263, 264, 265, 266] (by decide +kernel) (by decide +kernel)
set_option maxRecDepth 20000 in
theorem gX12_eatenIn_X12_isThereNow : GoodIn wsX12_eatenIn (wsV RX12 108 RX12 yX12_isThereNow wsX12_isThereNow) := goodIn_app (goodIn_of _ (by decide +kernel)) ggX12_eatenIn_X12_isThereNow
set_option maxRecDepth 20000 in
theorem ggX12_eatenIn_X12_eatsOf : GoodIn wsX12_eatenIn wsX12_eatsOf := goodIn_r _ [12, 13, 8, 2, 14, 15, 16, 6, 17, 18, 19, 20, 21, 22, 23, 24, 25, 26, 27, 28, 29, 30, 31, 32, 33, 34, 35, 36, 37, 38, 39, 40, 41, 42, 43, 44, 45, 46, 47, 48, 49, 50, 51, 52, 53, 54, 55, 56, 57, 58, 59, 60, 61, 62, 63, 64, 65, 66, 67, 68, 69, 70, 71, 72, 73, 74, 75, 76, 77, 78, 79, 80, 81, 82, 83, 84, 85, 86, 87, 88, 89, 90, 91, 92, 93, 94, 95, 96, 97, 98, 99, 100, 101, 102, 103, 104, 105, 106, 107, 108, 109, 110, 111, 112, 113, 114, 115, 116, 117, 118, 119, 120, 121, 122, 123, 124, 125, 126, 127, 128, 129, 130, 131, 132, 133, 134, 135, 136, 137, 138, 139, 140, 141, 142, 143, 144, 145, 146, 147, 148, 149, 150, 151, 152, 153, 154, 155, 156, 157, 158, 159, 160, 161, 162, 163, 164, 165, 166, 167, 168, 169, 170, 171, 172, 173, 174, 175, 176, 177, 178, 179, 180, 181, 182, 183, 184, 185, 186, 187, 188, 189, 190, 191, 192, 193, 194, 195, 196, 197, 198, 199, 200, 201, 202, 203, 204, 205, 206, 207, 208, 209, 210, 211, 212, 213, 214, 215, 216, 217, 218, 219, 220, 221, 222, 223, 224, 225, 226, 227, 228, 229, 230, 231, 232, 233, 234, 235, 236, 237, 238, 239, 240, 241, 242, 243, 244, 245, 246, 247, 248, 249, 250, 251, 252, 253, 254, 255, 256, 257, 258, 259, 260, 261, 262, 263, 264, 265, 266] (by decide +kernel) (by decide +kernel)
set_option maxRecDepth 20000 in
theorem gX12_eatenIn_X12_eatsOf : GoodIn wsX12_eatenIn (wsV RX12 99 RX12 yX12_eatsOf wsX12_eatsOf) := goodIn_app (goodIn_of _ (by decide +kernel)) ggX12_eatenIn_X12_eatsOf
theorem dX12_eatenIn_0 : decode cX12_eatenIn 0 = .ok (.iconst 0, 1) := by decide +kernel
theorem dX12_eatenIn_1 : decode cX12_eatenIn 1 = .ok (.istore_n 2, 1) := by decide +kernel
theorem dX12_eatenIn_2 : decode cX12_eatenIn 2 = .ok (.iconst 0, 1) := by decide +kernel
theorem dX12_eatenIn_3 : decode cX12_eatenIn 3 = .ok (.istore_n 3, 1) := by decide +kernel
theorem dX12_eatenIn_4 : decode cX12_eatenIn 4 = .ok (.iload_n 3, 1) := by decide +kernel
theorem dX12_eatenIn_5 : decode cX12_eatenIn 5 = .ok (.aload_n 0, 1) := by decide +kernel
theorem dX12_eatenIn_6 : decode cX12_eatenIn 6 = .ok (.getfield 61, 3) := by decide +kernel
theorem dX12_eatenIn_9 : decode cX12_eatenIn 9 = .ok (.if_icmp .ge 43, 3) := by decide +kernel
theorem dX12_eatenIn_12 : decode cX12_eatenIn 12 = .ok (.iload_n 2, 1) := by decide +kernel
theorem dX12_eatenIn_13 : decode cX12_eatenIn 13 = .ok (.aload_n 0, 1) := by decide +kernel
theorem dX12_eatenIn_14 : decode cX12_eatenIn 14 = .ok (.iload_n 3, 1) := by decide +kernel
theorem dX12_eatenIn_15 : decode cX12_eatenIn 15 = .ok (.invokevirtual 108, 3) := by decide +kernel
theorem dX12_eatenIn_18 : decode cX12_eatenIn 18 = .ok (.ifCond .eq 25, 3) := by decide +kernel
theorem dX12_eatenIn_21 : decode cX12_eatenIn 21 = .ok (.aload_n 0, 1) := by decide +kernel
theorem dX12_eatenIn_22 : decode cX12_eatenIn 22 = .ok (.getfield 29, 3) := by decide +kernel
theorem dX12_eatenIn_25 : decode cX12_eatenIn 25 = .ok (.iconst 4, 1) := by decide +kernel
theorem dX12_eatenIn_26 : decode cX12_eatenIn 26 = .ok (.iload_n 3, 1) := by decide +kernel
theorem dX12_eatenIn_27 : decode cX12_eatenIn 27 = .ok (.imul, 1) := by decide +kernel
theorem dX12_eatenIn_28 : decode cX12_eatenIn 28 = .ok (.iconst 1, 1) := by decide +kernel
theorem dX12_eatenIn_29 : decode cX12_eatenIn 29 = .ok (.iadd, 1) := by decide +kernel
theorem dX12_eatenIn_30 : decode cX12_eatenIn 30 = .ok (.iaload, 1) := by decide +kernel
theorem dX12_eatenIn_31 : decode cX12_eatenIn 31 = .ok (.iload_n 1, 1) := by decide +kernel
theorem dX12_eatenIn_32 : decode cX12_eatenIn 32 = .ok (.if_icmp .ne 11, 3) := by decide +kernel
theorem dX12_eatenIn_35 : decode cX12_eatenIn 35 = .ok (.aload_n 0, 1) := by decide +kernel
theorem dX12_eatenIn_36 : decode cX12_eatenIn 36 = .ok (.iload_n 3, 1) := by decide +kernel
theorem dX12_eatenIn_37 : decode cX12_eatenIn 37 = .ok (.invokevirtual 99, 3) := by decide +kernel
theorem dX12_eatenIn_40 : decode cX12_eatenIn 40 = .ok (.goto 4, 3) := by decide +kernel
theorem dX12_eatenIn_43 : decode cX12_eatenIn 43 = .ok (.iconst 0, 1) := by decide +kernel
theorem dX12_eatenIn_44 : decode cX12_eatenIn 44 = .ok (.iadd, 1) := by decide +kernel
theorem dX12_eatenIn_45 : decode cX12_eatenIn 45 = .ok (.istore_n 2, 1) := by decide +kernel
theorem dX12_eatenIn_46 : decode cX12_eatenIn 46 = .ok (.iinc 3 1, 3) := by decide +kernel
theorem dX12_eatenIn_49 : decode cX12_eatenIn 49 = .ok (.goto (-45), 3) := by decide +kernel
theorem dX12_eatenIn_52 : decode cX12_eatenIn 52 = .ok (.iload_n 2, 1) := by decide +kernel
theorem dX12_eatenIn_53 : decode cX12_eatenIn 53 = .ok (.ireturn, 1) := by decide +kernel
set_option maxRecDepth 20000 in
theorem ggX12_crowd_X12_eatenIn : GoodIn wsX12_crowd wsX12_eatenIn := goodIn_r _ [5, 6, 7, 8, 9, 10, 4, 11, 12, 13, 14, 15, 16, 17, 18, 19, 20, 21, 22, 23, 24, 25, 26, 27, 28, 29, 30, 31, 32, 33, 34, 35, 36, 37, 38, 39, 40, 41, 42, 43, 44, 45, 46, 47, 48, 49, 50, 51, 52, 53, 54, 55, 56, 57, 58, 59, 60, 61, 62, 63, 64, 65, 66, 67, 68, 69, 70, 71, 72, 73, 74, 75, 76, 77, 78, 79, 80, 81, 82, 83, 84, 85, 86, 87, 88, 89, 90, 91, 92, 93, 94, 95, 96, 97, 98, 99, 100, 101, 102, 103, 104, 105, 106, 107, 108, 109, 110, 111, 112, 113, 114, 115, 116, 117, 118, 119, 120, 121, 122, 123, 124, 125, 126, 127, 128, 129, 130, 131, 132, 133, 134, 135, 136, 137, 138, 139, 140, 141, 142, 143, 144, 145, 146, 147, 148, 149, 150, 151, 152, 153, 154, 155, 156, 157, 158, 159, 160, 161, 162, 163, 164, 165, 166, 167, 168, 169, 170, 171, 172, 173, 174, 175, 176, 177, 178, 179, 180, 181, 182, 183, 184, 185, 186, 187, 188, 189, 190, 191, 192, 193, 194, 195, 196, 197, 198, 199, 200, 201, 202, 203, 204, 205, 206, 207, 208, 209, 210, 211, 212, 213, 214, 215, 216, 217, 218, 219, 220, 221, 222, 223, 224, 225, 226, 227, 228, 229, 230, 231, 232, 233, 234, 235, 236, 237, 238, 239, 240, 241, 242, 243, 244, 245, 246, 247, 248, 249, 250, 251, 252, 253, 254, 255, 256, 257, 258, 259, 260, 261, 262, 263, 264, 265, 266, 267, 268, 269, 270] (by decide +kernel) (by decide +kernel)
set_option maxRecDepth 20000 in
theorem gX12_crowd_X12_eatenIn : GoodIn wsX12_crowd (wsV RX12 333 RX12 yX12_eatenIn wsX12_eatenIn) := goodIn_app (goodIn_of _ (by decide +kernel)) ggX12_crowd_X12_eatenIn
theorem dX12_crowd_0 : decode cX12_crowd 0 = .ok (.iconst (-1), 1) := by decide +kernel
theorem dX12_crowd_1 : decode cX12_crowd 1 = .ok (.istore_n 1, 1) := by decide +kernel
theorem dX12_crowd_2 : decode cX12_crowd 2 = .ok (.iconst 0, 1) := by decide +kernel
theorem dX12_crowd_3 : decode cX12_crowd 3 = .ok (.istore_n 2, 1) := by decide +kernel
theorem dX12_crowd_4 : decode cX12_crowd 4 = .ok (.iconst 0, 1) := by decide +kernel
theorem dX12_crowd_5 : decode cX12_crowd 5 = .ok (.istore_n 3, 1) := by decide +kernel
theorem dX12_crowd_6 : decode cX12_crowd 6 = .ok (.iload_n 3, 1) := by decide +kernel
theorem dX12_crowd_7 : decode cX12_crowd 7 = .ok (.bipush 10, 2) := by decide +kernel
theorem dX12_crowd_9 : decode cX12_crowd 9 = .ok (.if_icmp .ge 27, 3) := by decide +kernel
theorem dX12_crowd_12 : decode cX12_crowd 12 = .ok (.aload_n 0, 1) := by decide +kernel
theorem dX12_crowd_13 : decode cX12_crowd 13 = .ok (.iload_n 3, 1) := by decide +kernel
theorem dX12_crowd_14 : decode cX12_crowd 14 = .ok (.invokevirtual 333, 3) := by decide +kernel
theorem dX12_crowd_17 : decode cX12_crowd 17 = .ok (.istore 4, 2) := by decide +kernel
theorem dX12_crowd_19 : decode cX12_crowd 19 = .ok (.iload 4, 2) := by decide +kernel
theorem dX12_crowd_21 : decode cX12_crowd 21 = .ok (.iload_n 2, 1) := by decide +kernel
theorem dX12_crowd_22 : decode cX12_crowd 22 = .ok (.if_icmp .le 8, 3) := by decide +kernel
theorem dX12_crowd_25 : decode cX12_crowd 25 = .ok (.iload_n 3, 1) := by decide +kernel
theorem dX12_crowd_26 : decode cX12_crowd 26 = .ok (.istore_n 1, 1) := by decide +kernel
theorem dX12_crowd_27 : decode cX12_crowd 27 = .ok (.iload 4, 2) := by decide +kernel
theorem dX12_crowd_29 : decode cX12_crowd 29 = .ok (.istore_n 2, 1) := by decide +kernel
theorem dX12_crowd_30 : decode cX12_crowd 30 = .ok (.iinc 3 1, 3) := by decide +kernel
theorem dX12_crowd_33 : decode cX12_crowd 33 = .ok (.goto (-27), 3) := by decide +kernel
theorem dX12_crowd_36 : decode cX12_crowd 36 = .ok (.iload_n 1, 1) := by decide +kernel
theorem dX12_crowd_37 : decode cX12_crowd 37 = .ok (.ireturn, 1) := by decide +kernel
set_option maxRecDepth 20000 in
theorem ggX12_board_X12_in : GoodIn wsX12_board wsX12_in := goodIn_r _ [7] (by decide +kernel) (by decide +kernel)
set_option maxRecDepth 20000 in
theorem gX12_board_X12_in : GoodIn wsX12_board (va_wsS RX12 64 yX12_in wsX12_in) := goodIn_app (goodIn_of _ (by decide +kernel)) ggX12_board_X12_in
set_option maxRecDepth 20000 in
theorem ggX12_board_X12_gainAll : GoodIn wsX12_board wsX12_gainAll := goodIn_r _ [11, 3, 12, 13, 14, 6, 15, 16, 17, 18, 19, 20, 21, 22, 23, 24, 25, 26, 27, 28, 29, 30, 31, 32, 33, 34, 35, 36, 37, 38, 39, 40, 41, 42, 43, 44, 45, 46, 47, 48, 49, 50, 51, 52, 53, 54, 55, 56, 57, 58, 59, 60, 61, 62, 63, 64, 4, 5, 7, 65, 66, 67, 68, 69, 70, 71, 72, 73, 74, 75, 76, 77, 78, 79, 80, 81, 82, 83, 84, 85, 86, 87, 88, 89, 90, 91, 92, 93, 94, 95, 96, 97, 98, 99, 100, 101, 102, 103, 104, 105, 106, 107, 108, 109, 110, 111, 112, 113, 114, 115, 116, 117, 118, 119, 120, 121, 122, 123, 124, 125, 126, 127, 128, 129, 130, 131, 132, 133, 134, 135, 136, 137, 138, 139, 140, 141, 142, 143, 144, 145, 146, 147, 148, 149, 150, 151, 152, 153, 154, 155, 156, 157, 158, 159, 160, 161, 162, 163, 164, 165, 166, 167, 168, 169, 170, 171, 172, 173, 174, 175, 176, 177, 178, 179, 180, 181, 182, 183, 184, 185, 186, 187, 188, 189, 190, 191, 192, 193, 194, 195, 196, 197, 198, 199, 200, 201, 202, 203, 204, 205, 206, 207, 208, 209, 210, 211, 212, 213, 214, 215, 216, 217, 218, 219, 220, 221, 222, 223, 224, 225, 226, 227, 228, 229, 230, 231, 232, 233, 234, 235, 236, 237, 238, 239, 240, 241, 242, 243, 244, 245, 246, 247, 248, 249, 250, 251, 252, 253, 254, 263, 264, 265, 266, 267, 268, 269, 270, 271, 272, 273, 274, 275, 276, 277, 278, 279, 280, 281, 282, 283, 284, 285, 286, 287, 288, 289, 290, 291, 292, 293, 294, 295, 296] (by decide +kernel) (by decide +kernel)
set_option maxRecDepth 20000 in
theorem gX12_board_X12_gainAll : GoodIn wsX12_board (wsV RX12 336 RX12 yX12_gainAll wsX12_gainAll) := goodIn_app (goodIn_of _ (by decide +kernel)) ggX12_board_X12_gainAll
set_option maxRecDepth 20000 in
theorem ggX12_board_X12_crowd : GoodIn wsX12_board wsX12_crowd := goodIn_r _ [258, 259, 260, 261, 6, 262, 3, 21, 16, 17, 18, 19, 20, 251, 252, 253, 254, 26, 27, 28, 29, 30, 31, 32, 33, 34, 35, 36, 37, 38, 39, 40, 41, 42, 43, 44, 45, 46, 47, 48, 49, 50, 51, 52, 53, 54, 55, 56, 57, 58, 59, 60, 61, 62, 63, 64, 4, 5, 7, 65, 66, 67, 68, 69, 70, 71, 72, 73, 74, 75, 76, 77, 78, 79, 80, 81, 82, 83, 84, 85, 86, 87, 88, 89, 90, 91, 92, 93, 94, 95, 96, 97, 98, 99, 100, 101, 102, 103, 104, 105, 106, 107, 108, 109, 110, 111, 112, 113, 114, 115, 116, 117, 118, 119, 120, 121, 122, 123, 124, 125, 126, 127, 128, 129, 130, 131, 132, 133, 134, 135, 136, 137, 138, 139, 140, 141, 142, 143, 144, 145, 146, 147, 148, 149, 150, 151, 152, 153, 154, 155, 156, 157, 158, 159, 160, 161, 162, 163, 164, 165, 166, 167, 168, 169, 170, 171, 172, 173, 174, 175, 176, 177, 178, 179, 180, 181, 182, 183, 184, 185, 186, 187, 188, 189, 190, 191, 192, 193, 194, 195, 196, 197, 198, 199, 200, 201, 202, 203, 204, 205, 206, 207, 208, 209, 210, 211, 212, 213, 214, 215, 216, 217, 218, 219, 220, 221, 222, 223, 224, 225, 226, 227, 228, 229, 230, 231, 232, 233, 234, 235, 236, 237, 238, 239, 240, 241, 242, 263, 264, 265, 266, 267, 268, 269, 270, 271, 272, 273, 274, 275, 276, 277, 278, 279, 280, 281, 282, 283, 284, 285, 286, 287, 288, 289, 290, 291, 292, 293, 294, 295, 296] (by decide +kernel) (by decide +kernel)
set_option maxRecDepth 20000 in
theorem gX12_board_X12_crowd : GoodIn wsX12_board (wsV RX12 339 RX12 yX12_crowd wsX12_crowd) := goodIn_app (goodIn_of _ (by decide +kernel)) ggX12_board_X12_crowd
set_option maxRecDepth 20000 in
theorem ggX12_board_X12_isThereNow : GoodIn wsX12_board wsX12_isThereNow := goodIn_r _ [19, 20, 21, 263, 264, 265, 266, 267, 268, 269, 270, 271, 272, 273, 274, 275, 276, 277, 278, 279, 280, 281, 282, 283, 284, 285, 286, 287, 288, 289, 290, 291, 292, 293, 294, 295, 296] (by decide +kernel) (by decide +kernel)
set_option maxRecDepth 20000 in
theorem gX12_board_X12_isThereNow : GoodIn wsX12_board (wsV RX12 108 RX12 yX12_isThereNow wsX12_isThereNow) := goodIn_app (goodIn_of _ (by decide +kernel)) ggX12_board_X12_isThereNow
set_option maxRecDepth 20000 in
theorem ggX12_board_X12_eatsOf : GoodIn wsX12_board wsX12_eatsOf := goodIn_r _ [254, 26, 20, 21, 27, 28, 29, 6, 30, 31, 32, 33, 34, 35, 36, 37, 38, 39, 40, 41, 42, 43, 44, 45, 46, 47, 48, 49, 50, 51, 52, 53, 54, 55, 56, 57, 58, 59, 60, 61, 62, 63, 64, 4, 5, 7, 65, 66, 67, 68, 69, 70, 71, 72, 73, 74, 75, 76, 77, 78, 79, 80, 81, 82, 83, 84, 85, 86, 87, 88, 89, 90, 91, 92, 93, 94, 95, 96, 97, 98, 99, 100, 101, 102, 103, 104, 105, 106, 107, 108, 109, 110, 111, 112, 113, 114, 115, 116, 117, 118, 119, 120, 121, 122, 123, 124, 125, 126, 127, 128, 129, 130, 131, 132, 133, 134, 135, 136, 137, 138, 139, 140, 141, 142, 143, 144, 145, 146, 147, 148, 149, 150, 151, 152, 153, 154, 155, 156, 157, 158, 159, 160, 161, 162, 163, 164, 165, 166, 167, 168, 169, 170, 171, 172, 173, 174, 175, 176, 177, 178, 179, 180, 181, 182, 183, 184, 185, 186, 187, 188, 189, 190, 191, 192, 193, 194, 195, 196, 197, 198, 199, 200, 201, 202, 203, 204, 205, 206, 207, 208, 209, 210, 211, 212, 213, 214, 215, 216, 217, 218, 219, 220, 221, 222, 223, 224, 225, 226, 227, 228, 229, 230, 231, 232, 233, 234, 235, 236, 237, 238, 239, 240, 241, 242, 263, 264, 265, 266, 267, 268, 269, 270, 271, 272, 273, 274, 275, 276, 277, 278, 279, 280, 281, 282, 283, 284, 285, 286, 287, 288, 289, 290, 291, 292, 293, 294, 295, 296] (by decide +kernel) (by decide +kernel)
set_option maxRecDepth 20000 in
theorem gX12_board_X12_eatsOf : GoodIn wsX12_board (wsV RX12 99 RX12 yX12_eatsOf wsX12_eatsOf) := goodIn_app (goodIn_of _ (by decide +kernel)) ggX12_board_X12_eatsOf
set_option maxRecDepth 20000 in
theorem ggX12_board_X12_costOf : GoodIn wsX12_board wsX12_costOf := goodIn_r _ [250, 20, 16, 17, 18, 6, 19, 21, 251, 252, 253, 254, 26, 27, 28, 29, 30, 31, 32, 33, 34, 35, 36, 37, 38, 39, 40, 41, 42, 43, 44, 45, 46, 47, 48, 49, 50, 51, 52, 53, 54, 55, 56, 57, 58, 59, 60, 61, 62, 63, 64, 4, 5, 7, 65, 66, 67, 68, 69, 70, 71, 72, 73, 74, 75, 76, 77, 78, 79, 80, 81, 82, 83, 84, 85, 86, 87, 88, 89, 90, 91, 92, 93, 94, 95, 96, 97, 98, 99, 100, 101, 102, 103, 104, 105, 106, 107, 108, 109, 110, 111, 112, 113, 114, 115, 116, 117, 118, 119, 120, 121, 122, 123, 124, 125, 126, 127, 128, 129, 130, 131, 132, 133, 134, 135, 136, 137, 138, 139, 140, 141, 142, 143, 144, 145, 146, 147, 148, 149, 150, 151, 152, 153, 154, 155, 156, 157, 158, 159, 160, 161, 162, 163, 164, 165, 166, 167, 168, 169, 170, 171, 172, 173, 174, 175, 176, 177, 178, 179, 180, 181, 182, 183, 184, 185, 186, 187, 188, 189, 190, 191, 192, 193, 194, 195, 196, 197, 198, 199, 200, 201, 202, 203, 204, 205, 206, 207, 208, 209, 210, 211, 212, 213, 214, 215, 216, 217, 218, 219, 220, 221, 222, 223, 224, 225, 226, 227, 228, 229, 230, 231, 232, 233, 234, 235, 236, 237, 238, 239, 240, 241, 242, 263, 264, 265, 266, 267, 268, 269, 270, 271, 272, 273, 274, 275, 276, 277, 278, 279, 280, 281, 282, 283, 284, 285, 286, 287, 288, 289, 290, 291, 292, 293, 294, 295, 296] (by decide +kernel) (by decide +kernel)
set_option maxRecDepth 20000 in
theorem gX12_board_X12_costOf : GoodIn wsX12_board (wsV RX12 111 RX12 yX12_costOf wsX12_costOf) := goodIn_app (goodIn_of _ (by decide +kernel)) ggX12_board_X12_costOf
set_option maxRecDepth 20000 in
theorem ggX12_board_X12_triesOf : GoodIn wsX12_board wsX12_triesOf := goodIn_r _ [25, 26, 20, 21, 27, 28, 29, 6, 30, 31, 32, 33, 34, 35, 36, 37, 38, 39, 40, 41, 42, 43, 44, 45, 46, 47, 48, 49, 50, 51, 52, 53, 54, 55, 56, 57, 58, 59, 60, 61, 62, 63, 64, 4, 5, 7, 65, 66, 67, 68, 69, 70, 71, 72, 73, 74, 75, 76, 77, 78, 79, 80, 81, 82, 83, 84, 85, 86, 87, 88, 89, 90, 91, 92, 93, 94, 95, 96, 97, 98, 99, 100, 101, 102, 103, 104, 105, 106, 107, 108, 109, 110, 111, 112, 113, 114, 115, 116, 117, 118, 119, 120, 121, 122, 123, 124, 125, 126, 127, 128, 129, 130, 131, 132, 133, 134, 135, 136, 137, 138, 139, 140, 141, 142, 143, 144, 145, 146, 147, 148, 149, 150, 151, 152, 153, 154, 155, 156, 157, 158, 159, 160, 161, 162, 163, 164, 165, 166, 167, 168, 169, 170, 171, 172, 173, 174, 175, 176, 177, 178, 179, 180, 181, 182, 183, 184, 185, 186, 187, 188, 189, 190, 191, 192, 193, 194, 195, 196, 197, 198, 199, 200, 201, 202, 203, 204, 205, 206, 207, 208, 209, 210, 211, 212, 213, 214, 215, 216, 217, 218, 219, 220, 221, 222, 223, 224, 225, 226, 227, 228, 229, 230, 231, 232, 233, 234, 235, 236, 237, 238, 239, 240, 241, 242, 263, 264, 265, 266, 267, 268, 269, 270, 271, 272, 273, 274, 275, 276, 277, 278, 279, 280, 281, 282, 283, 284, 285, 286, 287, 288, 289, 290, 291, 292, 293, 294, 295, 296] (by decide +kernel) (by decide +kernel)
set_option maxRecDepth 20000 in
theorem gX12_board_X12_triesOf : GoodIn wsX12_board (wsV RX12 102 RX12 yX12_triesOf wsX12_triesOf) := goodIn_app (goodIn_of _ (by decide +kernel)) ggX12_board_X12_triesOf
theorem dX12_board_0 : decode cX12_board 0 = .ok (.iload_n 1, 1) := by decide +kernel
theorem dX12_board_1 : decode cX12_board 1 = .ok (.i2l, 1) := by decide +kernel
theorem dX12_board_2 : decode cX12_board 2 = .ok (.lconst 0, 1) := by decide +kernel
theorem dX12_board_3 : decode cX12_board 3 = .ok (.ldc2_w 92, 3) := by decide +kernel
theorem dX12_board_6 : decode cX12_board 6 = .ok (.invokestatic 64, 3) := by decide +kernel
theorem dX12_board_9 : decode cX12_board 9 = .ok (.ifCond .ne 6, 3) := by decide +kernel
theorem dX12_board_12 : decode cX12_board 12 = .ok (.ldc 98, 2) := by decide +kernel
theorem dX12_board_14 : decode cX12_board 14 = .ok (.ireturn, 1) := by decide +kernel
theorem dX12_board_15 : decode cX12_board 15 = .ok (.iload_n 1, 1) := by decide +kernel
theorem dX12_board_16 : decode cX12_board 16 = .ok (.ifCond .eq 8, 3) := by decide +kernel
theorem dX12_board_19 : decode cX12_board 19 = .ok (.iload_n 1, 1) := by decide +kernel
theorem dX12_board_20 : decode cX12_board 20 = .ok (.iconst 4, 1) := by decide +kernel
theorem dX12_board_21 : decode cX12_board 21 = .ok (.if_icmp .ne 19, 3) := by decide +kernel
theorem dX12_board_24 : decode cX12_board 24 = .ok (.iload_n 1, 1) := by decide +kernel
theorem dX12_board_25 : decode cX12_board 25 = .ok (.ifCond .ne 10, 3) := by decide +kernel
theorem dX12_board_28 : decode cX12_board 28 = .ok (.aload_n 0, 1) := by decide +kernel
theorem dX12_board_29 : decode cX12_board 29 = .ok (.invokevirtual 336, 3) := by decide +kernel
theorem dX12_board_32 : decode cX12_board 32 = .ok (.goto 7, 3) := by decide +kernel
theorem dX12_board_35 : decode cX12_board 35 = .ok (.aload_n 0, 1) := by decide +kernel
theorem dX12_board_36 : decode cX12_board 36 = .ok (.invokevirtual 339, 3) := by decide +kernel
theorem dX12_board_39 : decode cX12_board 39 = .ok (.ireturn, 1) := by decide +kernel
theorem dX12_board_40 : decode cX12_board 40 = .ok (.iconst 0, 1) := by decide +kernel
theorem dX12_board_41 : decode cX12_board 41 = .ok (.istore_n 2, 1) := by decide +kernel
theorem dX12_board_42 : decode cX12_board 42 = .ok (.iconst 0, 1) := by decide +kernel
theorem dX12_board_43 : decode cX12_board 43 = .ok (.istore_n 3, 1) := by decide +kernel
theorem dX12_board_44 : decode cX12_board 44 = .ok (.iconst 0, 1) := by decide +kernel
theorem dX12_board_45 : decode cX12_board 45 = .ok (.istore 4, 2) := by decide +kernel
theorem dX12_board_47 : decode cX12_board 47 = .ok (.iconst 0, 1) := by decide +kernel
theorem dX12_board_48 : decode cX12_board 48 = .ok (.istore 5, 2) := by decide +kernel
theorem dX12_board_50 : decode cX12_board 50 = .ok (.iconst 0, 1) := by decide +kernel
theorem dX12_board_51 : decode cX12_board 51 = .ok (.istore 6, 2) := by decide +kernel
theorem dX12_board_53 : decode cX12_board 53 = .ok (.iload 6, 2) := by decide +kernel
theorem dX12_board_55 : decode cX12_board 55 = .ok (.aload_n 0, 1) := by decide +kernel
theorem dX12_board_56 : decode cX12_board 56 = .ok (.getfield 61, 3) := by decide +kernel
theorem dX12_board_59 : decode cX12_board 59 = .ok (.if_icmp .ge 76, 3) := by decide +kernel
theorem dX12_board_62 : decode cX12_board 62 = .ok (.aload_n 0, 1) := by decide +kernel
theorem dX12_board_63 : decode cX12_board 63 = .ok (.iload 6, 2) := by decide +kernel
theorem dX12_board_65 : decode cX12_board 65 = .ok (.invokevirtual 108, 3) := by decide +kernel
theorem dX12_board_68 : decode cX12_board 68 = .ok (.ifCond .eq 61, 3) := by decide +kernel
theorem dX12_board_71 : decode cX12_board 71 = .ok (.iload_n 2, 1) := by decide +kernel
theorem dX12_board_72 : decode cX12_board 72 = .ok (.aload_n 0, 1) := by decide +kernel
theorem dX12_board_73 : decode cX12_board 73 = .ok (.iload 6, 2) := by decide +kernel
theorem dX12_board_75 : decode cX12_board 75 = .ok (.invokevirtual 99, 3) := by decide +kernel
theorem dX12_board_78 : decode cX12_board 78 = .ok (.iadd, 1) := by decide +kernel
theorem dX12_board_79 : decode cX12_board 79 = .ok (.istore_n 2, 1) := by decide +kernel
theorem dX12_board_80 : decode cX12_board 80 = .ok (.iload_n 3, 1) := by decide +kernel
theorem dX12_board_81 : decode cX12_board 81 = .ok (.aload_n 0, 1) := by decide +kernel
theorem dX12_board_82 : decode cX12_board 82 = .ok (.iload 6, 2) := by decide +kernel
theorem dX12_board_84 : decode cX12_board 84 = .ok (.invokevirtual 111, 3) := by decide +kernel
theorem dX12_board_87 : decode cX12_board 87 = .ok (.iadd, 1) := by decide +kernel
theorem dX12_board_88 : decode cX12_board 88 = .ok (.istore_n 3, 1) := by decide +kernel
theorem dX12_board_89 : decode cX12_board 89 = .ok (.iload 4, 2) := by decide +kernel
theorem dX12_board_91 : decode cX12_board 91 = .ok (.aload_n 0, 1) := by decide +kernel
theorem dX12_board_92 : decode cX12_board 92 = .ok (.iload 6, 2) := by decide +kernel
theorem dX12_board_94 : decode cX12_board 94 = .ok (.invokevirtual 99, 3) := by decide +kernel
theorem dX12_board_97 : decode cX12_board 97 = .ok (.ifCond .le 16, 3) := by decide +kernel
theorem dX12_board_100 : decode cX12_board 100 = .ok (.aload_n 0, 1) := by decide +kernel
theorem dX12_board_101 : decode cX12_board 101 = .ok (.iload 6, 2) := by decide +kernel
theorem dX12_board_103 : decode cX12_board 103 = .ok (.invokevirtual 102, 3) := by decide +kernel
theorem dX12_board_106 : decode cX12_board 106 = .ok (.ifCond .ne 7, 3) := by decide +kernel
theorem dX12_board_109 : decode cX12_board 109 = .ok (.iconst 1, 1) := by decide +kernel
theorem dX12_board_110 : decode cX12_board 110 = .ok (.goto 4, 3) := by decide +kernel
theorem dX12_board_113 : decode cX12_board 113 = .ok (.iconst 0, 1) := by decide +kernel
theorem dX12_board_114 : decode cX12_board 114 = .ok (.iload 6, 2) := by decide +kernel
theorem dX12_board_116 : decode cX12_board 116 = .ok (.ishl, 1) := by decide +kernel
theorem dX12_board_117 : decode cX12_board 117 = .ok (.ior, 1) := by decide +kernel
theorem dX12_board_118 : decode cX12_board 118 = .ok (.istore 4, 2) := by decide +kernel
theorem dX12_board_120 : decode cX12_board 120 = .ok (.iload 5, 2) := by decide +kernel
theorem dX12_board_122 : decode cX12_board 122 = .ok (.iconst 1, 1) := by decide +kernel
theorem dX12_board_123 : decode cX12_board 123 = .ok (.iload 6, 2) := by decide +kernel
theorem dX12_board_125 : decode cX12_board 125 = .ok (.ishl, 1) := by decide +kernel
theorem dX12_board_126 : decode cX12_board 126 = .ok (.ior, 1) := by decide +kernel
theorem dX12_board_127 : decode cX12_board 127 = .ok (.istore 5, 2) := by decide +kernel
theorem dX12_board_129 : decode cX12_board 129 = .ok (.iinc 6 1, 3) := by decide +kernel
theorem dX12_board_132 : decode cX12_board 132 = .ok (.goto (-79), 3) := by decide +kernel
theorem dX12_board_135 : decode cX12_board 135 = .ok (.iload_n 1, 1) := by decide +kernel
theorem dX12_board_136 : decode cX12_board 136 = .ok (.iconst 1, 1) := by decide +kernel
theorem dX12_board_137 : decode cX12_board 137 = .ok (.if_icmp .ne 7, 3) := by decide +kernel
theorem dX12_board_140 : decode cX12_board 140 = .ok (.iload_n 2, 1) := by decide +kernel
theorem dX12_board_141 : decode cX12_board 141 = .ok (.goto 24, 3) := by decide +kernel
theorem dX12_board_144 : decode cX12_board 144 = .ok (.iload_n 1, 1) := by decide +kernel
theorem dX12_board_145 : decode cX12_board 145 = .ok (.iconst 2, 1) := by decide +kernel
theorem dX12_board_146 : decode cX12_board 146 = .ok (.if_icmp .ne 7, 3) := by decide +kernel
theorem dX12_board_149 : decode cX12_board 149 = .ok (.iload_n 3, 1) := by decide +kernel
theorem dX12_board_150 : decode cX12_board 150 = .ok (.goto 15, 3) := by decide +kernel
theorem dX12_board_153 : decode cX12_board 153 = .ok (.iload_n 1, 1) := by decide +kernel
theorem dX12_board_154 : decode cX12_board 154 = .ok (.iconst 3, 1) := by decide +kernel
theorem dX12_board_155 : decode cX12_board 155 = .ok (.if_icmp .ne 8, 3) := by decide +kernel
theorem dX12_board_158 : decode cX12_board 158 = .ok (.iload 4, 2) := by decide +kernel
theorem dX12_board_160 : decode cX12_board 160 = .ok (.goto 5, 3) := by decide +kernel
theorem dX12_board_163 : decode cX12_board 163 = .ok (.iload 5, 2) := by decide +kernel
theorem dX12_board_165 : decode cX12_board 165 = .ok (.ireturn, 1) := by decide +kernel
theorem dX12_common_0 : decode cX12_common 0 = .ok (.lload_n 0, 1) := by decide +kernel
theorem dX12_common_1 : decode cX12_common 1 = .ok (.lstore 4, 2) := by decide +kernel
theorem dX12_common_3 : decode cX12_common 3 = .ok (.lload_n 2, 1) := by decide +kernel
theorem dX12_common_4 : decode cX12_common 4 = .ok (.lstore 6, 2) := by decide +kernel
theorem dX12_common_6 : decode cX12_common 6 = .ok (.lload 6, 2) := by decide +kernel
theorem dX12_common_8 : decode cX12_common 8 = .ok (.lconst 0, 1) := by decide +kernel
theorem dX12_common_9 : decode cX12_common 9 = .ok (.lcmp, 1) := by decide +kernel
theorem dX12_common_10 : decode cX12_common 10 = .ok (.ifCond .eq 21, 3) := by decide +kernel
theorem dX12_common_13 : decode cX12_common 13 = .ok (.lload 4, 2) := by decide +kernel
theorem dX12_common_15 : decode cX12_common 15 = .ok (.lload 6, 2) := by decide +kernel
theorem dX12_common_17 : decode cX12_common 17 = .ok (.lrem, 1) := by decide +kernel
theorem dX12_common_18 : decode cX12_common 18 = .ok (.lstore 8, 2) := by decide +kernel
theorem dX12_common_20 : decode cX12_common 20 = .ok (.lload 6, 2) := by decide +kernel
theorem dX12_common_22 : decode cX12_common 22 = .ok (.lstore 4, 2) := by decide +kernel
theorem dX12_common_24 : decode cX12_common 24 = .ok (.lload 8, 2) := by decide +kernel
theorem dX12_common_26 : decode cX12_common 26 = .ok (.lstore 6, 2) := by decide +kernel
theorem dX12_common_28 : decode cX12_common 28 = .ok (.goto (-22), 3) := by decide +kernel
theorem dX12_common_31 : decode cX12_common 31 = .ok (.lload 4, 2) := by decide +kernel
theorem dX12_common_33 : decode cX12_common 33 = .ok (.lreturn, 1) := by decide +kernel
set_option maxRecDepth 20000 in
theorem ggX12_buys_X12_isThereNow : GoodIn wsX12_buys wsX12_isThereNow := goodIn_r _ [5, 6, 7, 232, 233, 234, 235, 236, 237, 238, 239, 240, 241, 242, 243, 244, 245, 246, 247, 248, 249, 250, 251, 252, 253, 254, 255, 256, 257, 258, 259, 260, 261, 262, 263, 264, 265] (by decide +kernel) (by decide +kernel)
set_option maxRecDepth 20000 in
theorem gX12_buys_X12_isThereNow : GoodIn wsX12_buys (wsV RX12 108 RX12 yX12_isThereNow wsX12_isThereNow) := goodIn_app (goodIn_of _ (by decide +kernel)) ggX12_buys_X12_isThereNow
set_option maxRecDepth 20000 in
theorem ggX12_buys_X12_triesOf : GoodIn wsX12_buys wsX12_triesOf := goodIn_r _ [11, 12, 6, 7, 13, 14, 15, 4, 16, 17, 18, 19, 20, 21, 22, 23, 24, 25, 26, 27, 28, 29, 30, 31, 32, 33, 34, 35, 36, 37, 38, 39, 40, 41, 42, 43, 44, 45, 46, 47, 48, 49, 50, 51, 52, 53, 54, 55, 56, 57, 58, 59, 60, 61, 62, 63, 64, 65, 66, 67, 68, 69, 70, 71, 72, 73, 74, 75, 76, 77, 78, 79, 80, 81, 82, 83, 84, 85, 86, 87, 88, 89, 90, 91, 92, 93, 94, 95, 96, 97, 98, 99, 100, 101, 102, 103, 104, 105, 106, 107, 108, 109, 110, 111, 112, 113, 114, 115, 116, 117, 118, 119, 120, 121, 122, 123, 124, 125, 126, 127, 128, 129, 130, 131, 132, 133, 134, 135, 136, 137, 138, 139, 140, 141, 142, 143, 144, 145, 146, 147, 148, 149, 150, 151, 152, 153, 154, 155, 156, 157, 158, 159, 160, 161, 162, 163, 164, 165, 166, 167, 168, 169, 170, 171, 172, 173, 174, 175, 176, 177, 178, 179, 180, 181, 182, 183, 184, 185, 186, 187, 188, 189, 190, 191, 192, 193, 194, 195, 196, 197, 198, 199, 200, 201, 202, 203, 204, 205, 206, 207, 208, 209, 210, 211, 212, 213, 214, 215, 216, 217, 218, 219, 220, 221, 222, 223, 224, 225, 226, 227, 228, 229, 230, 231, 232, 233, 234, 235, 236, 237, 238, 239, 240, 241, 242, 243, 244, 245, 246, 247, 248, 249, 250, 251, 252, 253, 254, 255, 256, 257, 258, 259, 260, 261, 262, 263, 264, 265] (by decide +kernel) (by decide +kernel)
set_option maxRecDepth 20000 in
theorem gX12_buys_X12_triesOf : GoodIn wsX12_buys (wsV RX12 102 RX12 yX12_triesOf wsX12_triesOf) := goodIn_app (goodIn_of _ (by decide +kernel)) ggX12_buys_X12_triesOf
theorem dX12_buys_0 : decode cX12_buys 0 = .ok (.aload_n 0, 1) := by decide +kernel
theorem dX12_buys_1 : decode cX12_buys 1 = .ok (.iload_n 1, 1) := by decide +kernel
theorem dX12_buys_2 : decode cX12_buys 2 = .ok (.invokevirtual 108, 3) := by decide +kernel
theorem dX12_buys_5 : decode cX12_buys 5 = .ok (.ifCond .eq 15, 3) := by decide +kernel
theorem dX12_buys_8 : decode cX12_buys 8 = .ok (.aload_n 0, 1) := by decide +kernel
theorem dX12_buys_9 : decode cX12_buys 9 = .ok (.iload_n 1, 1) := by decide +kernel
theorem dX12_buys_10 : decode cX12_buys 10 = .ok (.invokevirtual 102, 3) := by decide +kernel
theorem dX12_buys_13 : decode cX12_buys 13 = .ok (.ifCond .le 7, 3) := by decide +kernel
theorem dX12_buys_16 : decode cX12_buys 16 = .ok (.iconst 1, 1) := by decide +kernel
theorem dX12_buys_17 : decode cX12_buys 17 = .ok (.goto 4, 3) := by decide +kernel
theorem dX12_buys_20 : decode cX12_buys 20 = .ok (.iconst 0, 1) := by decide +kernel
theorem dX12_buys_21 : decode cX12_buys 21 = .ok (.ireturn, 1) := by decide +kernel
set_option maxRecDepth 20000 in
theorem ggX12_fair_X12_in : GoodIn wsX12_fair wsX12_in := goodIn_r _ [6] (by decide +kernel) (by decide +kernel)
set_option maxRecDepth 20000 in
theorem gX12_fair_X12_in : GoodIn wsX12_fair (va_wsS RX12 64 yX12_in wsX12_in) := goodIn_app (goodIn_of _ (by decide +kernel)) ggX12_fair_X12_in
set_option maxRecDepth 20000 in
theorem ggX12_fair_X12_buys : GoodIn wsX12_fair wsX12_buys := goodIn_r _ [10, 11, 12, 13, 5, 14, 15, 16, 17, 18, 19, 20, 21, 22, 23, 24, 25, 26, 27, 28, 29, 30, 31, 32, 33, 34, 35, 36, 37, 38, 39, 40, 41, 42, 43, 44, 45, 46, 47, 48, 49, 50, 51, 52, 53, 54, 55, 56, 57, 58, 59, 3, 4, 6, 60, 61, 62, 63, 64, 65, 66, 67, 68, 69, 70, 71, 72, 73, 74, 75, 76, 77, 78, 79, 80, 81, 82, 83, 84, 85, 86, 87, 88, 89, 90, 91, 92, 93, 94, 95, 96, 97, 98, 99, 100, 101, 102, 103, 104, 105, 106, 107, 108, 109, 110, 111, 112, 113, 114, 115, 116, 117, 118, 119, 120, 121, 122, 123, 124, 125, 126, 127, 128, 129, 130, 131, 132, 133, 134, 135, 136, 137, 138, 139, 140, 141, 142, 143, 144, 145, 146, 147, 148, 149, 150, 151, 152, 153, 154, 155, 156, 157, 158, 159, 160, 161, 162, 163, 164, 165, 166, 167, 168, 169, 170, 171, 172, 173, 174, 175, 176, 177, 178, 179, 180, 181, 182, 183, 184, 185, 186, 187, 188, 189, 190, 191, 192, 193, 194, 195, 196, 197, 198, 199, 200, 201, 202, 203, 204, 205, 206, 207, 208, 209, 210, 211, 212, 213, 214, 215, 216, 217, 218, 219, 220, 221, 222, 223, 224, 225, 226, 227, 228, 229, 230, 231, 232, 233, 234, 235, 236, 237, 245, 246, 247, 248, 249, 250, 251, 252, 253, 254, 255, 256, 257, 258, 259, 260, 261, 262, 263, 264, 265, 266, 267, 268, 269, 270, 271, 272, 273, 274, 275, 276, 277, 278] (by decide +kernel) (by decide +kernel)
set_option maxRecDepth 20000 in
theorem gX12_fair_X12_buys : GoodIn wsX12_fair (wsV RX12 344 RX12 yX12_buys wsX12_buys) := goodIn_app (goodIn_of _ (by decide +kernel)) ggX12_fair_X12_buys
set_option maxRecDepth 20000 in
theorem ggX12_fair_X12_triesOf : GoodIn wsX12_fair wsX12_triesOf := goodIn_r _ [20, 21, 15, 16, 22, 23, 24, 5, 25, 26, 27, 28, 29, 30, 31, 32, 33, 34, 35, 36, 37, 38, 39, 40, 41, 42, 43, 44, 45, 46, 47, 48, 49, 50, 51, 52, 53, 54, 55, 56, 57, 58, 59, 3, 4, 6, 60, 61, 62, 63, 64, 65, 66, 67, 68, 69, 70, 71, 72, 73, 74, 75, 76, 77, 78, 79, 80, 81, 82, 83, 84, 85, 86, 87, 88, 89, 90, 91, 92, 93, 94, 95, 96, 97, 98, 99, 100, 101, 102, 103, 104, 105, 106, 107, 108, 109, 110, 111, 112, 113, 114, 115, 116, 117, 118, 119, 120, 121, 122, 123, 124, 125, 126, 127, 128, 129, 130, 131, 132, 133, 134, 135, 136, 137, 138, 139, 140, 141, 142, 143, 144, 145, 146, 147, 148, 149, 150, 151, 152, 153, 154, 155, 156, 157, 158, 159, 160, 161, 162, 163, 164, 165, 166, 167, 168, 169, 170, 171, 172, 173, 174, 175, 176, 177, 178, 179, 180, 181, 182, 183, 184, 185, 186, 187, 188, 189, 190, 191, 192, 193, 194, 195, 196, 197, 198, 199, 200, 201, 202, 203, 204, 205, 206, 207, 208, 209, 210, 211, 212, 213, 214, 215, 216, 217, 218, 219, 220, 221, 222, 223, 224, 225, 226, 227, 228, 229, 230, 231, 232, 233, 234, 235, 236, 237, 245, 246, 247, 248, 249, 250, 251, 252, 253, 254, 255, 256, 257, 258, 259, 260, 261, 262, 263, 264, 265, 266, 267, 268, 269, 270, 271, 272, 273, 274, 275, 276, 277, 278] (by decide +kernel) (by decide +kernel)
set_option maxRecDepth 20000 in
theorem gX12_fair_X12_triesOf : GoodIn wsX12_fair (wsV RX12 102 RX12 yX12_triesOf wsX12_triesOf) := goodIn_app (goodIn_of _ (by decide +kernel)) ggX12_fair_X12_triesOf
set_option maxRecDepth 20000 in
theorem ggX12_fair_X12_common : GoodIn wsX12_fair wsX12_common := goodIn_r _ [240] (by decide +kernel) (by decide +kernel)
set_option maxRecDepth 20000 in
theorem gX12_fair_X12_common : GoodIn wsX12_fair (va_wsS RX12 347 yX12_common wsX12_common) := goodIn_app (goodIn_of _ (by decide +kernel)) ggX12_fair_X12_common
set_option maxRecDepth 20000 in
theorem ggX12_fair_X12_spendsOf : GoodIn wsX12_fair wsX12_spendsOf := goodIn_r _ [244, 21, 16, 22, 23, 24, 5, 25, 26, 27, 28, 15, 29, 30, 31, 32, 33, 34, 35, 36, 37, 38, 39, 40, 41, 42, 43, 44, 45, 46, 47, 48, 49, 50, 51, 52, 53, 54, 55, 56, 57, 58, 59, 3, 4, 6, 60, 61, 62, 63, 64, 65, 66, 67, 68, 69, 70, 71, 72, 73, 74, 75, 76, 77, 78, 79, 80, 81, 82, 83, 84, 85, 86, 87, 88, 89, 90, 91, 92, 93, 94, 95, 96, 97, 98, 99, 100, 101, 102, 103, 104, 105, 106, 107, 108, 109, 110, 111, 112, 113, 114, 115, 116, 117, 118, 119, 120, 121, 122, 123, 124, 125, 126, 127, 128, 129, 130, 131, 132, 133, 134, 135, 136, 137, 138, 139, 140, 141, 142, 143, 144, 145, 146, 147, 148, 149, 150, 151, 152, 153, 154, 155, 156, 157, 158, 159, 160, 161, 162, 163, 164, 165, 166, 167, 168, 169, 170, 171, 172, 173, 174, 175, 176, 177, 178, 179, 180, 181, 182, 183, 184, 185, 186, 187, 188, 189, 190, 191, 192, 193, 194, 195, 196, 197, 198, 199, 200, 201, 202, 203, 204, 205, 206, 207, 208, 209, 210, 211, 212, 213, 214, 215, 216, 217, 218, 219, 220, 221, 222, 223, 224, 225, 226, 227, 228, 229, 230, 231, 232, 233, 234, 235, 236, 237, 245, 246, 247, 248, 249, 250, 251, 252, 253, 254, 255, 256, 257, 258, 259, 260, 261, 262, 263, 264, 265, 266, 267, 268, 269, 270, 271, 272, 273, 274, 275, 276, 277, 278] (by decide +kernel) (by decide +kernel)
set_option maxRecDepth 20000 in
theorem gX12_fair_X12_spendsOf : GoodIn wsX12_fair (wsV RX12 105 RX12 yX12_spendsOf wsX12_spendsOf) := goodIn_app (goodIn_of _ (by decide +kernel)) ggX12_fair_X12_spendsOf
theorem dX12_fair_0 : decode cX12_fair 0 = .ok (.iload_n 1, 1) := by decide +kernel
theorem dX12_fair_1 : decode cX12_fair 1 = .ok (.i2l, 1) := by decide +kernel
theorem dX12_fair_2 : decode cX12_fair 2 = .ok (.lconst 0, 1) := by decide +kernel
theorem dX12_fair_3 : decode cX12_fair 3 = .ok (.lconst 1, 1) := by decide +kernel
theorem dX12_fair_4 : decode cX12_fair 4 = .ok (.invokestatic 64, 3) := by decide +kernel
theorem dX12_fair_7 : decode cX12_fair 7 = .ok (.ifCond .ne 7, 3) := by decide +kernel
theorem dX12_fair_10 : decode cX12_fair 10 = .ok (.ldc2_w 342, 3) := by decide +kernel
theorem dX12_fair_13 : decode cX12_fair 13 = .ok (.lreturn, 1) := by decide +kernel
theorem dX12_fair_14 : decode cX12_fair 14 = .ok (.lconst 1, 1) := by decide +kernel
theorem dX12_fair_15 : decode cX12_fair 15 = .ok (.lstore_n 2, 1) := by decide +kernel
theorem dX12_fair_16 : decode cX12_fair 16 = .ok (.iconst 0, 1) := by decide +kernel
theorem dX12_fair_17 : decode cX12_fair 17 = .ok (.istore 4, 2) := by decide +kernel
theorem dX12_fair_19 : decode cX12_fair 19 = .ok (.iload 4, 2) := by decide +kernel
theorem dX12_fair_21 : decode cX12_fair 21 = .ok (.aload_n 0, 1) := by decide +kernel
theorem dX12_fair_22 : decode cX12_fair 22 = .ok (.getfield 61, 3) := by decide +kernel
theorem dX12_fair_25 : decode cX12_fair 25 = .ok (.if_icmp .ge 44, 3) := by decide +kernel
theorem dX12_fair_28 : decode cX12_fair 28 = .ok (.lload_n 2, 1) := by decide +kernel
theorem dX12_fair_29 : decode cX12_fair 29 = .ok (.aload_n 0, 1) := by decide +kernel
theorem dX12_fair_30 : decode cX12_fair 30 = .ok (.iload 4, 2) := by decide +kernel
theorem dX12_fair_32 : decode cX12_fair 32 = .ok (.invokevirtual 344, 3) := by decide +kernel
theorem dX12_fair_35 : decode cX12_fair 35 = .ok (.ifCond .eq 25, 3) := by decide +kernel
theorem dX12_fair_38 : decode cX12_fair 38 = .ok (.aload_n 0, 1) := by decide +kernel
theorem dX12_fair_39 : decode cX12_fair 39 = .ok (.iload 4, 2) := by decide +kernel
theorem dX12_fair_41 : decode cX12_fair 41 = .ok (.invokevirtual 102, 3) := by decide +kernel
theorem dX12_fair_44 : decode cX12_fair 44 = .ok (.i2l, 1) := by decide +kernel
theorem dX12_fair_45 : decode cX12_fair 45 = .ok (.lload_n 2, 1) := by decide +kernel
theorem dX12_fair_46 : decode cX12_fair 46 = .ok (.aload_n 0, 1) := by decide +kernel
theorem dX12_fair_47 : decode cX12_fair 47 = .ok (.iload 4, 2) := by decide +kernel
theorem dX12_fair_49 : decode cX12_fair 49 = .ok (.invokevirtual 102, 3) := by decide +kernel
theorem dX12_fair_52 : decode cX12_fair 52 = .ok (.i2l, 1) := by decide +kernel
theorem dX12_fair_53 : decode cX12_fair 53 = .ok (.invokestatic 347, 3) := by decide +kernel
theorem dX12_fair_56 : decode cX12_fair 56 = .ok (.ldiv, 1) := by decide +kernel
theorem dX12_fair_57 : decode cX12_fair 57 = .ok (.goto 4, 3) := by decide +kernel
theorem dX12_fair_60 : decode cX12_fair 60 = .ok (.lconst 1, 1) := by decide +kernel
theorem dX12_fair_61 : decode cX12_fair 61 = .ok (.lmul, 1) := by decide +kernel
theorem dX12_fair_62 : decode cX12_fair 62 = .ok (.lstore_n 2, 1) := by decide +kernel
theorem dX12_fair_63 : decode cX12_fair 63 = .ok (.iinc 4 1, 3) := by decide +kernel
theorem dX12_fair_66 : decode cX12_fair 66 = .ok (.goto (-47), 3) := by decide +kernel
theorem dX12_fair_69 : decode cX12_fair 69 = .ok (.lconst 0, 1) := by decide +kernel
theorem dX12_fair_70 : decode cX12_fair 70 = .ok (.lstore 4, 2) := by decide +kernel
theorem dX12_fair_72 : decode cX12_fair 72 = .ok (.iconst 0, 1) := by decide +kernel
theorem dX12_fair_73 : decode cX12_fair 73 = .ok (.istore 6, 2) := by decide +kernel
theorem dX12_fair_75 : decode cX12_fair 75 = .ok (.iload 6, 2) := by decide +kernel
theorem dX12_fair_77 : decode cX12_fair 77 = .ok (.aload_n 0, 1) := by decide +kernel
theorem dX12_fair_78 : decode cX12_fair 78 = .ok (.getfield 61, 3) := by decide +kernel
theorem dX12_fair_81 : decode cX12_fair 81 = .ok (.if_icmp .ge 44, 3) := by decide +kernel
theorem dX12_fair_84 : decode cX12_fair 84 = .ok (.lload 4, 2) := by decide +kernel
theorem dX12_fair_86 : decode cX12_fair 86 = .ok (.aload_n 0, 1) := by decide +kernel
theorem dX12_fair_87 : decode cX12_fair 87 = .ok (.iload 6, 2) := by decide +kernel
theorem dX12_fair_89 : decode cX12_fair 89 = .ok (.invokevirtual 344, 3) := by decide +kernel
theorem dX12_fair_92 : decode cX12_fair 92 = .ok (.ifCond .eq 23, 3) := by decide +kernel
theorem dX12_fair_95 : decode cX12_fair 95 = .ok (.aload_n 0, 1) := by decide +kernel
theorem dX12_fair_96 : decode cX12_fair 96 = .ok (.iload 6, 2) := by decide +kernel
theorem dX12_fair_98 : decode cX12_fair 98 = .ok (.invokevirtual 105, 3) := by decide +kernel
theorem dX12_fair_101 : decode cX12_fair 101 = .ok (.i2l, 1) := by decide +kernel
theorem dX12_fair_102 : decode cX12_fair 102 = .ok (.lload_n 2, 1) := by decide +kernel
theorem dX12_fair_103 : decode cX12_fair 103 = .ok (.aload_n 0, 1) := by decide +kernel
theorem dX12_fair_104 : decode cX12_fair 104 = .ok (.iload 6, 2) := by decide +kernel
theorem dX12_fair_106 : decode cX12_fair 106 = .ok (.invokevirtual 102, 3) := by decide +kernel
theorem dX12_fair_109 : decode cX12_fair 109 = .ok (.i2l, 1) := by decide +kernel
theorem dX12_fair_110 : decode cX12_fair 110 = .ok (.ldiv, 1) := by decide +kernel
theorem dX12_fair_111 : decode cX12_fair 111 = .ok (.lmul, 1) := by decide +kernel
theorem dX12_fair_112 : decode cX12_fair 112 = .ok (.goto 4, 3) := by decide +kernel
theorem dX12_fair_115 : decode cX12_fair 115 = .ok (.lconst 0, 1) := by decide +kernel
theorem dX12_fair_116 : decode cX12_fair 116 = .ok (.ladd, 1) := by decide +kernel
theorem dX12_fair_117 : decode cX12_fair 117 = .ok (.lstore 4, 2) := by decide +kernel
theorem dX12_fair_119 : decode cX12_fair 119 = .ok (.iinc 6 1, 3) := by decide +kernel
theorem dX12_fair_122 : decode cX12_fair 122 = .ok (.goto (-47), 3) := by decide +kernel
theorem dX12_fair_125 : decode cX12_fair 125 = .ok (.lload 4, 2) := by decide +kernel
theorem dX12_fair_127 : decode cX12_fair 127 = .ok (.lload_n 2, 1) := by decide +kernel
theorem dX12_fair_128 : decode cX12_fair 128 = .ok (.invokestatic 347, 3) := by decide +kernel
theorem dX12_fair_131 : decode cX12_fair 131 = .ok (.lstore 6, 2) := by decide +kernel
theorem dX12_fair_133 : decode cX12_fair 133 = .ok (.iload_n 1, 1) := by decide +kernel
theorem dX12_fair_134 : decode cX12_fair 134 = .ok (.ifCond .ne 11, 3) := by decide +kernel
theorem dX12_fair_137 : decode cX12_fair 137 = .ok (.lload 4, 2) := by decide +kernel
theorem dX12_fair_139 : decode cX12_fair 139 = .ok (.lload 6, 2) := by decide +kernel
theorem dX12_fair_141 : decode cX12_fair 141 = .ok (.ldiv, 1) := by decide +kernel
theorem dX12_fair_142 : decode cX12_fair 142 = .ok (.goto 7, 3) := by decide +kernel
theorem dX12_fair_145 : decode cX12_fair 145 = .ok (.lload_n 2, 1) := by decide +kernel
theorem dX12_fair_146 : decode cX12_fair 146 = .ok (.lload 6, 2) := by decide +kernel
theorem dX12_fair_148 : decode cX12_fair 148 = .ok (.ldiv, 1) := by decide +kernel
theorem dX12_fair_149 : decode cX12_fair 149 = .ok (.lreturn, 1) := by decide +kernel
set_option maxRecDepth 20000 in
theorem ggX12_buysOne_X12_in : GoodIn wsX12_buysOne wsX12_in := goodIn_r _ [6] (by decide +kernel) (by decide +kernel)
set_option maxRecDepth 20000 in
theorem gX12_buysOne_X12_in : GoodIn wsX12_buysOne (va_wsS RX12 64 yX12_in wsX12_in) := goodIn_app (goodIn_of _ (by decide +kernel)) ggX12_buysOne_X12_in
set_option maxRecDepth 20000 in
theorem ggX12_buysOne_X12_buys : GoodIn wsX12_buysOne wsX12_buys := goodIn_r _ [10, 11, 12, 13, 5, 14, 15, 16, 17, 18, 19, 20, 21, 22, 23, 24, 25, 26, 27, 28, 29, 30, 31, 32, 33, 34, 35, 36, 37, 38, 39, 40, 41, 42, 43, 44, 45, 46, 47, 48, 49, 50, 51, 52, 53, 54, 55, 56, 57, 58, 59, 3, 4, 6, 60, 61, 62, 63, 64, 65, 66, 67, 68, 69, 70, 71, 72, 73, 74, 75, 76, 77, 78, 79, 80, 81, 82, 83, 84, 85, 86, 87, 88, 89, 90, 91, 92, 93, 94, 95, 96, 97, 98, 99, 100, 101, 102, 103, 104, 105, 106, 107, 108, 109, 110, 111, 112, 113, 114, 115, 116, 117, 118, 119, 120, 121, 122, 123, 124, 125, 126, 127, 128, 129, 130, 131, 132, 133, 134, 135, 136, 137, 138, 139, 140, 141, 142, 143, 144, 145, 146, 147, 148, 149, 150, 151, 152, 153, 154, 155, 156, 157, 158, 159, 160, 161, 162, 163, 164, 165, 166, 167, 168, 169, 170, 171, 172, 173, 174, 175, 176, 177, 178, 179, 180, 181, 182, 183, 184, 185, 186, 187, 188, 189, 190, 191, 192, 193, 194, 195, 196, 197, 198, 199, 200, 201, 202, 203, 204, 205, 206, 207, 208, 209, 210, 211, 212, 213, 214, 215, 216, 217, 218, 219, 220, 221, 222, 223, 224, 225, 226, 227, 228, 229, 230, 231, 232, 233, 234, 235, 236, 237, 241, 242, 243, 244, 245, 246, 247, 248, 249, 250, 251, 252, 253, 254, 255, 256, 257, 258, 259, 260, 261, 262, 263, 264, 265, 266, 267, 268, 269, 270, 271, 272, 273, 274] (by decide +kernel) (by decide +kernel)
set_option maxRecDepth 20000 in
theorem gX12_buysOne_X12_buys : GoodIn wsX12_buysOne (wsV RX12 344 RX12 yX12_buys wsX12_buys) := goodIn_app (goodIn_of _ (by decide +kernel)) ggX12_buysOne_X12_buys
set_option maxRecDepth 20000 in
theorem ggX12_buysOne_X12_triesOf : GoodIn wsX12_buysOne wsX12_triesOf := goodIn_r _ [20, 21, 15, 16, 22, 23, 24, 5, 25, 26, 27, 28, 29, 30, 31, 32, 33, 34, 35, 36, 37, 38, 39, 40, 41, 42, 43, 44, 45, 46, 47, 48, 49, 50, 51, 52, 53, 54, 55, 56, 57, 58, 59, 3, 4, 6, 60, 61, 62, 63, 64, 65, 66, 67, 68, 69, 70, 71, 72, 73, 74, 75, 76, 77, 78, 79, 80, 81, 82, 83, 84, 85, 86, 87, 88, 89, 90, 91, 92, 93, 94, 95, 96, 97, 98, 99, 100, 101, 102, 103, 104, 105, 106, 107, 108, 109, 110, 111, 112, 113, 114, 115, 116, 117, 118, 119, 120, 121, 122, 123, 124, 125, 126, 127, 128, 129, 130, 131, 132, 133, 134, 135, 136, 137, 138, 139, 140, 141, 142, 143, 144, 145, 146, 147, 148, 149, 150, 151, 152, 153, 154, 155, 156, 157, 158, 159, 160, 161, 162, 163, 164, 165, 166, 167, 168, 169, 170, 171, 172, 173, 174, 175, 176, 177, 178, 179, 180, 181, 182, 183, 184, 185, 186, 187, 188, 189, 190, 191, 192, 193, 194, 195, 196, 197, 198, 199, 200, 201, 202, 203, 204, 205, 206, 207, 208, 209, 210, 211, 212, 213, 214, 215, 216, 217, 218, 219, 220, 221, 222, 223, 224, 225, 226, 227, 228, 229, 230, 231, 232, 233, 234, 235, 236, 237, 241, 242, 243, 244, 245, 246, 247, 248, 249, 250, 251, 252, 253, 254, 255, 256, 257, 258, 259, 260, 261, 262, 263, 264, 265, 266, 267, 268, 269, 270, 271, 272, 273, 274] (by decide +kernel) (by decide +kernel)
set_option maxRecDepth 20000 in
theorem gX12_buysOne_X12_triesOf : GoodIn wsX12_buysOne (wsV RX12 102 RX12 yX12_triesOf wsX12_triesOf) := goodIn_app (goodIn_of _ (by decide +kernel)) ggX12_buysOne_X12_triesOf
set_option maxRecDepth 20000 in
theorem ggX12_buysOne_X12_common : GoodIn wsX12_buysOne wsX12_common := goodIn_r _ [240] (by decide +kernel) (by decide +kernel)
set_option maxRecDepth 20000 in
theorem gX12_buysOne_X12_common : GoodIn wsX12_buysOne (va_wsS RX12 347 yX12_common wsX12_common) := goodIn_app (goodIn_of _ (by decide +kernel)) ggX12_buysOne_X12_common
theorem dX12_buysOne_0 : decode cX12_buysOne 0 = .ok (.iload_n 1, 1) := by decide +kernel
theorem dX12_buysOne_1 : decode cX12_buysOne 1 = .ok (.i2l, 1) := by decide +kernel
theorem dX12_buysOne_2 : decode cX12_buysOne 2 = .ok (.lconst 0, 1) := by decide +kernel
theorem dX12_buysOne_3 : decode cX12_buysOne 3 = .ok (.lconst 1, 1) := by decide +kernel
theorem dX12_buysOne_4 : decode cX12_buysOne 4 = .ok (.invokestatic 64, 3) := by decide +kernel
theorem dX12_buysOne_7 : decode cX12_buysOne 7 = .ok (.ifCond .ne 7, 3) := by decide +kernel
theorem dX12_buysOne_10 : decode cX12_buysOne 10 = .ok (.ldc2_w 342, 3) := by decide +kernel
theorem dX12_buysOne_13 : decode cX12_buysOne 13 = .ok (.lreturn, 1) := by decide +kernel
theorem dX12_buysOne_14 : decode cX12_buysOne 14 = .ok (.lconst 1, 1) := by decide +kernel
theorem dX12_buysOne_15 : decode cX12_buysOne 15 = .ok (.lstore_n 2, 1) := by decide +kernel
theorem dX12_buysOne_16 : decode cX12_buysOne 16 = .ok (.lconst 1, 1) := by decide +kernel
theorem dX12_buysOne_17 : decode cX12_buysOne 17 = .ok (.lstore 4, 2) := by decide +kernel
theorem dX12_buysOne_19 : decode cX12_buysOne 19 = .ok (.iconst 0, 1) := by decide +kernel
theorem dX12_buysOne_20 : decode cX12_buysOne 20 = .ok (.istore 6, 2) := by decide +kernel
theorem dX12_buysOne_22 : decode cX12_buysOne 22 = .ok (.iload 6, 2) := by decide +kernel
theorem dX12_buysOne_24 : decode cX12_buysOne 24 = .ok (.aload_n 0, 1) := by decide +kernel
theorem dX12_buysOne_25 : decode cX12_buysOne 25 = .ok (.getfield 61, 3) := by decide +kernel
theorem dX12_buysOne_28 : decode cX12_buysOne 28 = .ok (.if_icmp .ge 59, 3) := by decide +kernel
theorem dX12_buysOne_31 : decode cX12_buysOne 31 = .ok (.lload_n 2, 1) := by decide +kernel
theorem dX12_buysOne_32 : decode cX12_buysOne 32 = .ok (.aload_n 0, 1) := by decide +kernel
theorem dX12_buysOne_33 : decode cX12_buysOne 33 = .ok (.iload 6, 2) := by decide +kernel
theorem dX12_buysOne_35 : decode cX12_buysOne 35 = .ok (.invokevirtual 344, 3) := by decide +kernel
theorem dX12_buysOne_38 : decode cX12_buysOne 38 = .ok (.ifCond .eq 13, 3) := by decide +kernel
theorem dX12_buysOne_41 : decode cX12_buysOne 41 = .ok (.aload_n 0, 1) := by decide +kernel
theorem dX12_buysOne_42 : decode cX12_buysOne 42 = .ok (.iload 6, 2) := by decide +kernel
theorem dX12_buysOne_44 : decode cX12_buysOne 44 = .ok (.invokevirtual 102, 3) := by decide +kernel
theorem dX12_buysOne_47 : decode cX12_buysOne 47 = .ok (.i2l, 1) := by decide +kernel
theorem dX12_buysOne_48 : decode cX12_buysOne 48 = .ok (.goto 4, 3) := by decide +kernel
theorem dX12_buysOne_51 : decode cX12_buysOne 51 = .ok (.lconst 1, 1) := by decide +kernel
theorem dX12_buysOne_52 : decode cX12_buysOne 52 = .ok (.lmul, 1) := by decide +kernel
theorem dX12_buysOne_53 : decode cX12_buysOne 53 = .ok (.lstore_n 2, 1) := by decide +kernel
theorem dX12_buysOne_54 : decode cX12_buysOne 54 = .ok (.lload 4, 2) := by decide +kernel
theorem dX12_buysOne_56 : decode cX12_buysOne 56 = .ok (.aload_n 0, 1) := by decide +kernel
theorem dX12_buysOne_57 : decode cX12_buysOne 57 = .ok (.iload 6, 2) := by decide +kernel
theorem dX12_buysOne_59 : decode cX12_buysOne 59 = .ok (.invokevirtual 344, 3) := by decide +kernel
theorem dX12_buysOne_62 : decode cX12_buysOne 62 = .ok (.ifCond .eq 15, 3) := by decide +kernel
theorem dX12_buysOne_65 : decode cX12_buysOne 65 = .ok (.aload_n 0, 1) := by decide +kernel
theorem dX12_buysOne_66 : decode cX12_buysOne 66 = .ok (.iload 6, 2) := by decide +kernel
theorem dX12_buysOne_68 : decode cX12_buysOne 68 = .ok (.invokevirtual 102, 3) := by decide +kernel
theorem dX12_buysOne_71 : decode cX12_buysOne 71 = .ok (.i2l, 1) := by decide +kernel
theorem dX12_buysOne_72 : decode cX12_buysOne 72 = .ok (.lconst 1, 1) := by decide +kernel
theorem dX12_buysOne_73 : decode cX12_buysOne 73 = .ok (.lsub, 1) := by decide +kernel
theorem dX12_buysOne_74 : decode cX12_buysOne 74 = .ok (.goto 4, 3) := by decide +kernel
theorem dX12_buysOne_77 : decode cX12_buysOne 77 = .ok (.lconst 1, 1) := by decide +kernel
theorem dX12_buysOne_78 : decode cX12_buysOne 78 = .ok (.lmul, 1) := by decide +kernel
theorem dX12_buysOne_79 : decode cX12_buysOne 79 = .ok (.lstore 4, 2) := by decide +kernel
theorem dX12_buysOne_81 : decode cX12_buysOne 81 = .ok (.iinc 6 1, 3) := by decide +kernel
theorem dX12_buysOne_84 : decode cX12_buysOne 84 = .ok (.goto (-62), 3) := by decide +kernel
theorem dX12_buysOne_87 : decode cX12_buysOne 87 = .ok (.lload_n 2, 1) := by decide +kernel
theorem dX12_buysOne_88 : decode cX12_buysOne 88 = .ok (.lload 4, 2) := by decide +kernel
theorem dX12_buysOne_90 : decode cX12_buysOne 90 = .ok (.lsub, 1) := by decide +kernel
theorem dX12_buysOne_91 : decode cX12_buysOne 91 = .ok (.lload_n 2, 1) := by decide +kernel
theorem dX12_buysOne_92 : decode cX12_buysOne 92 = .ok (.invokestatic 347, 3) := by decide +kernel
theorem dX12_buysOne_95 : decode cX12_buysOne 95 = .ok (.lstore 6, 2) := by decide +kernel
theorem dX12_buysOne_97 : decode cX12_buysOne 97 = .ok (.iload_n 1, 1) := by decide +kernel
theorem dX12_buysOne_98 : decode cX12_buysOne 98 = .ok (.ifCond .ne 13, 3) := by decide +kernel
theorem dX12_buysOne_101 : decode cX12_buysOne 101 = .ok (.lload_n 2, 1) := by decide +kernel
theorem dX12_buysOne_102 : decode cX12_buysOne 102 = .ok (.lload 4, 2) := by decide +kernel
theorem dX12_buysOne_104 : decode cX12_buysOne 104 = .ok (.lsub, 1) := by decide +kernel
theorem dX12_buysOne_105 : decode cX12_buysOne 105 = .ok (.lload 6, 2) := by decide +kernel
theorem dX12_buysOne_107 : decode cX12_buysOne 107 = .ok (.ldiv, 1) := by decide +kernel
theorem dX12_buysOne_108 : decode cX12_buysOne 108 = .ok (.goto 7, 3) := by decide +kernel
theorem dX12_buysOne_111 : decode cX12_buysOne 111 = .ok (.lload_n 2, 1) := by decide +kernel
theorem dX12_buysOne_112 : decode cX12_buysOne 112 = .ok (.lload 6, 2) := by decide +kernel
theorem dX12_buysOne_114 : decode cX12_buysOne 114 = .ok (.ldiv, 1) := by decide +kernel
theorem dX12_buysOne_115 : decode cX12_buysOne 115 = .ok (.lreturn, 1) := by decide +kernel
set_option maxRecDepth 20000 in
theorem ggX12_hour_X12_in : GoodIn wsX12_hour wsX12_in := goodIn_r _ [7] (by decide +kernel) (by decide +kernel)
set_option maxRecDepth 20000 in
theorem gX12_hour_X12_in : GoodIn wsX12_hour (va_wsS RX12 64 yX12_in wsX12_in) := goodIn_app (goodIn_of _ (by decide +kernel)) ggX12_hour_X12_in
set_option maxRecDepth 20000 in
theorem ggX12_hour_X12_eatenIn : GoodIn wsX12_hour wsX12_eatenIn := goodIn_r _ [11, 2, 3, 12, 13, 14, 6, 15, 16, 17, 18, 19, 20, 21, 22, 23, 24, 25, 26, 27, 28, 29, 30, 31, 32, 33, 34, 35, 36, 37, 38, 39, 40, 41, 42, 43, 44, 45, 46, 47, 48, 49, 50, 51, 52, 53, 54, 55, 56, 57, 58, 59, 4, 5, 7, 60, 61, 62, 63, 64, 65, 66, 67, 68, 69, 70, 71, 72, 73, 74, 75, 76, 77, 78, 79, 80, 81, 82, 83, 84, 85, 86, 87, 88, 89, 90, 91, 92, 93, 94, 95, 96, 97, 98, 99, 100, 101, 102, 103, 104, 105, 106, 107, 108, 109, 110, 111, 112, 113, 114, 115, 116, 117, 118, 119, 120, 121, 122, 123, 124, 125, 126, 127, 128, 129, 130, 131, 132, 133, 134, 135, 136, 137, 138, 139, 140, 141, 142, 143, 144, 145, 146, 147, 148, 149, 150, 151, 152, 153, 154, 155, 156, 157, 158, 159, 160, 161, 162, 163, 164, 165, 166, 167, 168, 169, 170, 171, 172, 173, 174, 175, 176, 177, 178, 179, 180, 181, 182, 183, 184, 185, 186, 187, 188, 189, 190, 191, 192, 193, 194, 195, 196, 197, 198, 199, 200, 201, 202, 203, 204, 205, 206, 207, 208, 209, 210, 211, 212, 213, 214, 215, 216, 217, 218, 219, 220, 221, 222, 223, 224, 225, 226, 227, 228, 229, 230, 231, 232, 233, 234, 235, 236, 237, 238, 239, 240, 241, 242, 243, 244, 245, 246, 247, 248, 249, 250, 251, 252, 253, 254, 255, 256, 257, 258, 259, 260, 261, 262, 263, 264, 265, 266, 267, 268, 269, 270, 271] (by decide +kernel) (by decide +kernel)
set_option maxRecDepth 20000 in
theorem gX12_hour_X12_eatenIn : GoodIn wsX12_hour (wsV RX12 333 RX12 yX12_eatenIn wsX12_eatenIn) := goodIn_app (goodIn_of _ (by decide +kernel)) ggX12_hour_X12_eatenIn
set_option maxRecDepth 20000 in
theorem ggX12_hour_X12_isThereNow : GoodIn wsX12_hour wsX12_isThereNow := goodIn_r _ [15, 16, 3, 238, 239, 240, 241, 242, 243, 244, 245, 246, 247, 248, 249, 250, 251, 252, 253, 254, 255, 256, 257, 258, 259, 260, 261, 262, 263, 264, 265, 266, 267, 268, 269, 270, 271] (by decide +kernel) (by decide +kernel)
set_option maxRecDepth 20000 in
theorem gX12_hour_X12_isThereNow : GoodIn wsX12_hour (wsV RX12 108 RX12 yX12_isThereNow wsX12_isThereNow) := goodIn_app (goodIn_of _ (by decide +kernel)) ggX12_hour_X12_isThereNow
theorem dX12_hour_0 : decode cX12_hour 0 = .ok (.iload_n 1, 1) := by decide +kernel
theorem dX12_hour_1 : decode cX12_hour 1 = .ok (.i2l, 1) := by decide +kernel
theorem dX12_hour_2 : decode cX12_hour 2 = .ok (.lconst 0, 1) := by decide +kernel
theorem dX12_hour_3 : decode cX12_hour 3 = .ok (.ldc2_w 94, 3) := by decide +kernel
theorem dX12_hour_6 : decode cX12_hour 6 = .ok (.invokestatic 64, 3) := by decide +kernel
theorem dX12_hour_9 : decode cX12_hour 9 = .ok (.ifCond .eq 13, 3) := by decide +kernel
theorem dX12_hour_12 : decode cX12_hour 12 = .ok (.iload_n 2, 1) := by decide +kernel
theorem dX12_hour_13 : decode cX12_hour 13 = .ok (.i2l, 1) := by decide +kernel
theorem dX12_hour_14 : decode cX12_hour 14 = .ok (.lconst 0, 1) := by decide +kernel
theorem dX12_hour_15 : decode cX12_hour 15 = .ok (.lconst 1, 1) := by decide +kernel
theorem dX12_hour_16 : decode cX12_hour 16 = .ok (.invokestatic 64, 3) := by decide +kernel
theorem dX12_hour_19 : decode cX12_hour 19 = .ok (.ifCond .ne 6, 3) := by decide +kernel
theorem dX12_hour_22 : decode cX12_hour 22 = .ok (.bipush (-2), 2) := by decide +kernel
theorem dX12_hour_24 : decode cX12_hour 24 = .ok (.ireturn, 1) := by decide +kernel
theorem dX12_hour_25 : decode cX12_hour 25 = .ok (.iload_n 2, 1) := by decide +kernel
theorem dX12_hour_26 : decode cX12_hour 26 = .ok (.ifCond .ne 9, 3) := by decide +kernel
theorem dX12_hour_29 : decode cX12_hour 29 = .ok (.aload_n 0, 1) := by decide +kernel
theorem dX12_hour_30 : decode cX12_hour 30 = .ok (.iload_n 1, 1) := by decide +kernel
theorem dX12_hour_31 : decode cX12_hour 31 = .ok (.invokevirtual 333, 3) := by decide +kernel
theorem dX12_hour_34 : decode cX12_hour 34 = .ok (.ireturn, 1) := by decide +kernel
theorem dX12_hour_35 : decode cX12_hour 35 = .ok (.iconst 0, 1) := by decide +kernel
theorem dX12_hour_36 : decode cX12_hour 36 = .ok (.istore_n 3, 1) := by decide +kernel
theorem dX12_hour_37 : decode cX12_hour 37 = .ok (.iconst 0, 1) := by decide +kernel
theorem dX12_hour_38 : decode cX12_hour 38 = .ok (.istore 4, 2) := by decide +kernel
theorem dX12_hour_40 : decode cX12_hour 40 = .ok (.iload 4, 2) := by decide +kernel
theorem dX12_hour_42 : decode cX12_hour 42 = .ok (.aload_n 0, 1) := by decide +kernel
theorem dX12_hour_43 : decode cX12_hour 43 = .ok (.getfield 61, 3) := by decide +kernel
theorem dX12_hour_46 : decode cX12_hour 46 = .ok (.if_icmp .ge 44, 3) := by decide +kernel
theorem dX12_hour_49 : decode cX12_hour 49 = .ok (.iload_n 3, 1) := by decide +kernel
theorem dX12_hour_50 : decode cX12_hour 50 = .ok (.aload_n 0, 1) := by decide +kernel
theorem dX12_hour_51 : decode cX12_hour 51 = .ok (.iload 4, 2) := by decide +kernel
theorem dX12_hour_53 : decode cX12_hour 53 = .ok (.invokevirtual 108, 3) := by decide +kernel
theorem dX12_hour_56 : decode cX12_hour 56 = .ok (.ifCond .eq 22, 3) := by decide +kernel
theorem dX12_hour_59 : decode cX12_hour 59 = .ok (.aload_n 0, 1) := by decide +kernel
theorem dX12_hour_60 : decode cX12_hour 60 = .ok (.getfield 29, 3) := by decide +kernel
theorem dX12_hour_63 : decode cX12_hour 63 = .ok (.iconst 4, 1) := by decide +kernel
theorem dX12_hour_64 : decode cX12_hour 64 = .ok (.iload 4, 2) := by decide +kernel
theorem dX12_hour_66 : decode cX12_hour 66 = .ok (.imul, 1) := by decide +kernel
theorem dX12_hour_67 : decode cX12_hour 67 = .ok (.iconst 1, 1) := by decide +kernel
theorem dX12_hour_68 : decode cX12_hour 68 = .ok (.iadd, 1) := by decide +kernel
theorem dX12_hour_69 : decode cX12_hour 69 = .ok (.iaload, 1) := by decide +kernel
theorem dX12_hour_70 : decode cX12_hour 70 = .ok (.iload_n 1, 1) := by decide +kernel
theorem dX12_hour_71 : decode cX12_hour 71 = .ok (.if_icmp .ne 7, 3) := by decide +kernel
theorem dX12_hour_74 : decode cX12_hour 74 = .ok (.iconst 1, 1) := by decide +kernel
theorem dX12_hour_75 : decode cX12_hour 75 = .ok (.goto 4, 3) := by decide +kernel
theorem dX12_hour_78 : decode cX12_hour 78 = .ok (.iconst 0, 1) := by decide +kernel
theorem dX12_hour_79 : decode cX12_hour 79 = .ok (.iload 4, 2) := by decide +kernel
theorem dX12_hour_81 : decode cX12_hour 81 = .ok (.ishl, 1) := by decide +kernel
theorem dX12_hour_82 : decode cX12_hour 82 = .ok (.ior, 1) := by decide +kernel
theorem dX12_hour_83 : decode cX12_hour 83 = .ok (.istore_n 3, 1) := by decide +kernel
theorem dX12_hour_84 : decode cX12_hour 84 = .ok (.iinc 4 1, 3) := by decide +kernel
theorem dX12_hour_87 : decode cX12_hour 87 = .ok (.goto (-47), 3) := by decide +kernel
theorem dX12_hour_90 : decode cX12_hour 90 = .ok (.iload_n 3, 1) := by decide +kernel
theorem dX12_hour_91 : decode cX12_hour 91 = .ok (.ireturn, 1) := by decide +kernel
set_option maxRecDepth 20000 in
theorem ggX12_bestOf_X12_leastOf : GoodIn wsX12_bestOf wsX12_leastOf := goodIn_r _ [5] (by decide +kernel) (by decide +kernel)
set_option maxRecDepth 20000 in
theorem gX12_bestOf_X12_leastOf : GoodIn wsX12_bestOf (va_wsS RX12 74 yX12_leastOf wsX12_leastOf) := goodIn_app (goodIn_of _ (by decide +kernel)) ggX12_bestOf_X12_leastOf
set_option maxRecDepth 20000 in
theorem ggX12_bestOf_X12_mostOf : GoodIn wsX12_bestOf wsX12_mostOf := goodIn_r _ [8] (by decide +kernel) (by decide +kernel)
set_option maxRecDepth 20000 in
theorem gX12_bestOf_X12_mostOf : GoodIn wsX12_bestOf (va_wsS RX12 78 yX12_mostOf wsX12_mostOf) := goodIn_app (goodIn_of _ (by decide +kernel)) ggX12_bestOf_X12_mostOf
set_option maxRecDepth 20000 in
theorem ggX12_bestOf_X12_gainAll : GoodIn wsX12_bestOf wsX12_gainAll := goodIn_r _ [12, 13, 14, 15, 16, 4, 17, 18, 19, 20, 21, 1, 22, 23, 24, 25, 26, 27, 28, 29, 30, 31, 32, 33, 34, 35, 36, 37, 38, 39, 40, 41, 42, 43, 44, 45, 46, 47, 48, 49, 50, 51, 52, 53, 54, 55, 56, 57, 58, 59, 60, 61, 62, 63, 64, 65, 66, 67, 68, 69, 70, 71, 72, 73, 74, 75, 76, 77, 78, 79, 80, 81, 82, 83, 84, 85, 86, 87, 88, 89, 90, 91, 92, 93, 94, 95, 96, 97, 98, 99, 100, 101, 102, 103, 104, 105, 106, 107, 108, 109, 110, 111, 112, 113, 114, 115, 116, 117, 118, 119, 120, 121, 122, 123, 124, 125, 126, 127, 128, 129, 130, 131, 132, 133, 134, 135, 136, 137, 138, 139, 140, 141, 142, 143, 144, 145, 146, 147, 148, 149, 150, 151, 152, 153, 154, 155, 156, 157, 158, 159, 160, 161, 162, 163, 164, 165, 166, 167, 168, 169, 170, 171, 172, 173, 174, 175, 176, 177, 178, 179, 180, 181, 182, 183, 184, 185, 186, 187, 188, 189, 190, 191, 192, 193, 194, 195, 196, 197, 198, 199, 200, 201, 202, 203, 204, 205, 206, 207, 208, 209, 210, 211, 212, 213, 214, 215, 216, 217, 218, 219, 220, 221, 222, 223, 224, 225, 226, 227, 228, 229, 230, 231, 232, 233, 234, 235, 236, 237, 238, 239, 240, 241, 242, 243, 244, 245, 246, 247, 248, 249, 250, 251, 252, 253, 254, 255, 256, 257, 258, 259, 260, 261, 262, 263, 264, 265, 266, 267, 268, 269, 270, 271, 272, 273, 274, 275, 276, 277, 278, 279, 280, 281, 282, 283, 284, 285, 286, 287, 288, 289, 290, 291, 292] (by decide +kernel) (by decide +kernel)
set_option maxRecDepth 20000 in
theorem gX12_bestOf_X12_gainAll : GoodIn wsX12_bestOf (wsV RX12 336 RX12 yX12_gainAll wsX12_gainAll) := goodIn_app (goodIn_of _ (by decide +kernel)) ggX12_bestOf_X12_gainAll
theorem dX12_bestOf_0 : decode cX12_bestOf 0 = .ok (.aload_n 0, 1) := by decide +kernel
theorem dX12_bestOf_1 : decode cX12_bestOf 1 = .ok (.getfield 23, 3) := by decide +kernel
theorem dX12_bestOf_4 : decode cX12_bestOf 4 = .ok (.iload_n 2, 1) := by decide +kernel
theorem dX12_bestOf_5 : decode cX12_bestOf 5 = .ok (.iaload, 1) := by decide +kernel
theorem dX12_bestOf_6 : decode cX12_bestOf 6 = .ok (.istore_n 3, 1) := by decide +kernel
theorem dX12_bestOf_7 : decode cX12_bestOf 7 = .ok (.iconst (-1), 1) := by decide +kernel
theorem dX12_bestOf_8 : decode cX12_bestOf 8 = .ok (.istore 4, 2) := by decide +kernel
theorem dX12_bestOf_10 : decode cX12_bestOf 10 = .ok (.iconst 0, 1) := by decide +kernel
theorem dX12_bestOf_11 : decode cX12_bestOf 11 = .ok (.istore 5, 2) := by decide +kernel
theorem dX12_bestOf_13 : decode cX12_bestOf 13 = .ok (.iload_n 2, 1) := by decide +kernel
theorem dX12_bestOf_14 : decode cX12_bestOf 14 = .ok (.invokestatic 74, 3) := by decide +kernel
theorem dX12_bestOf_17 : decode cX12_bestOf 17 = .ok (.istore 6, 2) := by decide +kernel
theorem dX12_bestOf_19 : decode cX12_bestOf 19 = .ok (.iload 6, 2) := by decide +kernel
theorem dX12_bestOf_21 : decode cX12_bestOf 21 = .ok (.iload_n 2, 1) := by decide +kernel
theorem dX12_bestOf_22 : decode cX12_bestOf 22 = .ok (.invokestatic 78, 3) := by decide +kernel
theorem dX12_bestOf_25 : decode cX12_bestOf 25 = .ok (.if_icmp .gt 44, 3) := by decide +kernel
theorem dX12_bestOf_28 : decode cX12_bestOf 28 = .ok (.aload_n 0, 1) := by decide +kernel
theorem dX12_bestOf_29 : decode cX12_bestOf 29 = .ok (.getfield 23, 3) := by decide +kernel
theorem dX12_bestOf_32 : decode cX12_bestOf 32 = .ok (.iload_n 2, 1) := by decide +kernel
theorem dX12_bestOf_33 : decode cX12_bestOf 33 = .ok (.iload 6, 2) := by decide +kernel
theorem dX12_bestOf_35 : decode cX12_bestOf 35 = .ok (.iastore, 1) := by decide +kernel
theorem dX12_bestOf_36 : decode cX12_bestOf 36 = .ok (.aload_n 0, 1) := by decide +kernel
theorem dX12_bestOf_37 : decode cX12_bestOf 37 = .ok (.invokevirtual 336, 3) := by decide +kernel
theorem dX12_bestOf_40 : decode cX12_bestOf 40 = .ok (.istore 7, 2) := by decide +kernel
theorem dX12_bestOf_42 : decode cX12_bestOf 42 = .ok (.iload 4, 2) := by decide +kernel
theorem dX12_bestOf_44 : decode cX12_bestOf 44 = .ok (.iconst (-1), 1) := by decide +kernel
theorem dX12_bestOf_45 : decode cX12_bestOf 45 = .ok (.if_icmp .eq 10, 3) := by decide +kernel
theorem dX12_bestOf_48 : decode cX12_bestOf 48 = .ok (.iload 7, 2) := by decide +kernel
theorem dX12_bestOf_50 : decode cX12_bestOf 50 = .ok (.iload 5, 2) := by decide +kernel
theorem dX12_bestOf_52 : decode cX12_bestOf 52 = .ok (.if_icmp .le 11, 3) := by decide +kernel
theorem dX12_bestOf_55 : decode cX12_bestOf 55 = .ok (.iload 6, 2) := by decide +kernel
theorem dX12_bestOf_57 : decode cX12_bestOf 57 = .ok (.istore 4, 2) := by decide +kernel
theorem dX12_bestOf_59 : decode cX12_bestOf 59 = .ok (.iload 7, 2) := by decide +kernel
theorem dX12_bestOf_61 : decode cX12_bestOf 61 = .ok (.istore 5, 2) := by decide +kernel
theorem dX12_bestOf_63 : decode cX12_bestOf 63 = .ok (.iinc 6 1, 3) := by decide +kernel
theorem dX12_bestOf_66 : decode cX12_bestOf 66 = .ok (.goto (-47), 3) := by decide +kernel
theorem dX12_bestOf_69 : decode cX12_bestOf 69 = .ok (.aload_n 0, 1) := by decide +kernel
theorem dX12_bestOf_70 : decode cX12_bestOf 70 = .ok (.getfield 23, 3) := by decide +kernel
theorem dX12_bestOf_73 : decode cX12_bestOf 73 = .ok (.iload_n 2, 1) := by decide +kernel
theorem dX12_bestOf_74 : decode cX12_bestOf 74 = .ok (.iload_n 3, 1) := by decide +kernel
theorem dX12_bestOf_75 : decode cX12_bestOf 75 = .ok (.iastore, 1) := by decide +kernel
theorem dX12_bestOf_76 : decode cX12_bestOf 76 = .ok (.iload_n 1, 1) := by decide +kernel
theorem dX12_bestOf_77 : decode cX12_bestOf 77 = .ok (.ifCond .ne 8, 3) := by decide +kernel
theorem dX12_bestOf_80 : decode cX12_bestOf 80 = .ok (.iload 4, 2) := by decide +kernel
theorem dX12_bestOf_82 : decode cX12_bestOf 82 = .ok (.goto 5, 3) := by decide +kernel
theorem dX12_bestOf_85 : decode cX12_bestOf 85 = .ok (.iload 5, 2) := by decide +kernel
theorem dX12_bestOf_87 : decode cX12_bestOf 87 = .ok (.ireturn, 1) := by decide +kernel
set_option maxRecDepth 20000 in
theorem ggX12_cubes_X12_in : GoodIn wsX12_cubes wsX12_in := goodIn_r _ [5] (by decide +kernel) (by decide +kernel)
set_option maxRecDepth 20000 in
theorem gX12_cubes_X12_in : GoodIn wsX12_cubes (va_wsS RX12 64 yX12_in wsX12_in) := goodIn_app (goodIn_of _ (by decide +kernel)) ggX12_cubes_X12_in
set_option maxRecDepth 20000 in
theorem ggX12_cubes_X12_bestOf : GoodIn wsX12_cubes wsX12_bestOf := goodIn_r _ [9, 10, 11, 12, 4, 13, 14, 15, 16, 17, 18, 19, 20, 21, 22, 23, 24, 25, 26, 27, 28, 29, 30, 31, 32, 33, 34, 35, 36, 37, 38, 39, 40, 41, 42, 43, 44, 45, 46, 47, 48, 49, 50, 51, 52, 53, 54, 55, 56, 57, 58, 59, 60, 61, 62, 63, 64, 65, 66, 67, 68, 69, 70, 71, 72, 73, 2, 3, 5, 74, 75, 76, 77, 78, 79, 80, 81, 82, 83, 84, 85, 86, 87, 88, 89, 90, 91, 92, 93, 94, 95, 96, 97, 98, 99, 100, 101, 102, 103, 104, 105, 106, 107, 108, 109, 110, 111, 112, 113, 114, 115, 116, 117, 118, 119, 120, 121, 122, 123, 124, 125, 126, 127, 128, 129, 130, 131, 132, 133, 134, 135, 136, 137, 138, 139, 140, 141, 142, 143, 144, 145, 146, 147, 148, 149, 150, 151, 152, 153, 154, 155, 156, 157, 158, 159, 160, 161, 162, 163, 164, 165, 166, 167, 168, 169, 170, 171, 172, 173, 174, 175, 176, 177, 178, 179, 180, 181, 182, 183, 184, 185, 186, 187, 188, 189, 190, 191, 192, 193, 194, 195, 196, 197, 198, 199, 200, 201, 202, 203, 204, 205, 206, 207, 208, 209, 210, 211, 212, 213, 214, 215, 216, 217, 218, 219, 220, 221, 222, 223, 224, 225, 226, 227, 228, 229, 230, 231, 232, 233, 234, 235, 236, 237, 238, 239, 240, 241, 242, 243, 244, 245, 246, 247, 248, 249, 250, 251, 252, 253, 254, 255, 256, 257, 258, 259, 260, 261, 262, 263, 264, 265, 266, 267, 268, 269, 270, 271, 272, 273, 274, 275, 276, 277, 278, 279, 280, 281, 282, 283, 284, 285, 286, 287, 288, 289, 290, 291, 292, 293, 294, 295, 296, 297] (by decide +kernel) (by decide +kernel)
set_option maxRecDepth 20000 in
theorem gX12_cubes_X12_bestOf : GoodIn wsX12_cubes (wsV RX12 351 RX12 yX12_bestOf wsX12_bestOf) := goodIn_app (goodIn_of _ (by decide +kernel)) ggX12_cubes_X12_bestOf
theorem dX12_cubes_0 : decode cX12_cubes 0 = .ok (.iload_n 1, 1) := by decide +kernel
theorem dX12_cubes_1 : decode cX12_cubes 1 = .ok (.i2l, 1) := by decide +kernel
theorem dX12_cubes_2 : decode cX12_cubes 2 = .ok (.lconst 0, 1) := by decide +kernel
theorem dX12_cubes_3 : decode cX12_cubes 3 = .ok (.lconst 1, 1) := by decide +kernel
theorem dX12_cubes_4 : decode cX12_cubes 4 = .ok (.invokestatic 64, 3) := by decide +kernel
theorem dX12_cubes_7 : decode cX12_cubes 7 = .ok (.ifCond .eq 12, 3) := by decide +kernel
theorem dX12_cubes_10 : decode cX12_cubes 10 = .ok (.aload_n 0, 1) := by decide +kernel
theorem dX12_cubes_11 : decode cX12_cubes 11 = .ok (.iload_n 1, 1) := by decide +kernel
theorem dX12_cubes_12 : decode cX12_cubes 12 = .ok (.iconst 0, 1) := by decide +kernel
theorem dX12_cubes_13 : decode cX12_cubes 13 = .ok (.invokevirtual 351, 3) := by decide +kernel
theorem dX12_cubes_16 : decode cX12_cubes 16 = .ok (.goto 5, 3) := by decide +kernel
theorem dX12_cubes_19 : decode cX12_cubes 19 = .ok (.ldc 98, 2) := by decide +kernel
theorem dX12_cubes_21 : decode cX12_cubes 21 = .ok (.ireturn, 1) := by decide +kernel
set_option maxRecDepth 20000 in
theorem ggX12_shelf_X12_in : GoodIn wsX12_shelf wsX12_in := goodIn_r _ [5] (by decide +kernel) (by decide +kernel)
set_option maxRecDepth 20000 in
theorem gX12_shelf_X12_in : GoodIn wsX12_shelf (va_wsS RX12 64 yX12_in wsX12_in) := goodIn_app (goodIn_of _ (by decide +kernel)) ggX12_shelf_X12_in
set_option maxRecDepth 20000 in
theorem ggX12_shelf_X12_bestOf : GoodIn wsX12_shelf wsX12_bestOf := goodIn_r _ [9, 10, 11, 12, 4, 13, 14, 15, 16, 17, 18, 19, 20, 21, 22, 23, 24, 25, 26, 27, 28, 29, 30, 31, 32, 33, 34, 35, 36, 37, 38, 39, 40, 41, 42, 43, 44, 45, 46, 47, 48, 49, 50, 51, 52, 53, 54, 55, 56, 57, 58, 59, 60, 61, 62, 63, 64, 65, 66, 67, 68, 69, 70, 71, 72, 73, 2, 3, 5, 74, 75, 76, 77, 78, 79, 80, 81, 82, 83, 84, 85, 86, 87, 88, 89, 90, 91, 92, 93, 94, 95, 96, 97, 98, 99, 100, 101, 102, 103, 104, 105, 106, 107, 108, 109, 110, 111, 112, 113, 114, 115, 116, 117, 118, 119, 120, 121, 122, 123, 124, 125, 126, 127, 128, 129, 130, 131, 132, 133, 134, 135, 136, 137, 138, 139, 140, 141, 142, 143, 144, 145, 146, 147, 148, 149, 150, 151, 152, 153, 154, 155, 156, 157, 158, 159, 160, 161, 162, 163, 164, 165, 166, 167, 168, 169, 170, 171, 172, 173, 174, 175, 176, 177, 178, 179, 180, 181, 182, 183, 184, 185, 186, 187, 188, 189, 190, 191, 192, 193, 194, 195, 196, 197, 198, 199, 200, 201, 202, 203, 204, 205, 206, 207, 208, 209, 210, 211, 212, 213, 214, 215, 216, 217, 218, 219, 220, 221, 222, 223, 224, 225, 226, 227, 228, 229, 230, 231, 232, 233, 234, 235, 236, 237, 238, 239, 240, 241, 242, 243, 244, 245, 246, 247, 248, 249, 250, 251, 252, 253, 254, 255, 256, 257, 258, 259, 260, 261, 262, 263, 264, 265, 266, 267, 268, 269, 270, 271, 272, 273, 274, 275, 276, 277, 278, 279, 280, 281, 282, 283, 284, 285, 286, 287, 288, 289, 290, 291, 292, 293, 294, 295, 296, 297] (by decide +kernel) (by decide +kernel)
set_option maxRecDepth 20000 in
theorem gX12_shelf_X12_bestOf : GoodIn wsX12_shelf (wsV RX12 351 RX12 yX12_bestOf wsX12_bestOf) := goodIn_app (goodIn_of _ (by decide +kernel)) ggX12_shelf_X12_bestOf
theorem dX12_shelf_0 : decode cX12_shelf 0 = .ok (.iload_n 1, 1) := by decide +kernel
theorem dX12_shelf_1 : decode cX12_shelf 1 = .ok (.i2l, 1) := by decide +kernel
theorem dX12_shelf_2 : decode cX12_shelf 2 = .ok (.lconst 0, 1) := by decide +kernel
theorem dX12_shelf_3 : decode cX12_shelf 3 = .ok (.lconst 1, 1) := by decide +kernel
theorem dX12_shelf_4 : decode cX12_shelf 4 = .ok (.invokestatic 64, 3) := by decide +kernel
theorem dX12_shelf_7 : decode cX12_shelf 7 = .ok (.ifCond .eq 12, 3) := by decide +kernel
theorem dX12_shelf_10 : decode cX12_shelf 10 = .ok (.aload_n 0, 1) := by decide +kernel
theorem dX12_shelf_11 : decode cX12_shelf 11 = .ok (.iload_n 1, 1) := by decide +kernel
theorem dX12_shelf_12 : decode cX12_shelf 12 = .ok (.iconst 1, 1) := by decide +kernel
theorem dX12_shelf_13 : decode cX12_shelf 13 = .ok (.invokevirtual 351, 3) := by decide +kernel
theorem dX12_shelf_16 : decode cX12_shelf 16 = .ok (.goto 5, 3) := by decide +kernel
theorem dX12_shelf_19 : decode cX12_shelf 19 = .ok (.ldc 98, 2) := by decide +kernel
theorem dX12_shelf_21 : decode cX12_shelf 21 = .ok (.ireturn, 1) := by decide +kernel
set_option maxRecDepth 20000 in
theorem ggX12_apron_X12_in : GoodIn wsX12_apron wsX12_in := goodIn_r _ [5] (by decide +kernel) (by decide +kernel)
set_option maxRecDepth 20000 in
theorem gX12_apron_X12_in : GoodIn wsX12_apron (va_wsS RX12 64 yX12_in wsX12_in) := goodIn_app (goodIn_of _ (by decide +kernel)) ggX12_apron_X12_in
set_option maxRecDepth 20000 in
theorem ggX12_apron_X12_bestOf : GoodIn wsX12_apron wsX12_bestOf := goodIn_r _ [9, 10, 11, 12, 4, 13, 14, 15, 16, 17, 18, 19, 20, 21, 22, 23, 24, 25, 26, 27, 28, 29, 30, 31, 32, 33, 34, 35, 36, 37, 38, 39, 40, 41, 42, 43, 44, 45, 46, 47, 48, 49, 50, 51, 52, 53, 54, 55, 56, 57, 58, 59, 60, 61, 62, 63, 64, 65, 66, 67, 68, 69, 70, 71, 72, 73, 2, 3, 5, 74, 75, 76, 77, 78, 79, 80, 81, 82, 83, 84, 85, 86, 87, 88, 89, 90, 91, 92, 93, 94, 95, 96, 97, 98, 99, 100, 101, 102, 103, 104, 105, 106, 107, 108, 109, 110, 111, 112, 113, 114, 115, 116, 117, 118, 119, 120, 121, 122, 123, 124, 125, 126, 127, 128, 129, 130, 131, 132, 133, 134, 135, 136, 137, 138, 139, 140, 141, 142, 143, 144, 145, 146, 147, 148, 149, 150, 151, 152, 153, 154, 155, 156, 157, 158, 159, 160, 161, 162, 163, 164, 165, 166, 167, 168, 169, 170, 171, 172, 173, 174, 175, 176, 177, 178, 179, 180, 181, 182, 183, 184, 185, 186, 187, 188, 189, 190, 191, 192, 193, 194, 195, 196, 197, 198, 199, 200, 201, 202, 203, 204, 205, 206, 207, 208, 209, 210, 211, 212, 213, 214, 215, 216, 217, 218, 219, 220, 221, 222, 223, 224, 225, 226, 227, 228, 229, 230, 231, 232, 233, 234, 235, 236, 237, 238, 239, 240, 241, 242, 243, 244, 245, 246, 247, 248, 249, 250, 251, 252, 253, 254, 255, 256, 257, 258, 259, 260, 261, 262, 263, 264, 265, 266, 267, 268, 269, 270, 271, 272, 273, 274, 275, 276, 277, 278, 279, 280, 281, 282, 283, 284, 285, 286, 287, 288, 289, 290, 291, 292, 293, 294, 295, 296, 297] (by decide +kernel) (by decide +kernel)
set_option maxRecDepth 20000 in
theorem gX12_apron_X12_bestOf : GoodIn wsX12_apron (wsV RX12 351 RX12 yX12_bestOf wsX12_bestOf) := goodIn_app (goodIn_of _ (by decide +kernel)) ggX12_apron_X12_bestOf
theorem dX12_apron_0 : decode cX12_apron 0 = .ok (.iload_n 1, 1) := by decide +kernel
theorem dX12_apron_1 : decode cX12_apron 1 = .ok (.i2l, 1) := by decide +kernel
theorem dX12_apron_2 : decode cX12_apron 2 = .ok (.lconst 0, 1) := by decide +kernel
theorem dX12_apron_3 : decode cX12_apron 3 = .ok (.lconst 1, 1) := by decide +kernel
theorem dX12_apron_4 : decode cX12_apron 4 = .ok (.invokestatic 64, 3) := by decide +kernel
theorem dX12_apron_7 : decode cX12_apron 7 = .ok (.ifCond .eq 12, 3) := by decide +kernel
theorem dX12_apron_10 : decode cX12_apron 10 = .ok (.aload_n 0, 1) := by decide +kernel
theorem dX12_apron_11 : decode cX12_apron 11 = .ok (.iload_n 1, 1) := by decide +kernel
theorem dX12_apron_12 : decode cX12_apron 12 = .ok (.iconst 2, 1) := by decide +kernel
theorem dX12_apron_13 : decode cX12_apron 13 = .ok (.invokevirtual 351, 3) := by decide +kernel
theorem dX12_apron_16 : decode cX12_apron 16 = .ok (.goto 5, 3) := by decide +kernel
theorem dX12_apron_19 : decode cX12_apron 19 = .ok (.ldc 98, 2) := by decide +kernel
theorem dX12_apron_21 : decode cX12_apron 21 = .ok (.ireturn, 1) := by decide +kernel
set_option maxRecDepth 20000 in
theorem ggX12_stand_X12_in : GoodIn wsX12_stand wsX12_in := goodIn_r _ [7] (by decide +kernel) (by decide +kernel)
set_option maxRecDepth 20000 in
theorem gX12_stand_X12_in : GoodIn wsX12_stand (va_wsS RX12 64 yX12_in wsX12_in) := goodIn_app (goodIn_of _ (by decide +kernel)) ggX12_stand_X12_in
set_option maxRecDepth 20000 in
theorem ggX12_stand_X12_gainAll : GoodIn wsX12_stand wsX12_gainAll := goodIn_r _ [11, 12, 13, 14, 15, 6, 16, 17, 18, 19, 20, 3, 21, 22, 23, 24, 25, 26, 27, 28, 29, 30, 31, 32, 33, 34, 35, 36, 37, 38, 39, 40, 41, 42, 43, 44, 45, 46, 47, 48, 49, 50, 51, 52, 53, 54, 55, 56, 57, 58, 1, 59, 60, 61, 62, 63, 4, 5, 7, 64, 65, 66, 67, 68, 69, 70, 71, 72, 73, 74, 75, 76, 77, 78, 79, 80, 81, 82, 83, 84, 85, 86, 87, 88, 89, 90, 91, 92, 93, 94, 95, 96, 97, 98, 99, 100, 101, 102, 103, 104, 105, 106, 107, 108, 109, 110, 111, 112, 113, 114, 115, 116, 117, 118, 119, 120, 121, 122, 123, 124, 125, 126, 127, 128, 129, 130, 131, 132, 133, 134, 135, 136, 137, 138, 139, 140, 141, 142, 143, 144, 145, 146, 147, 148, 149, 150, 151, 152, 153, 154, 155, 156, 157, 158, 159, 160, 161, 162, 163, 164, 165, 166, 167, 168, 169, 170, 171, 172, 173, 174, 175, 176, 177, 178, 179, 180, 181, 182, 183, 184, 185, 186, 187, 188, 189, 190, 191, 192, 193, 194, 195, 196, 197, 198, 199, 200, 201, 202, 203, 204, 205, 206, 207, 208, 209, 210, 211, 212, 213, 214, 215, 216, 217, 218, 219, 220, 221, 222, 223, 224, 225, 226, 227, 228, 229, 230, 231, 232, 233, 234, 235, 236, 237, 238, 239, 240, 241, 242, 243, 244, 245, 246, 247, 248, 249, 250, 251, 252, 253, 254, 255, 256, 257, 258, 259, 260, 261, 262, 263, 264, 265, 266, 267, 268, 269, 270, 271, 272, 273, 274, 275, 276, 277, 278, 279, 280, 281, 282, 283, 284, 285, 286, 287] (by decide +kernel) (by decide +kernel)
set_option maxRecDepth 20000 in
theorem gX12_stand_X12_gainAll : GoodIn wsX12_stand (wsV RX12 336 RX12 yX12_gainAll wsX12_gainAll) := goodIn_app (goodIn_of _ (by decide +kernel)) ggX12_stand_X12_gainAll
theorem dX12_stand_0 : decode cX12_stand 0 = .ok (.iload_n 1, 1) := by decide +kernel
theorem dX12_stand_1 : decode cX12_stand 1 = .ok (.i2l, 1) := by decide +kernel
theorem dX12_stand_2 : decode cX12_stand 2 = .ok (.lconst 0, 1) := by decide +kernel
theorem dX12_stand_3 : decode cX12_stand 3 = .ok (.ldc2_w 152, 3) := by decide +kernel
theorem dX12_stand_6 : decode cX12_stand 6 = .ok (.invokestatic 64, 3) := by decide +kernel
theorem dX12_stand_9 : decode cX12_stand 9 = .ok (.ifCond .eq 13, 3) := by decide +kernel
theorem dX12_stand_12 : decode cX12_stand 12 = .ok (.iload_n 2, 1) := by decide +kernel
theorem dX12_stand_13 : decode cX12_stand 13 = .ok (.i2l, 1) := by decide +kernel
theorem dX12_stand_14 : decode cX12_stand 14 = .ok (.lconst 0, 1) := by decide +kernel
theorem dX12_stand_15 : decode cX12_stand 15 = .ok (.lconst 1, 1) := by decide +kernel
theorem dX12_stand_16 : decode cX12_stand 16 = .ok (.invokestatic 64, 3) := by decide +kernel
theorem dX12_stand_19 : decode cX12_stand 19 = .ok (.ifCond .ne 6, 3) := by decide +kernel
theorem dX12_stand_22 : decode cX12_stand 22 = .ok (.ldc 98, 2) := by decide +kernel
theorem dX12_stand_24 : decode cX12_stand 24 = .ok (.ireturn, 1) := by decide +kernel
theorem dX12_stand_25 : decode cX12_stand 25 = .ok (.aload_n 0, 1) := by decide +kernel
theorem dX12_stand_26 : decode cX12_stand 26 = .ok (.getfield 23, 3) := by decide +kernel
theorem dX12_stand_29 : decode cX12_stand 29 = .ok (.iconst 3, 1) := by decide +kernel
theorem dX12_stand_30 : decode cX12_stand 30 = .ok (.iaload, 1) := by decide +kernel
theorem dX12_stand_31 : decode cX12_stand 31 = .ok (.istore_n 3, 1) := by decide +kernel
theorem dX12_stand_32 : decode cX12_stand 32 = .ok (.iconst (-1), 1) := by decide +kernel
theorem dX12_stand_33 : decode cX12_stand 33 = .ok (.istore 4, 2) := by decide +kernel
theorem dX12_stand_35 : decode cX12_stand 35 = .ok (.iconst 0, 1) := by decide +kernel
theorem dX12_stand_36 : decode cX12_stand 36 = .ok (.istore 5, 2) := by decide +kernel
theorem dX12_stand_38 : decode cX12_stand 38 = .ok (.iconst 0, 1) := by decide +kernel
theorem dX12_stand_39 : decode cX12_stand 39 = .ok (.istore 6, 2) := by decide +kernel
theorem dX12_stand_41 : decode cX12_stand 41 = .ok (.iload 6, 2) := by decide +kernel
theorem dX12_stand_43 : decode cX12_stand 43 = .ok (.bipush 10, 2) := by decide +kernel
theorem dX12_stand_45 : decode cX12_stand 45 = .ok (.iload_n 1, 1) := by decide +kernel
theorem dX12_stand_46 : decode cX12_stand 46 = .ok (.isub, 1) := by decide +kernel
theorem dX12_stand_47 : decode cX12_stand 47 = .ok (.if_icmp .gt 50, 3) := by decide +kernel
theorem dX12_stand_50 : decode cX12_stand 50 = .ok (.aload_n 0, 1) := by decide +kernel
theorem dX12_stand_51 : decode cX12_stand 51 = .ok (.getfield 23, 3) := by decide +kernel
theorem dX12_stand_54 : decode cX12_stand 54 = .ok (.iconst 3, 1) := by decide +kernel
theorem dX12_stand_55 : decode cX12_stand 55 = .ok (.iconst 1, 1) := by decide +kernel
theorem dX12_stand_56 : decode cX12_stand 56 = .ok (.iload_n 1, 1) := by decide +kernel
theorem dX12_stand_57 : decode cX12_stand 57 = .ok (.ishl, 1) := by decide +kernel
theorem dX12_stand_58 : decode cX12_stand 58 = .ok (.iconst 1, 1) := by decide +kernel
theorem dX12_stand_59 : decode cX12_stand 59 = .ok (.isub, 1) := by decide +kernel
theorem dX12_stand_60 : decode cX12_stand 60 = .ok (.iload 6, 2) := by decide +kernel
theorem dX12_stand_62 : decode cX12_stand 62 = .ok (.ishl, 1) := by decide +kernel
theorem dX12_stand_63 : decode cX12_stand 63 = .ok (.iastore, 1) := by decide +kernel
theorem dX12_stand_64 : decode cX12_stand 64 = .ok (.aload_n 0, 1) := by decide +kernel
theorem dX12_stand_65 : decode cX12_stand 65 = .ok (.invokevirtual 336, 3) := by decide +kernel
theorem dX12_stand_68 : decode cX12_stand 68 = .ok (.istore 7, 2) := by decide +kernel
theorem dX12_stand_70 : decode cX12_stand 70 = .ok (.iload 4, 2) := by decide +kernel
theorem dX12_stand_72 : decode cX12_stand 72 = .ok (.iconst (-1), 1) := by decide +kernel
theorem dX12_stand_73 : decode cX12_stand 73 = .ok (.if_icmp .eq 10, 3) := by decide +kernel
theorem dX12_stand_76 : decode cX12_stand 76 = .ok (.iload 7, 2) := by decide +kernel
theorem dX12_stand_78 : decode cX12_stand 78 = .ok (.iload 5, 2) := by decide +kernel
theorem dX12_stand_80 : decode cX12_stand 80 = .ok (.if_icmp .le 11, 3) := by decide +kernel
theorem dX12_stand_83 : decode cX12_stand 83 = .ok (.iload 6, 2) := by decide +kernel
theorem dX12_stand_85 : decode cX12_stand 85 = .ok (.istore 4, 2) := by decide +kernel
theorem dX12_stand_87 : decode cX12_stand 87 = .ok (.iload 7, 2) := by decide +kernel
theorem dX12_stand_89 : decode cX12_stand 89 = .ok (.istore 5, 2) := by decide +kernel
theorem dX12_stand_91 : decode cX12_stand 91 = .ok (.iinc 6 1, 3) := by decide +kernel
theorem dX12_stand_94 : decode cX12_stand 94 = .ok (.goto (-53), 3) := by decide +kernel
theorem dX12_stand_97 : decode cX12_stand 97 = .ok (.aload_n 0, 1) := by decide +kernel
theorem dX12_stand_98 : decode cX12_stand 98 = .ok (.getfield 23, 3) := by decide +kernel
theorem dX12_stand_101 : decode cX12_stand 101 = .ok (.iconst 3, 1) := by decide +kernel
theorem dX12_stand_102 : decode cX12_stand 102 = .ok (.iload_n 3, 1) := by decide +kernel
theorem dX12_stand_103 : decode cX12_stand 103 = .ok (.iastore, 1) := by decide +kernel
theorem dX12_stand_104 : decode cX12_stand 104 = .ok (.iload_n 2, 1) := by decide +kernel
theorem dX12_stand_105 : decode cX12_stand 105 = .ok (.ifCond .ne 8, 3) := by decide +kernel
theorem dX12_stand_108 : decode cX12_stand 108 = .ok (.iload 4, 2) := by decide +kernel
theorem dX12_stand_110 : decode cX12_stand 110 = .ok (.goto 5, 3) := by decide +kernel
theorem dX12_stand_113 : decode cX12_stand 113 = .ok (.iload 5, 2) := by decide +kernel
theorem dX12_stand_115 : decode cX12_stand 115 = .ok (.ireturn, 1) := by decide +kernel
set_option maxRecDepth 20000 in
theorem ggX12_setting_X12_in : GoodIn wsX12_setting wsX12_in := goodIn_r _ [6] (by decide +kernel) (by decide +kernel)
set_option maxRecDepth 20000 in
theorem gX12_setting_X12_in : GoodIn wsX12_setting (va_wsS RX12 64 yX12_in wsX12_in) := goodIn_app (goodIn_of _ (by decide +kernel)) ggX12_setting_X12_in
set_option maxRecDepth 20000 in
theorem ggX12_setting_X12_gainAll : GoodIn wsX12_setting wsX12_gainAll := goodIn_r _ [10, 11, 12, 13, 14, 5, 15, 16, 17, 18, 19, 2, 20, 21, 22, 23, 24, 25, 26, 27, 28, 29, 30, 31, 32, 33, 34, 35, 36, 37, 38, 39, 40, 41, 42, 43, 44, 45, 46, 47, 48, 49, 50, 51, 52, 53, 54, 55, 56, 57, 58, 59, 60, 61, 62, 63, 3, 4, 6, 64, 65, 66, 67, 68, 69, 70, 71, 72, 73, 74, 75, 76, 77, 78, 79, 80, 81, 82, 83, 84, 85, 86, 87, 88, 89, 90, 91, 92, 93, 94, 95, 96, 97, 98, 99, 100, 101, 102, 103, 104, 105, 106, 107, 108, 109, 110, 111, 112, 113, 114, 115, 116, 117, 118, 119, 120, 121, 122, 123, 124, 125, 126, 127, 128, 129, 130, 131, 132, 133, 134, 135, 136, 137, 138, 139, 140, 141, 142, 143, 144, 145, 146, 147, 148, 149, 150, 151, 152, 153, 154, 155, 156, 157, 158, 159, 160, 161, 162, 163, 164, 165, 166, 167, 168, 169, 170, 171, 172, 173, 174, 175, 176, 177, 178, 179, 180, 181, 182, 183, 184, 185, 186, 187, 188, 189, 190, 191, 192, 193, 194, 195, 196, 197, 198, 199, 200, 201, 202, 203, 204, 205, 206, 207, 208, 209, 210, 211, 212, 213, 214, 215, 216, 217, 218, 219, 220, 221, 222, 223, 224, 225, 226, 227, 228, 229, 230, 231, 232, 233, 234, 235, 236, 237, 238, 239, 240, 241, 242, 243, 244, 245, 246, 247, 248, 249, 250, 251, 252, 253, 254, 255, 256, 257, 258, 259, 260, 261, 262, 263, 264, 265, 266, 267, 268, 269, 270, 271, 272, 273, 274, 275, 276, 277, 278, 279, 280, 281, 282, 283, 284, 285, 286, 287] (by decide +kernel) (by decide +kernel)
set_option maxRecDepth 20000 in
theorem gX12_setting_X12_gainAll : GoodIn wsX12_setting (wsV RX12 336 RX12 yX12_gainAll wsX12_gainAll) := goodIn_app (goodIn_of _ (by decide +kernel)) ggX12_setting_X12_gainAll
theorem dX12_setting_0 : decode cX12_setting 0 = .ok (.iload_n 1, 1) := by decide +kernel
theorem dX12_setting_1 : decode cX12_setting 1 = .ok (.i2l, 1) := by decide +kernel
theorem dX12_setting_2 : decode cX12_setting 2 = .ok (.lconst 0, 1) := by decide +kernel
theorem dX12_setting_3 : decode cX12_setting 3 = .ok (.lconst 1, 1) := by decide +kernel
theorem dX12_setting_4 : decode cX12_setting 4 = .ok (.invokestatic 64, 3) := by decide +kernel
theorem dX12_setting_7 : decode cX12_setting 7 = .ok (.ifCond .ne 6, 3) := by decide +kernel
theorem dX12_setting_10 : decode cX12_setting 10 = .ok (.ldc 98, 2) := by decide +kernel
theorem dX12_setting_12 : decode cX12_setting 12 = .ok (.ireturn, 1) := by decide +kernel
theorem dX12_setting_13 : decode cX12_setting 13 = .ok (.aload_n 0, 1) := by decide +kernel
theorem dX12_setting_14 : decode cX12_setting 14 = .ok (.getfield 23, 3) := by decide +kernel
theorem dX12_setting_17 : decode cX12_setting 17 = .ok (.iconst 0, 1) := by decide +kernel
theorem dX12_setting_18 : decode cX12_setting 18 = .ok (.iaload, 1) := by decide +kernel
theorem dX12_setting_19 : decode cX12_setting 19 = .ok (.istore_n 2, 1) := by decide +kernel
theorem dX12_setting_20 : decode cX12_setting 20 = .ok (.aload_n 0, 1) := by decide +kernel
theorem dX12_setting_21 : decode cX12_setting 21 = .ok (.getfield 23, 3) := by decide +kernel
theorem dX12_setting_24 : decode cX12_setting 24 = .ok (.iconst 1, 1) := by decide +kernel
theorem dX12_setting_25 : decode cX12_setting 25 = .ok (.iaload, 1) := by decide +kernel
theorem dX12_setting_26 : decode cX12_setting 26 = .ok (.istore_n 3, 1) := by decide +kernel
theorem dX12_setting_27 : decode cX12_setting 27 = .ok (.aload_n 0, 1) := by decide +kernel
theorem dX12_setting_28 : decode cX12_setting 28 = .ok (.getfield 23, 3) := by decide +kernel
theorem dX12_setting_31 : decode cX12_setting 31 = .ok (.iconst 2, 1) := by decide +kernel
theorem dX12_setting_32 : decode cX12_setting 32 = .ok (.iaload, 1) := by decide +kernel
theorem dX12_setting_33 : decode cX12_setting 33 = .ok (.istore 4, 2) := by decide +kernel
theorem dX12_setting_35 : decode cX12_setting 35 = .ok (.iconst (-1), 1) := by decide +kernel
theorem dX12_setting_36 : decode cX12_setting 36 = .ok (.istore 5, 2) := by decide +kernel
theorem dX12_setting_38 : decode cX12_setting 38 = .ok (.iconst 0, 1) := by decide +kernel
theorem dX12_setting_39 : decode cX12_setting 39 = .ok (.istore 6, 2) := by decide +kernel
theorem dX12_setting_41 : decode cX12_setting 41 = .ok (.iconst 0, 1) := by decide +kernel
theorem dX12_setting_42 : decode cX12_setting 42 = .ok (.istore 7, 2) := by decide +kernel
theorem dX12_setting_44 : decode cX12_setting 44 = .ok (.iload 7, 2) := by decide +kernel
theorem dX12_setting_46 : decode cX12_setting 46 = .ok (.sipush 480, 3) := by decide +kernel
theorem dX12_setting_49 : decode cX12_setting 49 = .ok (.if_icmp .ge 98, 3) := by decide +kernel
theorem dX12_setting_52 : decode cX12_setting 52 = .ok (.aload_n 0, 1) := by decide +kernel
theorem dX12_setting_53 : decode cX12_setting 53 = .ok (.getfield 23, 3) := by decide +kernel
theorem dX12_setting_56 : decode cX12_setting 56 = .ok (.iconst 0, 1) := by decide +kernel
theorem dX12_setting_57 : decode cX12_setting 57 = .ok (.iconst 1, 1) := by decide +kernel
theorem dX12_setting_58 : decode cX12_setting 58 = .ok (.iload 7, 2) := by decide +kernel
theorem dX12_setting_60 : decode cX12_setting 60 = .ok (.bipush 12, 2) := by decide +kernel
theorem dX12_setting_62 : decode cX12_setting 62 = .ok (.idiv, 1) := by decide +kernel
theorem dX12_setting_63 : decode cX12_setting 63 = .ok (.iadd, 1) := by decide +kernel
theorem dX12_setting_64 : decode cX12_setting 64 = .ok (.iastore, 1) := by decide +kernel
theorem dX12_setting_65 : decode cX12_setting 65 = .ok (.aload_n 0, 1) := by decide +kernel
theorem dX12_setting_66 : decode cX12_setting 66 = .ok (.getfield 23, 3) := by decide +kernel
theorem dX12_setting_69 : decode cX12_setting 69 = .ok (.iconst 1, 1) := by decide +kernel
theorem dX12_setting_70 : decode cX12_setting 70 = .ok (.iconst 1, 1) := by decide +kernel
theorem dX12_setting_71 : decode cX12_setting 71 = .ok (.iload 7, 2) := by decide +kernel
theorem dX12_setting_73 : decode cX12_setting 73 = .ok (.iconst 2, 1) := by decide +kernel
theorem dX12_setting_74 : decode cX12_setting 74 = .ok (.idiv, 1) := by decide +kernel
theorem dX12_setting_75 : decode cX12_setting 75 = .ok (.bipush 6, 2) := by decide +kernel
theorem dX12_setting_77 : decode cX12_setting 77 = .ok (.irem, 1) := by decide +kernel
theorem dX12_setting_78 : decode cX12_setting 78 = .ok (.iadd, 1) := by decide +kernel
theorem dX12_setting_79 : decode cX12_setting 79 = .ok (.iastore, 1) := by decide +kernel
theorem dX12_setting_80 : decode cX12_setting 80 = .ok (.aload_n 0, 1) := by decide +kernel
theorem dX12_setting_81 : decode cX12_setting 81 = .ok (.getfield 23, 3) := by decide +kernel
theorem dX12_setting_84 : decode cX12_setting 84 = .ok (.iconst 2, 1) := by decide +kernel
theorem dX12_setting_85 : decode cX12_setting 85 = .ok (.iload 7, 2) := by decide +kernel
theorem dX12_setting_87 : decode cX12_setting 87 = .ok (.iconst 2, 1) := by decide +kernel
theorem dX12_setting_88 : decode cX12_setting 88 = .ok (.irem, 1) := by decide +kernel
theorem dX12_setting_89 : decode cX12_setting 89 = .ok (.iastore, 1) := by decide +kernel
theorem dX12_setting_90 : decode cX12_setting 90 = .ok (.aload_n 0, 1) := by decide +kernel
theorem dX12_setting_91 : decode cX12_setting 91 = .ok (.invokevirtual 336, 3) := by decide +kernel
theorem dX12_setting_94 : decode cX12_setting 94 = .ok (.istore 8, 2) := by decide +kernel
theorem dX12_setting_96 : decode cX12_setting 96 = .ok (.iload 5, 2) := by decide +kernel
theorem dX12_setting_98 : decode cX12_setting 98 = .ok (.iconst (-1), 1) := by decide +kernel
theorem dX12_setting_99 : decode cX12_setting 99 = .ok (.if_icmp .eq 10, 3) := by decide +kernel
theorem dX12_setting_102 : decode cX12_setting 102 = .ok (.iload 8, 2) := by decide +kernel
theorem dX12_setting_104 : decode cX12_setting 104 = .ok (.iload 6, 2) := by decide +kernel
theorem dX12_setting_106 : decode cX12_setting 106 = .ok (.if_icmp .le 35, 3) := by decide +kernel
theorem dX12_setting_109 : decode cX12_setting 109 = .ok (.bipush 100, 2) := by decide +kernel
theorem dX12_setting_111 : decode cX12_setting 111 = .ok (.aload_n 0, 1) := by decide +kernel
theorem dX12_setting_112 : decode cX12_setting 112 = .ok (.getfield 23, 3) := by decide +kernel
theorem dX12_setting_115 : decode cX12_setting 115 = .ok (.iconst 0, 1) := by decide +kernel
theorem dX12_setting_116 : decode cX12_setting 116 = .ok (.iaload, 1) := by decide +kernel
theorem dX12_setting_117 : decode cX12_setting 117 = .ok (.imul, 1) := by decide +kernel
theorem dX12_setting_118 : decode cX12_setting 118 = .ok (.bipush 10, 2) := by decide +kernel
theorem dX12_setting_120 : decode cX12_setting 120 = .ok (.aload_n 0, 1) := by decide +kernel
theorem dX12_setting_121 : decode cX12_setting 121 = .ok (.getfield 23, 3) := by decide +kernel
theorem dX12_setting_124 : decode cX12_setting 124 = .ok (.iconst 1, 1) := by decide +kernel
theorem dX12_setting_125 : decode cX12_setting 125 = .ok (.iaload, 1) := by decide +kernel
theorem dX12_setting_126 : decode cX12_setting 126 = .ok (.imul, 1) := by decide +kernel
theorem dX12_setting_127 : decode cX12_setting 127 = .ok (.iadd, 1) := by decide +kernel
theorem dX12_setting_128 : decode cX12_setting 128 = .ok (.aload_n 0, 1) := by decide +kernel
theorem dX12_setting_129 : decode cX12_setting 129 = .ok (.getfield 23, 3) := by decide +kernel
theorem dX12_setting_132 : decode cX12_setting 132 = .ok (.iconst 2, 1) := by decide +kernel
theorem dX12_setting_133 : decode cX12_setting 133 = .ok (.iaload, 1) := by decide +kernel
theorem dX12_setting_134 : decode cX12_setting 134 = .ok (.iadd, 1) := by decide +kernel
theorem dX12_setting_135 : decode cX12_setting 135 = .ok (.istore 5, 2) := by decide +kernel
theorem dX12_setting_137 : decode cX12_setting 137 = .ok (.iload 8, 2) := by decide +kernel
theorem dX12_setting_139 : decode cX12_setting 139 = .ok (.istore 6, 2) := by decide +kernel
theorem dX12_setting_141 : decode cX12_setting 141 = .ok (.iinc 7 1, 3) := by decide +kernel
theorem dX12_setting_144 : decode cX12_setting 144 = .ok (.goto (-100), 3) := by decide +kernel
theorem dX12_setting_147 : decode cX12_setting 147 = .ok (.aload_n 0, 1) := by decide +kernel
theorem dX12_setting_148 : decode cX12_setting 148 = .ok (.getfield 23, 3) := by decide +kernel
theorem dX12_setting_151 : decode cX12_setting 151 = .ok (.iconst 0, 1) := by decide +kernel
theorem dX12_setting_152 : decode cX12_setting 152 = .ok (.iload_n 2, 1) := by decide +kernel
theorem dX12_setting_153 : decode cX12_setting 153 = .ok (.iastore, 1) := by decide +kernel
theorem dX12_setting_154 : decode cX12_setting 154 = .ok (.aload_n 0, 1) := by decide +kernel
theorem dX12_setting_155 : decode cX12_setting 155 = .ok (.getfield 23, 3) := by decide +kernel
theorem dX12_setting_158 : decode cX12_setting 158 = .ok (.iconst 1, 1) := by decide +kernel
theorem dX12_setting_159 : decode cX12_setting 159 = .ok (.iload_n 3, 1) := by decide +kernel
theorem dX12_setting_160 : decode cX12_setting 160 = .ok (.iastore, 1) := by decide +kernel
theorem dX12_setting_161 : decode cX12_setting 161 = .ok (.aload_n 0, 1) := by decide +kernel
theorem dX12_setting_162 : decode cX12_setting 162 = .ok (.getfield 23, 3) := by decide +kernel
theorem dX12_setting_165 : decode cX12_setting 165 = .ok (.iconst 2, 1) := by decide +kernel
theorem dX12_setting_166 : decode cX12_setting 166 = .ok (.iload 4, 2) := by decide +kernel
theorem dX12_setting_168 : decode cX12_setting 168 = .ok (.iastore, 1) := by decide +kernel
theorem dX12_setting_169 : decode cX12_setting 169 = .ok (.iload_n 1, 1) := by decide +kernel
theorem dX12_setting_170 : decode cX12_setting 170 = .ok (.ifCond .ne 8, 3) := by decide +kernel
theorem dX12_setting_173 : decode cX12_setting 173 = .ok (.iload 5, 2) := by decide +kernel
theorem dX12_setting_175 : decode cX12_setting 175 = .ok (.goto 5, 3) := by decide +kernel
theorem dX12_setting_178 : decode cX12_setting 178 = .ok (.iload 6, 2) := by decide +kernel
theorem dX12_setting_180 : decode cX12_setting 180 = .ok (.ireturn, 1) := by decide +kernel
set_option maxRecDepth 20000 in
theorem ggX12_sendAway_X12_in : GoodIn wsX12_sendAway wsX12_in := goodIn_r _ [6] (by decide +kernel) (by decide +kernel)
set_option maxRecDepth 20000 in
theorem gX12_sendAway_X12_in : GoodIn wsX12_sendAway (va_wsS RX12 64 yX12_in wsX12_in) := goodIn_app (goodIn_of _ (by decide +kernel)) ggX12_sendAway_X12_in
set_option maxRecDepth 20000 in
theorem ggX12_sendAway_X12_gainAll : GoodIn wsX12_sendAway wsX12_gainAll := goodIn_r _ [10, 2, 11, 12, 13, 5, 14, 15, 16, 17, 18, 19, 20, 21, 22, 23, 24, 25, 26, 27, 28, 29, 30, 31, 32, 33, 34, 35, 36, 37, 38, 39, 40, 41, 42, 43, 44, 45, 46, 47, 48, 49, 50, 51, 52, 53, 54, 55, 56, 57, 58, 59, 60, 61, 62, 63, 3, 4, 6, 64, 65, 66, 67, 68, 69, 70, 71, 72, 73, 74, 75, 76, 77, 78, 79, 80, 81, 82, 83, 84, 85, 86, 87, 88, 89, 90, 91, 92, 93, 94, 95, 96, 97, 98, 99, 100, 101, 102, 103, 104, 105, 106, 107, 108, 109, 110, 111, 112, 113, 114, 115, 116, 117, 118, 119, 120, 121, 122, 123, 124, 125, 126, 127, 128, 129, 130, 131, 132, 133, 134, 135, 136, 137, 138, 139, 140, 141, 142, 143, 144, 145, 146, 147, 148, 149, 150, 151, 152, 153, 154, 155, 156, 157, 158, 159, 160, 161, 162, 163, 164, 165, 166, 167, 168, 169, 170, 171, 172, 173, 174, 175, 176, 177, 178, 179, 180, 181, 182, 183, 184, 185, 186, 187, 188, 189, 190, 191, 192, 193, 194, 195, 196, 197, 198, 199, 200, 201, 202, 203, 204, 205, 206, 207, 208, 209, 210, 211, 212, 213, 214, 215, 216, 217, 218, 219, 220, 221, 222, 223, 224, 225, 226, 227, 228, 229, 230, 231, 232, 233, 234, 235, 236, 237, 238, 239, 240, 241, 242, 243, 244, 245, 246, 247, 248, 249, 250, 251, 252, 253, 254, 255, 256, 257, 258, 259, 260, 261, 262, 263, 264, 265, 266, 267, 268, 269, 270, 271, 272, 273, 274, 275, 276, 277, 278, 279, 280, 281, 282, 283, 284, 285, 286, 287] (by decide +kernel) (by decide +kernel)
set_option maxRecDepth 20000 in
theorem gX12_sendAway_X12_gainAll : GoodIn wsX12_sendAway (wsV RX12 336 RX12 yX12_gainAll wsX12_gainAll) := goodIn_app (goodIn_of _ (by decide +kernel)) ggX12_sendAway_X12_gainAll
set_option maxRecDepth 20000 in
theorem ggX12_sendAway_X12_gainOf : GoodIn wsX12_sendAway wsX12_gainOf := goodIn_r _ [14, 15, 16, 17, 5, 18, 19, 20, 21, 22, 23, 24, 25, 26, 27, 28, 29, 30, 31, 32, 33, 34, 35, 36, 37, 38, 39, 40, 41, 42, 43, 44, 45, 46, 47, 48, 49, 50, 51, 52, 53, 54, 55, 56, 57, 58, 59, 60, 61, 62, 63, 3, 4, 6, 64, 65, 66, 67, 68, 69, 70, 71, 72, 73, 74, 75, 76, 77, 78, 79, 80, 81, 82, 83, 84, 85, 86, 87, 88, 89, 90, 91, 92, 93, 94, 95, 96, 97, 98, 99, 100, 101, 102, 103, 104, 105, 106, 107, 108, 109, 110, 111, 112, 113, 114, 115, 116, 117, 118, 119, 120, 121, 122, 123, 124, 125, 126, 127, 128, 129, 130, 131, 132, 133, 134, 135, 136, 137, 138, 139, 140, 141, 142, 143, 144, 145, 146, 147, 148, 149, 150, 151, 152, 153, 154, 155, 156, 157, 158, 159, 160, 161, 162, 163, 164, 165, 166, 167, 168, 169, 170, 171, 172, 173, 174, 175, 176, 177, 178, 179, 180, 181, 182, 183, 184, 185, 186, 187, 188, 189, 190, 191, 192, 193, 194, 195, 196, 197, 198, 199, 200, 201, 202, 203, 204, 205, 206, 207, 208, 209, 210, 211, 212, 213, 214, 215, 216, 217, 218, 219, 220, 221, 222, 223, 224, 225, 226, 227, 228, 229, 230, 231, 232, 233, 234, 235, 236, 237, 238, 239, 240, 241, 242, 243, 244, 245, 246, 247, 248, 249, 250, 251, 252, 253, 254, 255, 256, 257, 258, 259, 260, 261, 262, 263, 264, 265, 266, 267, 268, 269, 270, 271, 272, 273, 274, 275, 276, 277, 278, 279, 280, 281, 282, 283, 284, 285, 286, 287] (by decide +kernel) (by decide +kernel)
set_option maxRecDepth 20000 in
theorem gX12_sendAway_X12_gainOf : GoodIn wsX12_sendAway (wsV RX12 114 RX12 yX12_gainOf wsX12_gainOf) := goodIn_app (goodIn_of _ (by decide +kernel)) ggX12_sendAway_X12_gainOf
theorem dX12_sendAway_0 : decode cX12_sendAway 0 = .ok (.iload_n 1, 1) := by decide +kernel
theorem dX12_sendAway_1 : decode cX12_sendAway 1 = .ok (.i2l, 1) := by decide +kernel
theorem dX12_sendAway_2 : decode cX12_sendAway 2 = .ok (.lconst 0, 1) := by decide +kernel
theorem dX12_sendAway_3 : decode cX12_sendAway 3 = .ok (.lconst 1, 1) := by decide +kernel
theorem dX12_sendAway_4 : decode cX12_sendAway 4 = .ok (.invokestatic 64, 3) := by decide +kernel
theorem dX12_sendAway_7 : decode cX12_sendAway 7 = .ok (.ifCond .ne 6, 3) := by decide +kernel
theorem dX12_sendAway_10 : decode cX12_sendAway 10 = .ok (.ldc 98, 2) := by decide +kernel
theorem dX12_sendAway_12 : decode cX12_sendAway 12 = .ok (.ireturn, 1) := by decide +kernel
theorem dX12_sendAway_13 : decode cX12_sendAway 13 = .ok (.aload_n 0, 1) := by decide +kernel
theorem dX12_sendAway_14 : decode cX12_sendAway 14 = .ok (.invokevirtual 336, 3) := by decide +kernel
theorem dX12_sendAway_17 : decode cX12_sendAway 17 = .ok (.istore_n 2, 1) := by decide +kernel
theorem dX12_sendAway_18 : decode cX12_sendAway 18 = .ok (.iconst (-1), 1) := by decide +kernel
theorem dX12_sendAway_19 : decode cX12_sendAway 19 = .ok (.istore_n 3, 1) := by decide +kernel
theorem dX12_sendAway_20 : decode cX12_sendAway 20 = .ok (.iload_n 2, 1) := by decide +kernel
theorem dX12_sendAway_21 : decode cX12_sendAway 21 = .ok (.istore 4, 2) := by decide +kernel
theorem dX12_sendAway_23 : decode cX12_sendAway 23 = .ok (.iconst 0, 1) := by decide +kernel
theorem dX12_sendAway_24 : decode cX12_sendAway 24 = .ok (.istore 5, 2) := by decide +kernel
theorem dX12_sendAway_26 : decode cX12_sendAway 26 = .ok (.iload 5, 2) := by decide +kernel
theorem dX12_sendAway_28 : decode cX12_sendAway 28 = .ok (.aload_n 0, 1) := by decide +kernel
theorem dX12_sendAway_29 : decode cX12_sendAway 29 = .ok (.getfield 61, 3) := by decide +kernel
theorem dX12_sendAway_32 : decode cX12_sendAway 32 = .ok (.if_icmp .ge 33, 3) := by decide +kernel
theorem dX12_sendAway_35 : decode cX12_sendAway 35 = .ok (.iload_n 2, 1) := by decide +kernel
theorem dX12_sendAway_36 : decode cX12_sendAway 36 = .ok (.aload_n 0, 1) := by decide +kernel
theorem dX12_sendAway_37 : decode cX12_sendAway 37 = .ok (.iload 5, 2) := by decide +kernel
theorem dX12_sendAway_39 : decode cX12_sendAway 39 = .ok (.invokevirtual 114, 3) := by decide +kernel
theorem dX12_sendAway_42 : decode cX12_sendAway 42 = .ok (.isub, 1) := by decide +kernel
theorem dX12_sendAway_43 : decode cX12_sendAway 43 = .ok (.istore 6, 2) := by decide +kernel
theorem dX12_sendAway_45 : decode cX12_sendAway 45 = .ok (.iload 6, 2) := by decide +kernel
theorem dX12_sendAway_47 : decode cX12_sendAway 47 = .ok (.iload 4, 2) := by decide +kernel
theorem dX12_sendAway_49 : decode cX12_sendAway 49 = .ok (.if_icmp .le 10, 3) := by decide +kernel
theorem dX12_sendAway_52 : decode cX12_sendAway 52 = .ok (.iload 5, 2) := by decide +kernel
theorem dX12_sendAway_54 : decode cX12_sendAway 54 = .ok (.istore_n 3, 1) := by decide +kernel
theorem dX12_sendAway_55 : decode cX12_sendAway 55 = .ok (.iload 6, 2) := by decide +kernel
theorem dX12_sendAway_57 : decode cX12_sendAway 57 = .ok (.istore 4, 2) := by decide +kernel
theorem dX12_sendAway_59 : decode cX12_sendAway 59 = .ok (.iinc 5 1, 3) := by decide +kernel
theorem dX12_sendAway_62 : decode cX12_sendAway 62 = .ok (.goto (-36), 3) := by decide +kernel
theorem dX12_sendAway_65 : decode cX12_sendAway 65 = .ok (.iload_n 1, 1) := by decide +kernel
theorem dX12_sendAway_66 : decode cX12_sendAway 66 = .ok (.ifCond .ne 7, 3) := by decide +kernel
theorem dX12_sendAway_69 : decode cX12_sendAway 69 = .ok (.iload_n 3, 1) := by decide +kernel
theorem dX12_sendAway_70 : decode cX12_sendAway 70 = .ok (.goto 5, 3) := by decide +kernel
theorem dX12_sendAway_73 : decode cX12_sendAway 73 = .ok (.iload 4, 2) := by decide +kernel
theorem dX12_sendAway_75 : decode cX12_sendAway 75 = .ok (.ireturn, 1) := by decide +kernel
set_option maxRecDepth 20000 in
theorem ggX12_lost_X12_isOne : GoodIn wsX12_lost wsX12_isOne := goodIn_r _ [6, 7, 8, 9, 5, 10, 253, 254, 255, 256, 257, 258, 259, 260, 261, 262, 263, 264, 265, 266, 267, 268, 269, 270, 271, 272, 273, 274, 275, 276, 277, 278, 279, 280, 281, 282, 283, 284, 285, 286] (by decide +kernel) (by decide +kernel)
set_option maxRecDepth 20000 in
theorem gX12_lost_X12_isOne : GoodIn wsX12_lost (wsV RX12 70 RX12 yX12_isOne wsX12_isOne) := goodIn_app (goodIn_of _ (by decide +kernel)) ggX12_lost_X12_isOne
set_option maxRecDepth 20000 in
theorem ggX12_lost_X12_gainOf : GoodIn wsX12_lost wsX12_gainOf := goodIn_r _ [14, 15, 16, 17, 5, 18, 1, 19, 20, 21, 22, 23, 24, 25, 26, 27, 28, 29, 30, 31, 32, 33, 34, 35, 36, 37, 38, 39, 40, 41, 42, 43, 44, 45, 46, 47, 48, 49, 50, 51, 52, 53, 54, 55, 56, 57, 58, 59, 60, 61, 62, 8, 9, 10, 63, 64, 65, 66, 67, 68, 69, 70, 71, 72, 73, 74, 75, 76, 77, 78, 79, 80, 81, 82, 83, 84, 85, 86, 87, 88, 89, 90, 91, 92, 93, 94, 95, 96, 97, 98, 99, 100, 101, 102, 103, 104, 105, 106, 107, 108, 109, 110, 111, 112, 113, 114, 115, 116, 117, 118, 119, 120, 121, 122, 123, 124, 125, 126, 127, 128, 129, 130, 131, 132, 133, 134, 135, 136, 137, 138, 139, 140, 141, 142, 143, 144, 145, 146, 147, 148, 149, 150, 151, 152, 153, 154, 155, 156, 157, 158, 159, 160, 161, 162, 163, 164, 165, 166, 167, 168, 169, 170, 171, 172, 173, 174, 175, 176, 177, 178, 179, 180, 181, 182, 183, 184, 185, 186, 187, 188, 189, 190, 191, 192, 193, 194, 195, 196, 197, 198, 199, 200, 201, 202, 203, 204, 205, 206, 207, 208, 209, 210, 211, 212, 213, 214, 215, 216, 217, 218, 219, 220, 221, 222, 223, 224, 225, 226, 227, 228, 229, 230, 231, 232, 233, 234, 235, 236, 237, 238, 239, 240, 241, 242, 243, 244, 245, 246, 247, 248, 249, 250, 251, 252, 253, 254, 255, 256, 257, 258, 259, 260, 261, 262, 263, 264, 265, 266, 267, 268, 269, 270, 271, 272, 273, 274, 275, 276, 277, 278, 279, 280, 281, 282, 283, 284, 285, 286] (by decide +kernel) (by decide +kernel)
set_option maxRecDepth 20000 in
theorem gX12_lost_X12_gainOf : GoodIn wsX12_lost (wsV RX12 114 RX12 yX12_gainOf wsX12_gainOf) := goodIn_app (goodIn_of _ (by decide +kernel)) ggX12_lost_X12_gainOf
theorem dX12_lost_0 : decode cX12_lost 0 = .ok (.aload_n 0, 1) := by decide +kernel
theorem dX12_lost_1 : decode cX12_lost 1 = .ok (.iload_n 1, 1) := by decide +kernel
theorem dX12_lost_2 : decode cX12_lost 2 = .ok (.invokevirtual 70, 3) := by decide +kernel
theorem dX12_lost_5 : decode cX12_lost 5 = .ok (.ifCond .ne 6, 3) := by decide +kernel
theorem dX12_lost_8 : decode cX12_lost 8 = .ok (.bipush (-2), 2) := by decide +kernel
theorem dX12_lost_10 : decode cX12_lost 10 = .ok (.ireturn, 1) := by decide +kernel
theorem dX12_lost_11 : decode cX12_lost 11 = .ok (.aload_n 0, 1) := by decide +kernel
theorem dX12_lost_12 : decode cX12_lost 12 = .ok (.getfield 23, 3) := by decide +kernel
theorem dX12_lost_15 : decode cX12_lost 15 = .ok (.iconst 0, 1) := by decide +kernel
theorem dX12_lost_16 : decode cX12_lost 16 = .ok (.iaload, 1) := by decide +kernel
theorem dX12_lost_17 : decode cX12_lost 17 = .ok (.istore_n 2, 1) := by decide +kernel
theorem dX12_lost_18 : decode cX12_lost 18 = .ok (.iconst (-1), 1) := by decide +kernel
theorem dX12_lost_19 : decode cX12_lost 19 = .ok (.istore_n 3, 1) := by decide +kernel
theorem dX12_lost_20 : decode cX12_lost 20 = .ok (.bipush 40, 2) := by decide +kernel
theorem dX12_lost_22 : decode cX12_lost 22 = .ok (.istore 4, 2) := by decide +kernel
theorem dX12_lost_24 : decode cX12_lost 24 = .ok (.iload 4, 2) := by decide +kernel
theorem dX12_lost_26 : decode cX12_lost 26 = .ok (.ifCond .le 31, 3) := by decide +kernel
theorem dX12_lost_29 : decode cX12_lost 29 = .ok (.aload_n 0, 1) := by decide +kernel
theorem dX12_lost_30 : decode cX12_lost 30 = .ok (.getfield 23, 3) := by decide +kernel
theorem dX12_lost_33 : decode cX12_lost 33 = .ok (.iconst 0, 1) := by decide +kernel
theorem dX12_lost_34 : decode cX12_lost 34 = .ok (.iload 4, 2) := by decide +kernel
theorem dX12_lost_36 : decode cX12_lost 36 = .ok (.iastore, 1) := by decide +kernel
theorem dX12_lost_37 : decode cX12_lost 37 = .ok (.aload_n 0, 1) := by decide +kernel
theorem dX12_lost_38 : decode cX12_lost 38 = .ok (.iload_n 1, 1) := by decide +kernel
theorem dX12_lost_39 : decode cX12_lost 39 = .ok (.invokevirtual 114, 3) := by decide +kernel
theorem dX12_lost_42 : decode cX12_lost 42 = .ok (.ifCond .lt 6, 3) := by decide +kernel
theorem dX12_lost_45 : decode cX12_lost 45 = .ok (.goto 12, 3) := by decide +kernel
theorem dX12_lost_48 : decode cX12_lost 48 = .ok (.iload 4, 2) := by decide +kernel
theorem dX12_lost_50 : decode cX12_lost 50 = .ok (.istore_n 3, 1) := by decide +kernel
theorem dX12_lost_51 : decode cX12_lost 51 = .ok (.iinc 4 (-1), 3) := by decide +kernel
theorem dX12_lost_54 : decode cX12_lost 54 = .ok (.goto (-30), 3) := by decide +kernel
theorem dX12_lost_57 : decode cX12_lost 57 = .ok (.aload_n 0, 1) := by decide +kernel
theorem dX12_lost_58 : decode cX12_lost 58 = .ok (.getfield 23, 3) := by decide +kernel
theorem dX12_lost_61 : decode cX12_lost 61 = .ok (.iconst 0, 1) := by decide +kernel
theorem dX12_lost_62 : decode cX12_lost 62 = .ok (.iload_n 2, 1) := by decide +kernel
theorem dX12_lost_63 : decode cX12_lost 63 = .ok (.iastore, 1) := by decide +kernel
theorem dX12_lost_64 : decode cX12_lost 64 = .ok (.iload_n 3, 1) := by decide +kernel
theorem dX12_lost_65 : decode cX12_lost 65 = .ok (.ireturn, 1) := by decide +kernel
set_option maxRecDepth 20000 in
theorem ggX12_firstOther_X12_eatsOf : GoodIn wsX12_firstOther wsX12_eatsOf := goodIn_r _ [8, 9, 1, 10, 11, 12, 13, 7, 14, 15, 16, 17, 18, 19, 20, 21, 22, 23, 24, 25, 26, 27, 28, 29, 30, 31, 32, 33, 34, 35, 36, 37, 38, 39, 40, 41, 42, 43, 44, 45, 46, 47, 48, 49, 50, 51, 52, 53, 54, 55, 56, 57, 58, 59, 60, 61, 62, 63, 64, 65, 66, 67, 68, 69, 70, 71, 72, 73, 74, 75, 76, 77, 78, 79, 80, 81, 82, 83, 84, 85, 86, 87, 88, 89, 90, 91, 92, 93, 94, 95, 96, 97, 98, 99, 100, 101, 102, 103, 104, 105, 106, 107, 108, 109, 110, 111, 112, 113, 114, 115, 116, 117, 118, 119, 120, 121, 122, 123, 124, 125, 126, 127, 128, 129, 130, 131, 132, 133, 134, 135, 136, 137, 138, 139, 140, 141, 142, 143, 144, 145, 146, 147, 148, 149, 150, 151, 152, 153, 154, 155, 156, 157, 158, 159, 160, 161, 162, 163, 164, 165, 166, 167, 168, 169, 170, 171, 172, 173, 174, 175, 176, 177, 178, 179, 180, 181, 182, 183, 184, 185, 186, 187, 188, 189, 190, 191, 192, 193, 194, 195, 196, 197, 198, 199, 200, 201, 202, 203, 204, 205, 206, 207, 208, 209, 210, 211, 212, 213, 214, 215, 216, 217, 218, 219, 220, 221, 222, 223, 224, 225, 226, 227, 228, 229, 230, 231, 232, 233, 234, 235, 236, 237, 238, 239, 240, 241, 242, 243, 244, 245, 246, 247, 248, 249, 250, 251, 252, 253, 254, 255, 256, 257, 258, 259, 260, 261, 262, 263] (by decide +kernel) (by decide +kernel)
set_option maxRecDepth 20000 in
theorem gX12_firstOther_X12_eatsOf : GoodIn wsX12_firstOther (wsV RX12 99 RX12 yX12_eatsOf wsX12_eatsOf) := goodIn_app (goodIn_of _ (by decide +kernel)) ggX12_firstOther_X12_eatsOf
theorem dX12_firstOther_0 : decode cX12_firstOther 0 = .ok (.aload_n 0, 1) := by decide +kernel
theorem dX12_firstOther_1 : decode cX12_firstOther 1 = .ok (.getfield 23, 3) := by decide +kernel
theorem dX12_firstOther_4 : decode cX12_firstOther 4 = .ok (.iconst 0, 1) := by decide +kernel
theorem dX12_firstOther_5 : decode cX12_firstOther 5 = .ok (.iaload, 1) := by decide +kernel
theorem dX12_firstOther_6 : decode cX12_firstOther 6 = .ok (.istore_n 3, 1) := by decide +kernel
theorem dX12_firstOther_7 : decode cX12_firstOther 7 = .ok (.iconst (-1), 1) := by decide +kernel
theorem dX12_firstOther_8 : decode cX12_firstOther 8 = .ok (.istore 4, 2) := by decide +kernel
theorem dX12_firstOther_10 : decode cX12_firstOther 10 = .ok (.iconst 0, 1) := by decide +kernel
theorem dX12_firstOther_11 : decode cX12_firstOther 11 = .ok (.istore 5, 2) := by decide +kernel
theorem dX12_firstOther_13 : decode cX12_firstOther 13 = .ok (.iload 5, 2) := by decide +kernel
theorem dX12_firstOther_15 : decode cX12_firstOther 15 = .ok (.aload_n 0, 1) := by decide +kernel
theorem dX12_firstOther_16 : decode cX12_firstOther 16 = .ok (.getfield 48, 3) := by decide +kernel
theorem dX12_firstOther_19 : decode cX12_firstOther 19 = .ok (.iload_n 1, 1) := by decide +kernel
theorem dX12_firstOther_20 : decode cX12_firstOther 20 = .ok (.iaload, 1) := by decide +kernel
theorem dX12_firstOther_21 : decode cX12_firstOther 21 = .ok (.if_icmp .ge 53, 3) := by decide +kernel
theorem dX12_firstOther_24 : decode cX12_firstOther 24 = .ok (.iload 4, 2) := by decide +kernel
theorem dX12_firstOther_26 : decode cX12_firstOther 26 = .ok (.iconst (-1), 1) := by decide +kernel
theorem dX12_firstOther_27 : decode cX12_firstOther 27 = .ok (.if_icmp .ne 47, 3) := by decide +kernel
theorem dX12_firstOther_30 : decode cX12_firstOther 30 = .ok (.aload_n 0, 1) := by decide +kernel
theorem dX12_firstOther_31 : decode cX12_firstOther 31 = .ok (.getfield 23, 3) := by decide +kernel
theorem dX12_firstOther_34 : decode cX12_firstOther 34 = .ok (.iconst 0, 1) := by decide +kernel
theorem dX12_firstOther_35 : decode cX12_firstOther 35 = .ok (.iload 5, 2) := by decide +kernel
theorem dX12_firstOther_37 : decode cX12_firstOther 37 = .ok (.iconst 1, 1) := by decide +kernel
theorem dX12_firstOther_38 : decode cX12_firstOther 38 = .ok (.iadd, 1) := by decide +kernel
theorem dX12_firstOther_39 : decode cX12_firstOther 39 = .ok (.iastore, 1) := by decide +kernel
theorem dX12_firstOther_40 : decode cX12_firstOther 40 = .ok (.aload_n 0, 1) := by decide +kernel
theorem dX12_firstOther_41 : decode cX12_firstOther 41 = .ok (.iload_n 2, 1) := by decide +kernel
theorem dX12_firstOther_42 : decode cX12_firstOther 42 = .ok (.invokevirtual 99, 3) := by decide +kernel
theorem dX12_firstOther_45 : decode cX12_firstOther 45 = .ok (.aload_n 0, 1) := by decide +kernel
theorem dX12_firstOther_46 : decode cX12_firstOther 46 = .ok (.getfield 51, 3) := by decide +kernel
theorem dX12_firstOther_49 : decode cX12_firstOther 49 = .ok (.bipush 40, 2) := by decide +kernel
theorem dX12_firstOther_51 : decode cX12_firstOther 51 = .ok (.iload_n 1, 1) := by decide +kernel
theorem dX12_firstOther_52 : decode cX12_firstOther 52 = .ok (.imul, 1) := by decide +kernel
theorem dX12_firstOther_53 : decode cX12_firstOther 53 = .ok (.iload 5, 2) := by decide +kernel
theorem dX12_firstOther_55 : decode cX12_firstOther 55 = .ok (.iadd, 1) := by decide +kernel
theorem dX12_firstOther_56 : decode cX12_firstOther 56 = .ok (.iaload, 1) := by decide +kernel
theorem dX12_firstOther_57 : decode cX12_firstOther 57 = .ok (.if_icmp .ne 7, 3) := by decide +kernel
theorem dX12_firstOther_60 : decode cX12_firstOther 60 = .ok (.iconst (-1), 1) := by decide +kernel
theorem dX12_firstOther_61 : decode cX12_firstOther 61 = .ok (.goto 5, 3) := by decide +kernel
theorem dX12_firstOther_64 : decode cX12_firstOther 64 = .ok (.iload 5, 2) := by decide +kernel
theorem dX12_firstOther_66 : decode cX12_firstOther 66 = .ok (.istore 4, 2) := by decide +kernel
theorem dX12_firstOther_68 : decode cX12_firstOther 68 = .ok (.iinc 5 1, 3) := by decide +kernel
theorem dX12_firstOther_71 : decode cX12_firstOther 71 = .ok (.goto (-58), 3) := by decide +kernel
theorem dX12_firstOther_74 : decode cX12_firstOther 74 = .ok (.aload_n 0, 1) := by decide +kernel
theorem dX12_firstOther_75 : decode cX12_firstOther 75 = .ok (.getfield 23, 3) := by decide +kernel
theorem dX12_firstOther_78 : decode cX12_firstOther 78 = .ok (.iconst 0, 1) := by decide +kernel
theorem dX12_firstOther_79 : decode cX12_firstOther 79 = .ok (.iload_n 3, 1) := by decide +kernel
theorem dX12_firstOther_80 : decode cX12_firstOther 80 = .ok (.iastore, 1) := by decide +kernel
theorem dX12_firstOther_81 : decode cX12_firstOther 81 = .ok (.iload 4, 2) := by decide +kernel
theorem dX12_firstOther_83 : decode cX12_firstOther 83 = .ok (.ireturn, 1) := by decide +kernel
set_option maxRecDepth 20000 in
theorem ggX12_tells_X12_isSheet : GoodIn wsX12_tells wsX12_isSheet := goodIn_r _ [8, 9, 10, 11, 7, 12] (by decide +kernel) (by decide +kernel)
set_option maxRecDepth 20000 in
theorem gX12_tells_X12_isSheet : GoodIn wsX12_tells (va_wsS RX12 354 yX12_isSheet wsX12_isSheet) := goodIn_app (goodIn_of _ (by decide +kernel)) ggX12_tells_X12_isSheet
set_option maxRecDepth 20000 in
theorem ggX12_tells_X12_isOne : GoodIn wsX12_tells wsX12_isOne := goodIn_r _ [16, 17, 10, 11, 7, 12, 282, 283, 284, 285, 286, 287, 288, 289, 290, 291, 292, 293, 294, 295, 296, 297, 298, 299, 300, 301, 302, 303, 304, 305, 306, 307, 308, 309, 310, 311, 312, 313, 314, 315] (by decide +kernel) (by decide +kernel)
set_option maxRecDepth 20000 in
theorem gX12_tells_X12_isOne : GoodIn wsX12_tells (wsV RX12 70 RX12 yX12_isOne wsX12_isOne) := goodIn_app (goodIn_of _ (by decide +kernel)) ggX12_tells_X12_isOne
set_option maxRecDepth 20000 in
theorem ggX12_tells_X12_in : GoodIn wsX12_tells wsX12_in := goodIn_r _ [12] (by decide +kernel) (by decide +kernel)
set_option maxRecDepth 20000 in
theorem gX12_tells_X12_in : GoodIn wsX12_tells (va_wsS RX12 64 yX12_in wsX12_in) := goodIn_app (goodIn_of _ (by decide +kernel)) ggX12_tells_X12_in
set_option maxRecDepth 20000 in
theorem ggX12_tells_X12_firstOther : GoodIn wsX12_tells wsX12_firstOther := goodIn_r _ [21, 22, 23, 24, 25, 26, 27, 7, 28, 29, 30, 31, 32, 33, 34, 35, 36, 37, 38, 39, 40, 3, 41, 42, 43, 44, 45, 46, 47, 48, 49, 50, 51, 52, 53, 54, 55, 56, 57, 58, 59, 60, 61, 62, 63, 64, 65, 66, 67, 10, 11, 12, 68, 69, 70, 71, 72, 73, 74, 75, 76, 77, 78, 79, 80, 81, 82, 83, 84, 85, 86, 87, 88, 89, 90, 91, 92, 93, 94, 95, 96, 97, 98, 99, 100, 101, 102, 103, 104, 105, 106, 107, 108, 109, 110, 111, 112, 113, 114, 115, 116, 117, 118, 119, 120, 121, 122, 123, 124, 125, 126, 127, 128, 129, 130, 131, 132, 133, 134, 135, 136, 137, 138, 139, 140, 141, 142, 143, 144, 145, 146, 147, 148, 149, 150, 151, 152, 153, 154, 155, 156, 157, 158, 159, 160, 161, 162, 163, 164, 165, 166, 167, 168, 169, 170, 171, 172, 173, 174, 175, 176, 177, 178, 179, 180, 181, 182, 183, 184, 185, 186, 187, 188, 189, 190, 191, 192, 193, 194, 195, 196, 197, 198, 199, 200, 201, 202, 203, 204, 205, 206, 207, 208, 209, 210, 211, 212, 213, 214, 215, 216, 217, 218, 219, 220, 221, 222, 223, 224, 225, 226, 227, 228, 229, 230, 231, 232, 233, 234, 235, 236, 237, 238, 239, 240, 241, 242, 243, 244, 245, 282, 283, 284, 285, 286, 287, 288, 289, 290, 291, 292, 293, 294, 295, 296, 297, 298, 299, 300, 301, 302, 303, 304, 305, 306, 307, 308, 309, 310, 311, 312, 313, 314, 315] (by decide +kernel) (by decide +kernel)
set_option maxRecDepth 20000 in
theorem gX12_tells_X12_firstOther : GoodIn wsX12_tells (wsV RX12 357 RX12 yX12_firstOther wsX12_firstOther) := goodIn_app (goodIn_of _ (by decide +kernel)) ggX12_tells_X12_firstOther
set_option maxRecDepth 20000 in
theorem ggX12_tells_X12_told : GoodIn wsX12_tells wsX12_told := goodIn_r _ [249, 250, 251, 22, 30, 29, 10, 11, 7, 12, 13, 14, 15, 16, 17, 25, 26, 27, 28, 31, 32, 33, 34, 35, 36, 37, 38, 39, 40, 3, 41, 42, 43, 44, 45, 46, 47, 48, 49, 50, 51, 52, 53, 54, 55, 56, 57, 58, 59, 60, 61, 62, 63, 64, 65, 66, 67, 68, 69, 70, 71, 72, 73, 74, 75, 76, 77, 78, 79, 80, 81, 82, 83, 84, 85, 86, 87, 88, 89, 90, 91, 92, 93, 94, 95, 96, 97, 98, 99, 100, 101, 102, 103, 104, 105, 106, 107, 108, 109, 110, 111, 112, 113, 114, 115, 116, 117, 118, 119, 120, 121, 122, 123, 124, 125, 126, 127, 128, 129, 130, 131, 132, 133, 134, 135, 136, 137, 138, 139, 140, 141, 142, 143, 144, 145, 146, 147, 148, 149, 150, 151, 152, 153, 154, 155, 156, 157, 158, 159, 160, 161, 162, 163, 164, 165, 166, 167, 168, 169, 170, 171, 172, 173, 174, 175, 176, 177, 178, 179, 180, 181, 182, 183, 184, 185, 186, 187, 188, 189, 190, 191, 192, 193, 194, 195, 196, 197, 198, 199, 200, 201, 202, 203, 204, 205, 206, 207, 208, 209, 210, 211, 212, 213, 214, 215, 216, 217, 218, 219, 220, 221, 222, 223, 224, 225, 226, 227, 228, 229, 230, 231, 232, 233, 234, 235, 236, 237, 238, 239, 240, 241, 242, 243, 244, 245, 252, 253, 254, 255, 256, 257, 258, 259, 260, 261, 262, 263, 264, 265, 266, 267, 268, 269, 270, 271, 282, 283, 284, 285, 286, 287, 288, 289, 290, 291, 292, 293, 294, 295, 296, 297, 298, 299, 300, 301, 302, 303, 304, 305, 306, 307, 308, 309, 310, 311, 312, 313, 314, 315] (by decide +kernel) (by decide +kernel)
set_option maxRecDepth 20000 in
theorem gX12_tells_X12_told : GoodIn wsX12_tells (wsV RX12 81 RX12 yX12_told wsX12_told) := goodIn_app (goodIn_of _ (by decide +kernel)) ggX12_tells_X12_told
set_option maxRecDepth 20000 in
theorem ggX12_tells_X12_mostOf : GoodIn wsX12_tells wsX12_mostOf := goodIn_r _ [274] (by decide +kernel) (by decide +kernel)
set_option maxRecDepth 20000 in
theorem gX12_tells_X12_mostOf : GoodIn wsX12_tells (va_wsS RX12 78 yX12_mostOf wsX12_mostOf) := goodIn_app (goodIn_of _ (by decide +kernel)) ggX12_tells_X12_mostOf
set_option maxRecDepth 20000 in
theorem ggX12_tells_X12_leastOf : GoodIn wsX12_tells wsX12_leastOf := goodIn_r _ [277] (by decide +kernel) (by decide +kernel)
set_option maxRecDepth 20000 in
theorem gX12_tells_X12_leastOf : GoodIn wsX12_tells (va_wsS RX12 74 yX12_leastOf wsX12_leastOf) := goodIn_app (goodIn_of _ (by decide +kernel)) ggX12_tells_X12_leastOf
set_option maxRecDepth 20000 in
theorem ggX12_tells_X12_lays : GoodIn wsX12_tells wsX12_lays := goodIn_r _ [281, 22, 30, 29, 3, 282, 283, 284, 285, 286, 287, 288, 289, 290, 291, 292, 293, 294, 295, 296, 297, 298, 299, 300, 301, 302, 303, 304, 305, 306, 307, 308, 309, 310, 311, 312, 313, 314, 315] (by decide +kernel) (by decide +kernel)
set_option maxRecDepth 20000 in
theorem gX12_tells_X12_lays : GoodIn wsX12_tells (wsV RX12 85 RX12 yX12_lays wsX12_lays) := goodIn_app (goodIn_of _ (by decide +kernel)) ggX12_tells_X12_lays
theorem dX12_tells_0 : decode cX12_tells 0 = .ok (.iload_n 1, 1) := by decide +kernel
theorem dX12_tells_1 : decode cX12_tells 1 = .ok (.invokestatic 354, 3) := by decide +kernel
theorem dX12_tells_4 : decode cX12_tells 4 = .ok (.ifCond .eq 23, 3) := by decide +kernel
theorem dX12_tells_7 : decode cX12_tells 7 = .ok (.aload_n 0, 1) := by decide +kernel
theorem dX12_tells_8 : decode cX12_tells 8 = .ok (.iload_n 2, 1) := by decide +kernel
theorem dX12_tells_9 : decode cX12_tells 9 = .ok (.invokevirtual 70, 3) := by decide +kernel
theorem dX12_tells_12 : decode cX12_tells 12 = .ok (.ifCond .eq 15, 3) := by decide +kernel
theorem dX12_tells_15 : decode cX12_tells 15 = .ok (.iload_n 3, 1) := by decide +kernel
theorem dX12_tells_16 : decode cX12_tells 16 = .ok (.i2l, 1) := by decide +kernel
theorem dX12_tells_17 : decode cX12_tells 17 = .ok (.lconst 0, 1) := by decide +kernel
theorem dX12_tells_18 : decode cX12_tells 18 = .ok (.ldc2_w 68, 3) := by decide +kernel
theorem dX12_tells_21 : decode cX12_tells 21 = .ok (.invokestatic 64, 3) := by decide +kernel
theorem dX12_tells_24 : decode cX12_tells 24 = .ok (.ifCond .ne 6, 3) := by decide +kernel
theorem dX12_tells_27 : decode cX12_tells 27 = .ok (.bipush (-2), 2) := by decide +kernel
theorem dX12_tells_29 : decode cX12_tells 29 = .ok (.ireturn, 1) := by decide +kernel
theorem dX12_tells_30 : decode cX12_tells 30 = .ok (.aload_n 0, 1) := by decide +kernel
theorem dX12_tells_31 : decode cX12_tells 31 = .ok (.getfield 41, 3) := by decide +kernel
theorem dX12_tells_34 : decode cX12_tells 34 = .ok (.iload_n 1, 1) := by decide +kernel
theorem dX12_tells_35 : decode cX12_tells 35 = .ok (.baload, 1) := by decide +kernel
theorem dX12_tells_36 : decode cX12_tells 36 = .ok (.ifCond .ne 6, 3) := by decide +kernel
theorem dX12_tells_39 : decode cX12_tells 39 = .ok (.bipush (-11), 2) := by decide +kernel
theorem dX12_tells_41 : decode cX12_tells 41 = .ok (.ireturn, 1) := by decide +kernel
theorem dX12_tells_42 : decode cX12_tells 42 = .ok (.iload_n 3, 1) := by decide +kernel
theorem dX12_tells_43 : decode cX12_tells 43 = .ok (.ifCond .ne 10, 3) := by decide +kernel
theorem dX12_tells_46 : decode cX12_tells 46 = .ok (.aload_n 0, 1) := by decide +kernel
theorem dX12_tells_47 : decode cX12_tells 47 = .ok (.iload_n 1, 1) := by decide +kernel
theorem dX12_tells_48 : decode cX12_tells 48 = .ok (.iload_n 2, 1) := by decide +kernel
theorem dX12_tells_49 : decode cX12_tells 49 = .ok (.invokevirtual 357, 3) := by decide +kernel
theorem dX12_tells_52 : decode cX12_tells 52 = .ok (.ireturn, 1) := by decide +kernel
theorem dX12_tells_53 : decode cX12_tells 53 = .ok (.iload_n 3, 1) := by decide +kernel
theorem dX12_tells_54 : decode cX12_tells 54 = .ok (.iconst 1, 1) := by decide +kernel
theorem dX12_tells_55 : decode cX12_tells 55 = .ok (.if_icmp .ne 8, 3) := by decide +kernel
theorem dX12_tells_58 : decode cX12_tells 58 = .ok (.bipush 8, 2) := by decide +kernel
theorem dX12_tells_60 : decode cX12_tells 60 = .ok (.goto 44, 3) := by decide +kernel
theorem dX12_tells_63 : decode cX12_tells 63 = .ok (.iload_n 3, 1) := by decide +kernel
theorem dX12_tells_64 : decode cX12_tells 64 = .ok (.iconst 2, 1) := by decide +kernel
theorem dX12_tells_65 : decode cX12_tells 65 = .ok (.if_icmp .ne 7, 3) := by decide +kernel
theorem dX12_tells_68 : decode cX12_tells 68 = .ok (.iconst 5, 1) := by decide +kernel
theorem dX12_tells_69 : decode cX12_tells 69 = .ok (.goto 35, 3) := by decide +kernel
theorem dX12_tells_72 : decode cX12_tells 72 = .ok (.iload_n 3, 1) := by decide +kernel
theorem dX12_tells_73 : decode cX12_tells 73 = .ok (.iconst 5, 1) := by decide +kernel
theorem dX12_tells_74 : decode cX12_tells 74 = .ok (.if_icmp .ge 8, 3) := by decide +kernel
theorem dX12_tells_77 : decode cX12_tells 77 = .ok (.bipush 7, 2) := by decide +kernel
theorem dX12_tells_79 : decode cX12_tells 79 = .ok (.goto 25, 3) := by decide +kernel
theorem dX12_tells_82 : decode cX12_tells 82 = .ok (.iload_n 3, 1) := by decide +kernel
theorem dX12_tells_83 : decode cX12_tells 83 = .ok (.iconst 5, 1) := by decide +kernel
theorem dX12_tells_84 : decode cX12_tells 84 = .ok (.if_icmp .ne 8, 3) := by decide +kernel
theorem dX12_tells_87 : decode cX12_tells 87 = .ok (.bipush 6, 2) := by decide +kernel
theorem dX12_tells_89 : decode cX12_tells 89 = .ok (.goto 15, 3) := by decide +kernel
theorem dX12_tells_92 : decode cX12_tells 92 = .ok (.iload_n 3, 1) := by decide +kernel
theorem dX12_tells_93 : decode cX12_tells 93 = .ok (.bipush 6, 2) := by decide +kernel
theorem dX12_tells_95 : decode cX12_tells 95 = .ok (.if_icmp .ne 7, 3) := by decide +kernel
theorem dX12_tells_98 : decode cX12_tells 98 = .ok (.iconst 1, 1) := by decide +kernel
theorem dX12_tells_99 : decode cX12_tells 99 = .ok (.goto 5, 3) := by decide +kernel
theorem dX12_tells_102 : decode cX12_tells 102 = .ok (.bipush 9, 2) := by decide +kernel
theorem dX12_tells_104 : decode cX12_tells 104 = .ok (.istore 4, 2) := by decide +kernel
theorem dX12_tells_106 : decode cX12_tells 106 = .ok (.iload 4, 2) := by decide +kernel
theorem dX12_tells_108 : decode cX12_tells 108 = .ok (.bipush 9, 2) := by decide +kernel
theorem dX12_tells_110 : decode cX12_tells 110 = .ok (.if_icmp .ne 10, 3) := by decide +kernel
theorem dX12_tells_113 : decode cX12_tells 113 = .ok (.aload_n 0, 1) := by decide +kernel
theorem dX12_tells_114 : decode cX12_tells 114 = .ok (.getfield 89, 3) := by decide +kernel
theorem dX12_tells_117 : decode cX12_tells 117 = .ok (.goto 10, 3) := by decide +kernel
theorem dX12_tells_120 : decode cX12_tells 120 = .ok (.aload_n 0, 1) := by decide +kernel
theorem dX12_tells_121 : decode cX12_tells 121 = .ok (.iload_n 2, 1) := by decide +kernel
theorem dX12_tells_122 : decode cX12_tells 122 = .ok (.iload 4, 2) := by decide +kernel
theorem dX12_tells_124 : decode cX12_tells 124 = .ok (.invokevirtual 81, 3) := by decide +kernel
theorem dX12_tells_127 : decode cX12_tells 127 = .ok (.istore 5, 2) := by decide +kernel
theorem dX12_tells_129 : decode cX12_tells 129 = .ok (.iload 4, 2) := by decide +kernel
theorem dX12_tells_131 : decode cX12_tells 131 = .ok (.bipush 9, 2) := by decide +kernel
theorem dX12_tells_133 : decode cX12_tells 133 = .ok (.if_icmp .ne 12, 3) := by decide +kernel
theorem dX12_tells_136 : decode cX12_tells 136 = .ok (.aload_n 0, 1) := by decide +kernel
theorem dX12_tells_137 : decode cX12_tells 137 = .ok (.getfield 58, 3) := by decide +kernel
theorem dX12_tells_140 : decode cX12_tells 140 = .ok (.iconst 1, 1) := by decide +kernel
theorem dX12_tells_141 : decode cX12_tells 141 = .ok (.isub, 1) := by decide +kernel
theorem dX12_tells_142 : decode cX12_tells 142 = .ok (.goto 19, 3) := by decide +kernel
theorem dX12_tells_145 : decode cX12_tells 145 = .ok (.iload 4, 2) := by decide +kernel
theorem dX12_tells_147 : decode cX12_tells 147 = .ok (.bipush 8, 2) := by decide +kernel
theorem dX12_tells_149 : decode cX12_tells 149 = .ok (.if_icmp .ne 7, 3) := by decide +kernel
theorem dX12_tells_152 : decode cX12_tells 152 = .ok (.iconst 5, 1) := by decide +kernel
theorem dX12_tells_153 : decode cX12_tells 153 = .ok (.goto 8, 3) := by decide +kernel
theorem dX12_tells_156 : decode cX12_tells 156 = .ok (.iload 4, 2) := by decide +kernel
theorem dX12_tells_158 : decode cX12_tells 158 = .ok (.invokestatic 78, 3) := by decide +kernel
theorem dX12_tells_161 : decode cX12_tells 161 = .ok (.istore 6, 2) := by decide +kernel
theorem dX12_tells_163 : decode cX12_tells 163 = .ok (.iconst 0, 1) := by decide +kernel
theorem dX12_tells_164 : decode cX12_tells 164 = .ok (.istore 7, 2) := by decide +kernel
theorem dX12_tells_166 : decode cX12_tells 166 = .ok (.iconst 0, 1) := by decide +kernel
theorem dX12_tells_167 : decode cX12_tells 167 = .ok (.istore 8, 2) := by decide +kernel
theorem dX12_tells_169 : decode cX12_tells 169 = .ok (.iconst (-1), 1) := by decide +kernel
theorem dX12_tells_170 : decode cX12_tells 170 = .ok (.istore 9, 2) := by decide +kernel
theorem dX12_tells_172 : decode cX12_tells 172 = .ok (.iload 6, 2) := by decide +kernel
theorem dX12_tells_174 : decode cX12_tells 174 = .ok (.istore 10, 2) := by decide +kernel
theorem dX12_tells_176 : decode cX12_tells 176 = .ok (.iload 10, 2) := by decide +kernel
theorem dX12_tells_178 : decode cX12_tells 178 = .ok (.iload 4, 2) := by decide +kernel
theorem dX12_tells_180 : decode cX12_tells 180 = .ok (.invokestatic 74, 3) := by decide +kernel
theorem dX12_tells_183 : decode cX12_tells 183 = .ok (.if_icmp .lt 55, 3) := by decide +kernel
theorem dX12_tells_186 : decode cX12_tells 186 = .ok (.aload_n 0, 1) := by decide +kernel
theorem dX12_tells_187 : decode cX12_tells 187 = .ok (.iload 4, 2) := by decide +kernel
theorem dX12_tells_189 : decode cX12_tells 189 = .ok (.iload_n 2, 1) := by decide +kernel
theorem dX12_tells_190 : decode cX12_tells 190 = .ok (.iload 10, 2) := by decide +kernel
theorem dX12_tells_192 : decode cX12_tells 192 = .ok (.invokevirtual 85, 3) := by decide +kernel
theorem dX12_tells_195 : decode cX12_tells 195 = .ok (.aload_n 0, 1) := by decide +kernel
theorem dX12_tells_196 : decode cX12_tells 196 = .ok (.iload_n 1, 1) := by decide +kernel
theorem dX12_tells_197 : decode cX12_tells 197 = .ok (.iload_n 2, 1) := by decide +kernel
theorem dX12_tells_198 : decode cX12_tells 198 = .ok (.invokevirtual 357, 3) := by decide +kernel
theorem dX12_tells_201 : decode cX12_tells 201 = .ok (.iconst (-1), 1) := by decide +kernel
theorem dX12_tells_202 : decode cX12_tells 202 = .ok (.if_icmp .ne 30, 3) := by decide +kernel
theorem dX12_tells_205 : decode cX12_tells 205 = .ok (.iload 7, 2) := by decide +kernel
theorem dX12_tells_207 : decode cX12_tells 207 = .ok (.iload 10, 2) := by decide +kernel
theorem dX12_tells_209 : decode cX12_tells 209 = .ok (.bipush 10, 2) := by decide +kernel
theorem dX12_tells_211 : decode cX12_tells 211 = .ok (.if_icmp .ge 10, 3) := by decide +kernel
theorem dX12_tells_214 : decode cX12_tells 214 = .ok (.iconst 1, 1) := by decide +kernel
theorem dX12_tells_215 : decode cX12_tells 215 = .ok (.iload 10, 2) := by decide +kernel
theorem dX12_tells_217 : decode cX12_tells 217 = .ok (.ishl, 1) := by decide +kernel
theorem dX12_tells_218 : decode cX12_tells 218 = .ok (.goto 4, 3) := by decide +kernel
theorem dX12_tells_221 : decode cX12_tells 221 = .ok (.iconst 0, 1) := by decide +kernel
theorem dX12_tells_222 : decode cX12_tells 222 = .ok (.ior, 1) := by decide +kernel
theorem dX12_tells_223 : decode cX12_tells 223 = .ok (.istore 7, 2) := by decide +kernel
theorem dX12_tells_225 : decode cX12_tells 225 = .ok (.iinc 8 1, 3) := by decide +kernel
theorem dX12_tells_228 : decode cX12_tells 228 = .ok (.iload 10, 2) := by decide +kernel
theorem dX12_tells_230 : decode cX12_tells 230 = .ok (.istore 9, 2) := by decide +kernel
theorem dX12_tells_232 : decode cX12_tells 232 = .ok (.iinc 10 (-1), 3) := by decide +kernel
theorem dX12_tells_235 : decode cX12_tells 235 = .ok (.goto (-59), 3) := by decide +kernel
theorem dX12_tells_238 : decode cX12_tells 238 = .ok (.aload_n 0, 1) := by decide +kernel
theorem dX12_tells_239 : decode cX12_tells 239 = .ok (.iload 4, 2) := by decide +kernel
theorem dX12_tells_241 : decode cX12_tells 241 = .ok (.iload_n 2, 1) := by decide +kernel
theorem dX12_tells_242 : decode cX12_tells 242 = .ok (.iload 5, 2) := by decide +kernel
theorem dX12_tells_244 : decode cX12_tells 244 = .ok (.invokevirtual 85, 3) := by decide +kernel
theorem dX12_tells_247 : decode cX12_tells 247 = .ok (.iload_n 3, 1) := by decide +kernel
theorem dX12_tells_248 : decode cX12_tells 248 = .ok (.iconst 3, 1) := by decide +kernel
theorem dX12_tells_249 : decode cX12_tells 249 = .ok (.if_icmp .ne 8, 3) := by decide +kernel
theorem dX12_tells_252 : decode cX12_tells 252 = .ok (.iload 8, 2) := by decide +kernel
theorem dX12_tells_254 : decode cX12_tells 254 = .ok (.goto 15, 3) := by decide +kernel
theorem dX12_tells_257 : decode cX12_tells 257 = .ok (.iload_n 3, 1) := by decide +kernel
theorem dX12_tells_258 : decode cX12_tells 258 = .ok (.iconst 4, 1) := by decide +kernel
theorem dX12_tells_259 : decode cX12_tells 259 = .ok (.if_icmp .ne 8, 3) := by decide +kernel
theorem dX12_tells_262 : decode cX12_tells 262 = .ok (.iload 9, 2) := by decide +kernel
theorem dX12_tells_264 : decode cX12_tells 264 = .ok (.goto 5, 3) := by decide +kernel
theorem dX12_tells_267 : decode cX12_tells 267 = .ok (.iload 7, 2) := by decide +kernel
theorem dX12_tells_269 : decode cX12_tells 269 = .ok (.ireturn, 1) := by decide +kernel
set_option maxRecDepth 20000 in
theorem ggX12_film_X12_isSheet : GoodIn wsX12_film wsX12_isSheet := goodIn_r _ [7, 8, 9, 10, 6, 11] (by decide +kernel) (by decide +kernel)
set_option maxRecDepth 20000 in
theorem gX12_film_X12_isSheet : GoodIn wsX12_film (va_wsS RX12 354 yX12_isSheet wsX12_isSheet) := goodIn_app (goodIn_of _ (by decide +kernel)) ggX12_film_X12_isSheet
set_option maxRecDepth 20000 in
theorem ggX12_film_X12_isOne : GoodIn wsX12_film wsX12_isOne := goodIn_r _ [15, 16, 9, 10, 6, 11, 248, 249, 250, 251, 252, 253, 254, 255, 256, 257, 258, 259, 260, 261, 262, 263, 264, 265, 266, 267, 268, 269, 270, 271, 272, 273, 274, 275, 276, 277, 278, 279, 280, 281] (by decide +kernel) (by decide +kernel)
