theorem dX12_atom3_0 : decode cX12_atom3 0 = .ok (.iconst 0, 1) := by decide +kernel
theorem dX12_atom3_1 : decode cX12_atom3 1 = .ok (.istore_n 1, 1) := by decide +kernel
theorem dX12_atom3_2 : decode cX12_atom3 2 = .ok (.aload_n 0, 1) := by decide +kernel
theorem dX12_atom3_3 : decode cX12_atom3 3 = .ok (.bipush 45, 2) := by decide +kernel
theorem dX12_atom3_5 : decode cX12_atom3 5 = .ok (.invokevirtual 196, 3) := by decide +kernel
theorem dX12_atom3_8 : decode cX12_atom3 8 = .ok (.ifCond .eq 29, 3) := by decide +kernel
theorem dX12_atom3_11 : decode cX12_atom3 11 = .ok (.aload_n 0, 1) := by decide +kernel
theorem dX12_atom3_12 : decode cX12_atom3 12 = .ok (.invokevirtual 199, 3) := by decide +kernel
theorem dX12_atom3_15 : decode cX12_atom3 15 = .ok (.ifCond .eq 146, 3) := by decide +kernel
theorem dX12_atom3_18 : decode cX12_atom3 18 = .ok (.aload_n 0, 1) := by decide +kernel
theorem dX12_atom3_19 : decode cX12_atom3 19 = .ok (.invokevirtual 229, 3) := by decide +kernel
theorem dX12_atom3_22 : decode cX12_atom3 22 = .ok (.ineg, 1) := by decide +kernel
theorem dX12_atom3_23 : decode cX12_atom3 23 = .ok (.istore_n 1, 1) := by decide +kernel
theorem dX12_atom3_24 : decode cX12_atom3 24 = .ok (.aload_n 0, 1) := by decide +kernel
theorem dX12_atom3_25 : decode cX12_atom3 25 = .ok (.dup, 1) := by decide +kernel
theorem dX12_atom3_26 : decode cX12_atom3 26 = .ok (.getfield 165, 3) := by decide +kernel
theorem dX12_atom3_29 : decode cX12_atom3 29 = .ok (.iconst 1, 1) := by decide +kernel
theorem dX12_atom3_30 : decode cX12_atom3 30 = .ok (.isub, 1) := by decide +kernel
theorem dX12_atom3_31 : decode cX12_atom3 31 = .ok (.putfield 165, 3) := by decide +kernel
theorem dX12_atom3_34 : decode cX12_atom3 34 = .ok (.goto 127, 3) := by decide +kernel
theorem dX12_atom3_37 : decode cX12_atom3 37 = .ok (.aload_n 0, 1) := by decide +kernel
theorem dX12_atom3_38 : decode cX12_atom3 38 = .ok (.bipush 40, 2) := by decide +kernel
theorem dX12_atom3_40 : decode cX12_atom3 40 = .ok (.invokevirtual 196, 3) := by decide +kernel
theorem dX12_atom3_43 : decode cX12_atom3 43 = .ok (.ifCond .eq 52, 3) := by decide +kernel
theorem dX12_atom3_46 : decode cX12_atom3 46 = .ok (.aload_n 0, 1) := by decide +kernel
theorem dX12_atom3_47 : decode cX12_atom3 47 = .ok (.invokevirtual 199, 3) := by decide +kernel
theorem dX12_atom3_50 : decode cX12_atom3 50 = .ok (.ifCond .eq 111, 3) := by decide +kernel
theorem dX12_atom3_53 : decode cX12_atom3 53 = .ok (.aload_n 0, 1) := by decide +kernel
theorem dX12_atom3_54 : decode cX12_atom3 54 = .ok (.invokevirtual 244, 3) := by decide +kernel
theorem dX12_atom3_57 : decode cX12_atom3 57 = .ok (.istore_n 1, 1) := by decide +kernel
theorem dX12_atom3_58 : decode cX12_atom3 58 = .ok (.aload_n 0, 1) := by decide +kernel
theorem dX12_atom3_59 : decode cX12_atom3 59 = .ok (.bipush 41, 2) := by decide +kernel
theorem dX12_atom3_61 : decode cX12_atom3 61 = .ok (.invokevirtual 196, 3) := by decide +kernel
theorem dX12_atom3_64 : decode cX12_atom3 64 = .ok (.ifCond .ne 7, 3) := by decide +kernel
theorem dX12_atom3_67 : decode cX12_atom3 67 = .ok (.aload_n 0, 1) := by decide +kernel
theorem dX12_atom3_68 : decode cX12_atom3 68 = .ok (.invokevirtual 168, 3) := by decide +kernel
theorem dX12_atom3_71 : decode cX12_atom3 71 = .ok (.aload_n 0, 1) := by decide +kernel
theorem dX12_atom3_72 : decode cX12_atom3 72 = .ok (.dup, 1) := by decide +kernel
theorem dX12_atom3_73 : decode cX12_atom3 73 = .ok (.getfield 165, 3) := by decide +kernel
theorem dX12_atom3_76 : decode cX12_atom3 76 = .ok (.iconst 1, 1) := by decide +kernel
theorem dX12_atom3_77 : decode cX12_atom3 77 = .ok (.isub, 1) := by decide +kernel
theorem dX12_atom3_78 : decode cX12_atom3 78 = .ok (.putfield 165, 3) := by decide +kernel
theorem dX12_atom3_81 : decode cX12_atom3 81 = .ok (.aload_n 0, 1) := by decide +kernel
theorem dX12_atom3_82 : decode cX12_atom3 82 = .ok (.getfield 154, 3) := by decide +kernel
theorem dX12_atom3_85 : decode cX12_atom3 85 = .ok (.ifCond .ne 76, 3) := by decide +kernel
theorem dX12_atom3_88 : decode cX12_atom3 88 = .ok (.aload_n 0, 1) := by decide +kernel
theorem dX12_atom3_89 : decode cX12_atom3 89 = .ok (.invokevirtual 171, 3) := by decide +kernel
theorem dX12_atom3_92 : decode cX12_atom3 92 = .ok (.goto 69, 3) := by decide +kernel
theorem dX12_atom3_95 : decode cX12_atom3 95 = .ok (.aload_n 0, 1) := by decide +kernel
theorem dX12_atom3_96 : decode cX12_atom3 96 = .ok (.getfield 154, 3) := by decide +kernel
theorem dX12_atom3_99 : decode cX12_atom3 99 = .ok (.ifCond .ne 24, 3) := by decide +kernel
theorem dX12_atom3_102 : decode cX12_atom3 102 = .ok (.aload_n 0, 1) := by decide +kernel
theorem dX12_atom3_103 : decode cX12_atom3 103 = .ok (.getfield 137, 3) := by decide +kernel
theorem dX12_atom3_106 : decode cX12_atom3 106 = .ok (.iconst 2, 1) := by decide +kernel
theorem dX12_atom3_107 : decode cX12_atom3 107 = .ok (.if_icmp .ne 16, 3) := by decide +kernel
theorem dX12_atom3_110 : decode cX12_atom3 110 = .ok (.aload_n 0, 1) := by decide +kernel
theorem dX12_atom3_111 : decode cX12_atom3 111 = .ok (.getfield 148, 3) := by decide +kernel
theorem dX12_atom3_114 : decode cX12_atom3 114 = .ok (.l2i, 1) := by decide +kernel
theorem dX12_atom3_115 : decode cX12_atom3 115 = .ok (.istore_n 1, 1) := by decide +kernel
theorem dX12_atom3_116 : decode cX12_atom3 116 = .ok (.aload_n 0, 1) := by decide +kernel
theorem dX12_atom3_117 : decode cX12_atom3 117 = .ok (.invokevirtual 171, 3) := by decide +kernel
theorem dX12_atom3_120 : decode cX12_atom3 120 = .ok (.goto 41, 3) := by decide +kernel
theorem dX12_atom3_123 : decode cX12_atom3 123 = .ok (.aload_n 0, 1) := by decide +kernel
theorem dX12_atom3_124 : decode cX12_atom3 124 = .ok (.getfield 154, 3) := by decide +kernel
theorem dX12_atom3_127 : decode cX12_atom3 127 = .ok (.ifCond .ne 30, 3) := by decide +kernel
theorem dX12_atom3_130 : decode cX12_atom3 130 = .ok (.aload_n 0, 1) := by decide +kernel
theorem dX12_atom3_131 : decode cX12_atom3 131 = .ok (.getfield 137, 3) := by decide +kernel
theorem dX12_atom3_134 : decode cX12_atom3 134 = .ok (.iconst 1, 1) := by decide +kernel
theorem dX12_atom3_135 : decode cX12_atom3 135 = .ok (.if_icmp .ne 22, 3) := by decide +kernel
theorem dX12_atom3_138 : decode cX12_atom3 138 = .ok (.aload_n 0, 1) := by decide +kernel
theorem dX12_atom3_139 : decode cX12_atom3 139 = .ok (.invokevirtual 203, 3) := by decide +kernel
theorem dX12_atom3_142 : decode cX12_atom3 142 = .ok (.istore_n 1, 1) := by decide +kernel
theorem dX12_atom3_143 : decode cX12_atom3 143 = .ok (.aload_n 0, 1) := by decide +kernel
theorem dX12_atom3_144 : decode cX12_atom3 144 = .ok (.getfield 154, 3) := by decide +kernel
theorem dX12_atom3_147 : decode cX12_atom3 147 = .ok (.ifCond .ne 14, 3) := by decide +kernel
theorem dX12_atom3_150 : decode cX12_atom3 150 = .ok (.aload_n 0, 1) := by decide +kernel
theorem dX12_atom3_151 : decode cX12_atom3 151 = .ok (.invokevirtual 171, 3) := by decide +kernel
theorem dX12_atom3_154 : decode cX12_atom3 154 = .ok (.goto 7, 3) := by decide +kernel
theorem dX12_atom3_157 : decode cX12_atom3 157 = .ok (.aload_n 0, 1) := by decide +kernel
theorem dX12_atom3_158 : decode cX12_atom3 158 = .ok (.invokevirtual 168, 3) := by decide +kernel
theorem dX12_atom3_161 : decode cX12_atom3 161 = .ok (.iload_n 1, 1) := by decide +kernel
theorem dX12_atom3_162 : decode cX12_atom3 162 = .ok (.ireturn, 1) := by decide +kernel
set_option maxRecDepth 20000 in
theorem ggX12_term3_X12_atom3 : GoodIn wsX12_term3 wsX12_atom3 := goodIn_r _ [5, 6, 7, 8, 9, 10, 11, 12, 4, 13, 14, 15, 16, 17, 18, 19, 20, 21, 22, 23, 24, 25, 26, 27, 28, 29, 30, 31, 32, 33, 34, 35, 36, 37, 38, 39, 40, 41, 42, 43, 44, 45, 46, 47, 48, 49, 50, 51, 52, 53, 54, 55, 56, 57, 58, 59, 60, 61, 62, 63, 64, 65, 66, 67, 68, 69, 70, 71, 72, 73, 74, 75, 76, 77, 78, 79, 80, 81, 82, 83, 84, 85, 86, 87, 88, 89, 90, 91, 92, 93, 94, 95, 96, 97, 98, 99, 100, 101, 102, 103, 104, 105, 106, 107, 108, 109, 110, 111, 112, 113, 114, 115, 116, 117, 118, 119, 120, 121, 122, 123, 124, 125, 126, 127, 128, 129, 130, 131, 132, 133, 134, 135, 136, 137, 138, 139, 140, 141, 142, 143, 144, 145] (by decide +kernel) (by decide +kernel)
set_option maxRecDepth 20000 in
theorem gX12_term3_X12_atom3 : GoodIn wsX12_term3 (wsV RX12 247 RX12 yX12_atom3 wsX12_atom3) := goodIn_app (goodIn_of _ (by decide +kernel)) ggX12_term3_X12_atom3
set_option maxRecDepth 20000 in
theorem ggX12_term3_X12_isSign : GoodIn wsX12_term3 wsX12_isSign := goodIn_r _ [13, 7, 8, 9, 112, 113, 114, 115, 116, 117, 118, 119, 120, 121, 122, 123, 124, 125, 126, 127, 128, 129, 130, 131, 132, 133, 134, 135, 136, 137, 138, 139, 140, 141, 142, 143, 144, 145] (by decide +kernel) (by decide +kernel)
set_option maxRecDepth 20000 in
theorem gX12_term3_X12_isSign : GoodIn wsX12_term3 (wsV RX12 196 RX12 yX12_isSign wsX12_isSign) := goodIn_app (goodIn_of _ (by decide +kernel)) ggX12_term3_X12_isSign
set_option maxRecDepth 20000 in
theorem ggX12_term3_X12_next : GoodIn wsX12_term3 wsX12_next := goodIn_r _ [27, 28, 22, 8, 29, 30, 31, 32, 33, 9, 34, 35, 36, 37, 4, 38, 39, 40, 41, 42, 43, 112, 113, 114, 115, 116, 117, 118, 119, 120, 121, 122, 123, 124, 125, 126, 127, 128, 129, 130, 131, 132, 133, 134, 135, 136, 137, 138, 139, 140, 141, 142, 143, 144, 145] (by decide +kernel) (by decide +kernel)
set_option maxRecDepth 20000 in
theorem gX12_term3_X12_next : GoodIn wsX12_term3 (wsV RX12 171 RX12 yX12_next wsX12_next) := goodIn_app (goodIn_of _ (by decide +kernel)) ggX12_term3_X12_next
theorem dX12_term3_0 : decode cX12_term3 0 = .ok (.aload_n 0, 1) := by decide +kernel
theorem dX12_term3_1 : decode cX12_term3 1 = .ok (.invokevirtual 247, 3) := by decide +kernel
theorem dX12_term3_4 : decode cX12_term3 4 = .ok (.istore_n 1, 1) := by decide +kernel
theorem dX12_term3_5 : decode cX12_term3 5 = .ok (.aload_n 0, 1) := by decide +kernel
theorem dX12_term3_6 : decode cX12_term3 6 = .ok (.bipush 42, 2) := by decide +kernel
theorem dX12_term3_8 : decode cX12_term3 8 = .ok (.invokevirtual 196, 3) := by decide +kernel
theorem dX12_term3_11 : decode cX12_term3 11 = .ok (.ifCond .eq 17, 3) := by decide +kernel
theorem dX12_term3_14 : decode cX12_term3 14 = .ok (.aload_n 0, 1) := by decide +kernel
theorem dX12_term3_15 : decode cX12_term3 15 = .ok (.invokevirtual 171, 3) := by decide +kernel
theorem dX12_term3_18 : decode cX12_term3 18 = .ok (.iload_n 1, 1) := by decide +kernel
theorem dX12_term3_19 : decode cX12_term3 19 = .ok (.aload_n 0, 1) := by decide +kernel
theorem dX12_term3_20 : decode cX12_term3 20 = .ok (.invokevirtual 247, 3) := by decide +kernel
theorem dX12_term3_23 : decode cX12_term3 23 = .ok (.imul, 1) := by decide +kernel
theorem dX12_term3_24 : decode cX12_term3 24 = .ok (.istore_n 1, 1) := by decide +kernel
theorem dX12_term3_25 : decode cX12_term3 25 = .ok (.goto (-20), 3) := by decide +kernel
theorem dX12_term3_28 : decode cX12_term3 28 = .ok (.iload_n 1, 1) := by decide +kernel
theorem dX12_term3_29 : decode cX12_term3 29 = .ok (.ireturn, 1) := by decide +kernel
set_option maxRecDepth 20000 in
theorem ggX12_added3_X12_term3 : GoodIn wsX12_added3 wsX12_term3 := goodIn_r _ [7, 8, 9, 10, 6, 11, 12, 13, 14, 1, 15, 16, 17, 18, 19, 20, 21, 22, 23, 24, 25, 26, 27, 28, 29, 30, 31, 32, 33, 34, 35, 36, 37, 38, 39, 40, 41, 42, 43, 44, 45, 46, 47, 48, 49, 50, 51, 52, 53, 54, 55, 56, 57, 58, 59, 60, 61, 62, 63, 64, 65, 66, 67, 68, 69, 70, 71, 72, 73, 74, 75, 76, 77, 78, 79, 80, 81, 82, 83, 84, 85, 86, 87, 88, 89, 90, 91, 2, 92, 93, 94, 95, 96, 97, 98, 99, 100, 101, 102, 103, 104, 105, 106, 107, 108, 109, 110, 111, 112, 113, 114, 115, 116, 117, 118, 119, 120, 121, 122, 123, 124, 125, 126, 127, 128, 129, 130, 131, 132, 133, 134, 135, 136, 137, 138, 139, 140, 141, 142, 143, 144, 145, 146, 147, 148, 149] (by decide +kernel) (by decide +kernel)
set_option maxRecDepth 20000 in
theorem gX12_added3_X12_term3 : GoodIn wsX12_added3 (wsV RX12 250 RX12 yX12_term3 wsX12_term3) := goodIn_app (goodIn_of _ (by decide +kernel)) ggX12_added3_X12_term3
set_option maxRecDepth 20000 in
theorem ggX12_added3_X12_isSign : GoodIn wsX12_added3 wsX12_isSign := goodIn_r _ [18, 13, 14, 1, 116, 117, 118, 119, 120, 121, 122, 123, 124, 125, 126, 127, 128, 129, 130, 131, 132, 133, 134, 135, 136, 137, 138, 139, 140, 141, 142, 143, 144, 145, 146, 147, 148, 149] (by decide +kernel) (by decide +kernel)
set_option maxRecDepth 20000 in
theorem gX12_added3_X12_isSign : GoodIn wsX12_added3 (wsV RX12 196 RX12 yX12_isSign wsX12_isSign) := goodIn_app (goodIn_of _ (by decide +kernel)) ggX12_added3_X12_isSign
set_option maxRecDepth 20000 in
theorem ggX12_added3_X12_next : GoodIn wsX12_added3 wsX12_next := goodIn_r _ [32, 33, 27, 14, 34, 35, 36, 37, 38, 1, 39, 40, 41, 42, 6, 43, 44, 45, 46, 47, 48, 116, 117, 118, 119, 120, 121, 122, 123, 124, 125, 126, 127, 128, 129, 130, 131, 132, 133, 134, 135, 136, 137, 138, 139, 140, 141, 142, 143, 144, 145, 146, 147, 148, 149] (by decide +kernel) (by decide +kernel)
set_option maxRecDepth 20000 in
theorem gX12_added3_X12_next : GoodIn wsX12_added3 (wsV RX12 171 RX12 yX12_next wsX12_next) := goodIn_app (goodIn_of _ (by decide +kernel)) ggX12_added3_X12_next
theorem dX12_added3_0 : decode cX12_added3 0 = .ok (.aload_n 0, 1) := by decide +kernel
theorem dX12_added3_1 : decode cX12_added3 1 = .ok (.invokevirtual 250, 3) := by decide +kernel
theorem dX12_added3_4 : decode cX12_added3 4 = .ok (.istore_n 1, 1) := by decide +kernel
theorem dX12_added3_5 : decode cX12_added3 5 = .ok (.aload_n 0, 1) := by decide +kernel
theorem dX12_added3_6 : decode cX12_added3 6 = .ok (.bipush 43, 2) := by decide +kernel
theorem dX12_added3_8 : decode cX12_added3 8 = .ok (.invokevirtual 196, 3) := by decide +kernel
theorem dX12_added3_11 : decode cX12_added3 11 = .ok (.ifCond .ne 12, 3) := by decide +kernel
theorem dX12_added3_14 : decode cX12_added3 14 = .ok (.aload_n 0, 1) := by decide +kernel
theorem dX12_added3_15 : decode cX12_added3 15 = .ok (.bipush 45, 2) := by decide +kernel
theorem dX12_added3_17 : decode cX12_added3 17 = .ok (.invokevirtual 196, 3) := by decide +kernel
theorem dX12_added3_20 : decode cX12_added3 20 = .ok (.ifCond .eq 46, 3) := by decide +kernel
theorem dX12_added3_23 : decode cX12_added3 23 = .ok (.aload_n 0, 1) := by decide +kernel
theorem dX12_added3_24 : decode cX12_added3 24 = .ok (.getfield 148, 3) := by decide +kernel
theorem dX12_added3_27 : decode cX12_added3 27 = .ok (.ldc2_w 213, 3) := by decide +kernel
theorem dX12_added3_30 : decode cX12_added3 30 = .ok (.lcmp, 1) := by decide +kernel
theorem dX12_added3_31 : decode cX12_added3 31 = .ok (.ifCond .ne 7, 3) := by decide +kernel
theorem dX12_added3_34 : decode cX12_added3 34 = .ok (.iconst 1, 1) := by decide +kernel
theorem dX12_added3_35 : decode cX12_added3 35 = .ok (.goto 4, 3) := by decide +kernel
theorem dX12_added3_38 : decode cX12_added3 38 = .ok (.iconst 0, 1) := by decide +kernel
theorem dX12_added3_39 : decode cX12_added3 39 = .ok (.istore_n 2, 1) := by decide +kernel
theorem dX12_added3_40 : decode cX12_added3 40 = .ok (.aload_n 0, 1) := by decide +kernel
theorem dX12_added3_41 : decode cX12_added3 41 = .ok (.invokevirtual 171, 3) := by decide +kernel
theorem dX12_added3_44 : decode cX12_added3 44 = .ok (.aload_n 0, 1) := by decide +kernel
theorem dX12_added3_45 : decode cX12_added3 45 = .ok (.invokevirtual 250, 3) := by decide +kernel
theorem dX12_added3_48 : decode cX12_added3 48 = .ok (.istore_n 3, 1) := by decide +kernel
theorem dX12_added3_49 : decode cX12_added3 49 = .ok (.iload_n 2, 1) := by decide +kernel
theorem dX12_added3_50 : decode cX12_added3 50 = .ok (.ifCond .eq 9, 3) := by decide +kernel
theorem dX12_added3_53 : decode cX12_added3 53 = .ok (.iload_n 1, 1) := by decide +kernel
theorem dX12_added3_54 : decode cX12_added3 54 = .ok (.iload_n 3, 1) := by decide +kernel
theorem dX12_added3_55 : decode cX12_added3 55 = .ok (.iadd, 1) := by decide +kernel
theorem dX12_added3_56 : decode cX12_added3 56 = .ok (.goto 6, 3) := by decide +kernel
theorem dX12_added3_59 : decode cX12_added3 59 = .ok (.iload_n 1, 1) := by decide +kernel
theorem dX12_added3_60 : decode cX12_added3 60 = .ok (.iload_n 3, 1) := by decide +kernel
theorem dX12_added3_61 : decode cX12_added3 61 = .ok (.isub, 1) := by decide +kernel
theorem dX12_added3_62 : decode cX12_added3 62 = .ok (.istore_n 1, 1) := by decide +kernel
theorem dX12_added3_63 : decode cX12_added3 63 = .ok (.goto (-58), 3) := by decide +kernel
theorem dX12_added3_66 : decode cX12_added3 66 = .ok (.iload_n 1, 1) := by decide +kernel
theorem dX12_added3_67 : decode cX12_added3 67 = .ok (.ireturn, 1) := by decide +kernel
set_option maxRecDepth 20000 in
theorem ggX12_not3_X12_isWord : GoodIn wsX12_not3 wsX12_isWord := goodIn_r _ [8, 9, 10, 11, 12, 13, 14, 15, 7, 16, 17, 18, 19, 20, 21, 22, 23, 120, 121, 122, 123, 124, 125, 126, 127, 128, 129, 130, 131, 132, 133, 134, 135, 136, 137, 138, 139, 140, 141, 142, 143, 144, 145, 146, 147, 148, 149, 150, 151, 152, 153] (by decide +kernel) (by decide +kernel)
set_option maxRecDepth 20000 in
theorem gX12_not3_X12_isWord : GoodIn wsX12_not3 (wsV RX12 174 RX12 yX12_isWord wsX12_isWord) := goodIn_app (goodIn_of _ (by decide +kernel)) ggX12_not3_X12_isWord
set_option maxRecDepth 20000 in
theorem ggX12_not3_X12_opens : GoodIn wsX12_not3 wsX12_opens := goodIn_r _ [27, 1, 28, 29, 30, 7, 31, 9, 12, 32, 33, 34, 35, 36, 11, 10, 21, 37, 38, 39, 40, 2, 41, 17, 18, 19, 20, 22, 23, 42, 43, 44, 120, 121, 122, 123, 124, 125, 126, 127, 128, 129, 130, 131, 132, 133, 134, 135, 136, 137, 138, 139, 140, 141, 142, 143, 144, 145, 146, 147, 148, 149, 150, 151, 152, 153] (by decide +kernel) (by decide +kernel)
set_option maxRecDepth 20000 in
theorem gX12_not3_X12_opens : GoodIn wsX12_not3 (wsV RX12 199 RX12 yX12_opens wsX12_opens) := goodIn_app (goodIn_of _ (by decide +kernel)) ggX12_not3_X12_opens
set_option maxRecDepth 20000 in
theorem ggX12_not3_X12_not4 : GoodIn wsX12_not3 wsX12_not4 := goodIn_r _ [48, 1, 2, 3, 4, 5, 6, 7, 8, 9, 10, 11, 12, 13, 14, 15, 16, 17, 18, 19, 20, 21, 22, 23, 24, 25, 26, 27, 28, 29, 30, 31, 32, 33, 34, 35, 36, 37, 38, 39, 40, 41, 42, 43, 44, 49, 50, 51, 52, 53, 54, 55, 56, 57, 58, 59, 60, 61, 62, 63, 64, 65, 66, 67, 68, 69, 70, 71, 72, 73, 74, 75, 76, 77, 78, 79, 80, 81, 82, 83, 84, 85, 86, 87, 88, 89, 90, 91, 92, 93, 94, 95, 96, 97, 98, 99, 120, 121, 122, 123, 124, 125, 126, 127, 128, 129, 130, 131, 132, 133, 134, 135, 136, 137, 138, 139, 140, 141, 142, 143, 144, 145, 146, 147, 148, 149, 150, 151, 152, 153] (by decide +kernel) (by decide +kernel)
set_option maxRecDepth 20000 in
theorem gX12_not3_X12_not4 : GoodIn wsX12_not3 (wsV RX12 238 RX12 yX12_not4 wsX12_not4) := goodIn_app (goodIn_of _ (by decide +kernel)) ggX12_not3_X12_not4
set_option maxRecDepth 20000 in
theorem ggX12_not3_X12_added3 : GoodIn wsX12_not3 wsX12_added3 := goodIn_r _ [103, 2, 57, 104, 105, 106, 7, 107, 108, 109, 110, 111, 1, 9, 10, 66, 67, 68, 69, 24, 25, 26, 27, 28, 29, 30, 31, 12, 32, 33, 34, 35, 36, 11, 21, 37, 38, 39, 40, 41, 17, 18, 19, 20, 22, 23, 42, 43, 44, 88, 89, 90, 91, 62, 63, 64, 65, 70, 71, 72, 73, 74, 75, 76, 77, 78, 79, 4, 5, 6, 8, 13, 14, 15, 16, 92, 93, 94, 95, 96, 97, 98, 99, 49, 50, 51, 52, 3, 53, 54, 55, 56, 58, 59, 60, 61, 112, 113, 114, 115, 116, 117, 118, 119, 45, 46, 47, 48, 80, 81, 82, 83, 84, 85, 86, 87, 120, 121, 122, 123, 124, 125, 126, 127, 128, 129, 130, 131, 132, 133, 134, 135, 136, 137, 138, 139, 140, 141, 142, 143, 144, 145, 146, 147, 148, 149, 150, 151, 152, 153] (by decide +kernel) (by decide +kernel)
set_option maxRecDepth 20000 in
theorem gX12_not3_X12_added3 : GoodIn wsX12_not3 (wsV RX12 253 RX12 yX12_added3 wsX12_added3) := goodIn_app (goodIn_of _ (by decide +kernel)) ggX12_not3_X12_added3
set_option maxRecDepth 20000 in
theorem ggX12_not3_X12_isSign : GoodIn wsX12_not3 wsX12_isSign := goodIn_r _ [69, 9, 10, 2, 120, 121, 122, 123, 124, 125, 126, 127, 128, 129, 130, 131, 132, 133, 134, 135, 136, 137, 138, 139, 140, 141, 142, 143, 144, 145, 146, 147, 148, 149, 150, 151, 152, 153] (by decide +kernel) (by decide +kernel)
set_option maxRecDepth 20000 in
theorem gX12_not3_X12_isSign : GoodIn wsX12_not3 (wsV RX12 196 RX12 yX12_isSign wsX12_isSign) := goodIn_app (goodIn_of _ (by decide +kernel)) ggX12_not3_X12_isSign
set_option maxRecDepth 20000 in
theorem ggX12_not3_X12_next : GoodIn wsX12_not3 wsX12_next := goodIn_r _ [36, 11, 12, 10, 21, 37, 38, 39, 40, 2, 41, 17, 18, 19, 7, 20, 22, 23, 42, 43, 44, 120, 121, 122, 123, 124, 125, 126, 127, 128, 129, 130, 131, 132, 133, 134, 135, 136, 137, 138, 139, 140, 141, 142, 143, 144, 145, 146, 147, 148, 149, 150, 151, 152, 153] (by decide +kernel) (by decide +kernel)
set_option maxRecDepth 20000 in
theorem gX12_not3_X12_next : GoodIn wsX12_not3 (wsV RX12 171 RX12 yX12_next wsX12_next) := goodIn_app (goodIn_of _ (by decide +kernel)) ggX12_not3_X12_next
theorem dX12_not3_0 : decode cX12_not3 0 = .ok (.aload_n 0, 1) := by decide +kernel
theorem dX12_not3_1 : decode cX12_not3 1 = .ok (.bipush 110, 2) := by decide +kernel
theorem dX12_not3_3 : decode cX12_not3 3 = .ok (.bipush 111, 2) := by decide +kernel
theorem dX12_not3_5 : decode cX12_not3 5 = .ok (.bipush 116, 2) := by decide +kernel
theorem dX12_not3_7 : decode cX12_not3 7 = .ok (.iconst 0, 1) := by decide +kernel
theorem dX12_not3_8 : decode cX12_not3 8 = .ok (.iconst 0, 1) := by decide +kernel
theorem dX12_not3_9 : decode cX12_not3 9 = .ok (.iconst 0, 1) := by decide +kernel
theorem dX12_not3_10 : decode cX12_not3 10 = .ok (.iconst 0, 1) := by decide +kernel
theorem dX12_not3_11 : decode cX12_not3 11 = .ok (.iconst 0, 1) := by decide +kernel
theorem dX12_not3_12 : decode cX12_not3 12 = .ok (.invokevirtual 174, 3) := by decide +kernel
theorem dX12_not3_15 : decode cX12_not3 15 = .ok (.ifCond .eq 37, 3) := by decide +kernel
theorem dX12_not3_18 : decode cX12_not3 18 = .ok (.aload_n 0, 1) := by decide +kernel
theorem dX12_not3_19 : decode cX12_not3 19 = .ok (.invokevirtual 199, 3) := by decide +kernel
theorem dX12_not3_22 : decode cX12_not3 22 = .ok (.ifCond .ne 5, 3) := by decide +kernel
theorem dX12_not3_25 : decode cX12_not3 25 = .ok (.iconst 0, 1) := by decide +kernel
theorem dX12_not3_26 : decode cX12_not3 26 = .ok (.ireturn, 1) := by decide +kernel
theorem dX12_not3_27 : decode cX12_not3 27 = .ok (.aload_n 0, 1) := by decide +kernel
theorem dX12_not3_28 : decode cX12_not3 28 = .ok (.invokevirtual 238, 3) := by decide +kernel
theorem dX12_not3_31 : decode cX12_not3 31 = .ok (.istore_n 1, 1) := by decide +kernel
theorem dX12_not3_32 : decode cX12_not3 32 = .ok (.aload_n 0, 1) := by decide +kernel
theorem dX12_not3_33 : decode cX12_not3 33 = .ok (.dup, 1) := by decide +kernel
theorem dX12_not3_34 : decode cX12_not3 34 = .ok (.getfield 165, 3) := by decide +kernel
theorem dX12_not3_37 : decode cX12_not3 37 = .ok (.iconst 1, 1) := by decide +kernel
theorem dX12_not3_38 : decode cX12_not3 38 = .ok (.isub, 1) := by decide +kernel
theorem dX12_not3_39 : decode cX12_not3 39 = .ok (.putfield 165, 3) := by decide +kernel
theorem dX12_not3_42 : decode cX12_not3 42 = .ok (.iload_n 1, 1) := by decide +kernel
theorem dX12_not3_43 : decode cX12_not3 43 = .ok (.ifCond .ne 7, 3) := by decide +kernel
theorem dX12_not3_46 : decode cX12_not3 46 = .ok (.iconst 1, 1) := by decide +kernel
theorem dX12_not3_47 : decode cX12_not3 47 = .ok (.goto 4, 3) := by decide +kernel
theorem dX12_not3_50 : decode cX12_not3 50 = .ok (.iconst 0, 1) := by decide +kernel
theorem dX12_not3_51 : decode cX12_not3 51 = .ok (.ireturn, 1) := by decide +kernel
theorem dX12_not3_52 : decode cX12_not3 52 = .ok (.aload_n 0, 1) := by decide +kernel
theorem dX12_not3_53 : decode cX12_not3 53 = .ok (.invokevirtual 253, 3) := by decide +kernel
theorem dX12_not3_56 : decode cX12_not3 56 = .ok (.istore_n 1, 1) := by decide +kernel
theorem dX12_not3_57 : decode cX12_not3 57 = .ok (.aload_n 0, 1) := by decide +kernel
theorem dX12_not3_58 : decode cX12_not3 58 = .ok (.bipush 60, 2) := by decide +kernel
theorem dX12_not3_60 : decode cX12_not3 60 = .ok (.invokevirtual 196, 3) := by decide +kernel
theorem dX12_not3_63 : decode cX12_not3 63 = .ok (.ifCond .ne 14, 3) := by decide +kernel
theorem dX12_not3_66 : decode cX12_not3 66 = .ok (.aload_n 0, 1) := by decide +kernel
theorem dX12_not3_67 : decode cX12_not3 67 = .ok (.bipush 61, 2) := by decide +kernel
theorem dX12_not3_69 : decode cX12_not3 69 = .ok (.invokevirtual 196, 3) := by decide +kernel
theorem dX12_not3_72 : decode cX12_not3 72 = .ok (.ifCond .ne 5, 3) := by decide +kernel
theorem dX12_not3_75 : decode cX12_not3 75 = .ok (.iload_n 1, 1) := by decide +kernel
theorem dX12_not3_76 : decode cX12_not3 76 = .ok (.ireturn, 1) := by decide +kernel
theorem dX12_not3_77 : decode cX12_not3 77 = .ok (.aload_n 0, 1) := by decide +kernel
theorem dX12_not3_78 : decode cX12_not3 78 = .ok (.getfield 148, 3) := by decide +kernel
theorem dX12_not3_81 : decode cX12_not3 81 = .ok (.ldc2_w 218, 3) := by decide +kernel
theorem dX12_not3_84 : decode cX12_not3 84 = .ok (.lcmp, 1) := by decide +kernel
theorem dX12_not3_85 : decode cX12_not3 85 = .ok (.ifCond .ne 7, 3) := by decide +kernel
theorem dX12_not3_88 : decode cX12_not3 88 = .ok (.iconst 1, 1) := by decide +kernel
theorem dX12_not3_89 : decode cX12_not3 89 = .ok (.goto 4, 3) := by decide +kernel
theorem dX12_not3_92 : decode cX12_not3 92 = .ok (.iconst 0, 1) := by decide +kernel
theorem dX12_not3_93 : decode cX12_not3 93 = .ok (.istore_n 2, 1) := by decide +kernel
theorem dX12_not3_94 : decode cX12_not3 94 = .ok (.aload_n 0, 1) := by decide +kernel
theorem dX12_not3_95 : decode cX12_not3 95 = .ok (.invokevirtual 171, 3) := by decide +kernel
theorem dX12_not3_98 : decode cX12_not3 98 = .ok (.aload_n 0, 1) := by decide +kernel
theorem dX12_not3_99 : decode cX12_not3 99 = .ok (.invokevirtual 253, 3) := by decide +kernel
theorem dX12_not3_102 : decode cX12_not3 102 = .ok (.istore_n 3, 1) := by decide +kernel
theorem dX12_not3_103 : decode cX12_not3 103 = .ok (.iload_n 2, 1) := by decide +kernel
theorem dX12_not3_104 : decode cX12_not3 104 = .ok (.ifCond .eq 11, 3) := by decide +kernel
theorem dX12_not3_107 : decode cX12_not3 107 = .ok (.iload_n 1, 1) := by decide +kernel
theorem dX12_not3_108 : decode cX12_not3 108 = .ok (.iload_n 3, 1) := by decide +kernel
theorem dX12_not3_109 : decode cX12_not3 109 = .ok (.if_icmp .ge 15, 3) := by decide +kernel
theorem dX12_not3_112 : decode cX12_not3 112 = .ok (.goto 8, 3) := by decide +kernel
theorem dX12_not3_115 : decode cX12_not3 115 = .ok (.iload_n 1, 1) := by decide +kernel
theorem dX12_not3_116 : decode cX12_not3 116 = .ok (.iload_n 3, 1) := by decide +kernel
theorem dX12_not3_117 : decode cX12_not3 117 = .ok (.if_icmp .ne 7, 3) := by decide +kernel
theorem dX12_not3_120 : decode cX12_not3 120 = .ok (.iconst 1, 1) := by decide +kernel
theorem dX12_not3_121 : decode cX12_not3 121 = .ok (.goto 4, 3) := by decide +kernel
theorem dX12_not3_124 : decode cX12_not3 124 = .ok (.iconst 0, 1) := by decide +kernel
theorem dX12_not3_125 : decode cX12_not3 125 = .ok (.ireturn, 1) := by decide +kernel
set_option maxRecDepth 20000 in
theorem ggX12_both3_X12_not3 : GoodIn wsX12_both3 wsX12_not3 := goodIn_r _ [5, 6, 7, 8, 9, 10, 11, 4, 12, 13, 14, 15, 16, 17, 18, 19, 20, 21, 22, 23, 24, 25, 26, 27, 28, 29, 30, 31, 32, 33, 34, 35, 36, 37, 38, 39, 40, 41, 42, 43, 44, 45, 46, 47, 48, 49, 50, 51, 52, 53, 54, 55, 56, 57, 58, 59, 60, 61, 62, 63, 64, 65, 66, 67, 68, 69, 70, 71, 72, 73, 74, 75, 76, 77, 78, 79, 80, 81, 82, 83, 84, 85, 86, 87, 88, 89, 90, 91, 92, 93, 94, 95, 96, 97, 98, 99, 100, 101, 102, 103, 104, 105, 106, 107, 108, 109, 110, 111, 112, 113, 114, 115, 116, 117, 118, 119, 120, 121, 122, 123, 124, 125, 126, 127, 128, 129, 130, 131, 132, 133, 134, 135, 136, 137, 138, 139, 140, 141, 142, 143, 144, 145, 146, 147, 148, 149, 150, 151, 152, 153, 154, 155, 156, 157] (by decide +kernel) (by decide +kernel)
set_option maxRecDepth 20000 in
theorem gX12_both3_X12_not3 : GoodIn wsX12_both3 (wsV RX12 256 RX12 yX12_not3 wsX12_not3) := goodIn_app (goodIn_of _ (by decide +kernel)) ggX12_both3_X12_not3
set_option maxRecDepth 20000 in
theorem ggX12_both3_X12_isWord : GoodIn wsX12_both3 wsX12_isWord := goodIn_r _ [12, 13, 14, 15, 16, 17, 18, 19, 4, 20, 21, 22, 23, 24, 25, 26, 27, 124, 125, 126, 127, 128, 129, 130, 131, 132, 133, 134, 135, 136, 137, 138, 139, 140, 141, 142, 143, 144, 145, 146, 147, 148, 149, 150, 151, 152, 153, 154, 155, 156, 157] (by decide +kernel) (by decide +kernel)
set_option maxRecDepth 20000 in
theorem gX12_both3_X12_isWord : GoodIn wsX12_both3 (wsV RX12 174 RX12 yX12_isWord wsX12_isWord) := goodIn_app (goodIn_of _ (by decide +kernel)) ggX12_both3_X12_isWord
set_option maxRecDepth 20000 in
theorem ggX12_both3_X12_next : GoodIn wsX12_both3 wsX12_next := goodIn_r _ [40, 15, 16, 14, 25, 41, 42, 43, 44, 7, 45, 21, 22, 23, 4, 24, 26, 27, 46, 47, 48, 124, 125, 126, 127, 128, 129, 130, 131, 132, 133, 134, 135, 136, 137, 138, 139, 140, 141, 142, 143, 144, 145, 146, 147, 148, 149, 150, 151, 152, 153, 154, 155, 156, 157] (by decide +kernel) (by decide +kernel)
set_option maxRecDepth 20000 in
theorem gX12_both3_X12_next : GoodIn wsX12_both3 (wsV RX12 171 RX12 yX12_next wsX12_next) := goodIn_app (goodIn_of _ (by decide +kernel)) ggX12_both3_X12_next
theorem dX12_both3_0 : decode cX12_both3 0 = .ok (.aload_n 0, 1) := by decide +kernel
theorem dX12_both3_1 : decode cX12_both3 1 = .ok (.invokevirtual 256, 3) := by decide +kernel
theorem dX12_both3_4 : decode cX12_both3 4 = .ok (.istore_n 1, 1) := by decide +kernel
theorem dX12_both3_5 : decode cX12_both3 5 = .ok (.aload_n 0, 1) := by decide +kernel
theorem dX12_both3_6 : decode cX12_both3 6 = .ok (.bipush 97, 2) := by decide +kernel
theorem dX12_both3_8 : decode cX12_both3 8 = .ok (.bipush 110, 2) := by decide +kernel
theorem dX12_both3_10 : decode cX12_both3 10 = .ok (.bipush 100, 2) := by decide +kernel
theorem dX12_both3_12 : decode cX12_both3 12 = .ok (.iconst 0, 1) := by decide +kernel
theorem dX12_both3_13 : decode cX12_both3 13 = .ok (.iconst 0, 1) := by decide +kernel
theorem dX12_both3_14 : decode cX12_both3 14 = .ok (.iconst 0, 1) := by decide +kernel
theorem dX12_both3_15 : decode cX12_both3 15 = .ok (.iconst 0, 1) := by decide +kernel
theorem dX12_both3_16 : decode cX12_both3 16 = .ok (.iconst 0, 1) := by decide +kernel
theorem dX12_both3_17 : decode cX12_both3 17 = .ok (.invokevirtual 174, 3) := by decide +kernel
theorem dX12_both3_20 : decode cX12_both3 20 = .ok (.ifCond .eq 29, 3) := by decide +kernel
theorem dX12_both3_23 : decode cX12_both3 23 = .ok (.aload_n 0, 1) := by decide +kernel
theorem dX12_both3_24 : decode cX12_both3 24 = .ok (.invokevirtual 171, 3) := by decide +kernel
theorem dX12_both3_27 : decode cX12_both3 27 = .ok (.aload_n 0, 1) := by decide +kernel
theorem dX12_both3_28 : decode cX12_both3 28 = .ok (.invokevirtual 256, 3) := by decide +kernel
theorem dX12_both3_31 : decode cX12_both3 31 = .ok (.istore_n 2, 1) := by decide +kernel
theorem dX12_both3_32 : decode cX12_both3 32 = .ok (.iload_n 1, 1) := by decide +kernel
theorem dX12_both3_33 : decode cX12_both3 33 = .ok (.ifCond .eq 11, 3) := by decide +kernel
theorem dX12_both3_36 : decode cX12_both3 36 = .ok (.iload_n 2, 1) := by decide +kernel
theorem dX12_both3_37 : decode cX12_both3 37 = .ok (.ifCond .eq 7, 3) := by decide +kernel
theorem dX12_both3_40 : decode cX12_both3 40 = .ok (.iconst 1, 1) := by decide +kernel
theorem dX12_both3_41 : decode cX12_both3 41 = .ok (.goto 4, 3) := by decide +kernel
theorem dX12_both3_44 : decode cX12_both3 44 = .ok (.iconst 0, 1) := by decide +kernel
theorem dX12_both3_45 : decode cX12_both3 45 = .ok (.istore_n 1, 1) := by decide +kernel
theorem dX12_both3_46 : decode cX12_both3 46 = .ok (.goto (-41), 3) := by decide +kernel
theorem dX12_both3_49 : decode cX12_both3 49 = .ok (.iload_n 1, 1) := by decide +kernel
theorem dX12_both3_50 : decode cX12_both3 50 = .ok (.ireturn, 1) := by decide +kernel
set_option maxRecDepth 20000 in
theorem ggX12_either3_X12_both3 : GoodIn wsX12_either3 wsX12_both3 := goodIn_r _ [5, 6, 7, 8, 4, 9, 10, 11, 12, 13, 14, 15, 16, 17, 18, 19, 20, 21, 22, 23, 24, 25, 26, 27, 28, 29, 30, 31, 32, 33, 34, 35, 36, 37, 38, 39, 40, 41, 42, 43, 44, 45, 46, 47, 48, 49, 50, 51, 52, 53, 54, 55, 56, 57, 58, 59, 60, 61, 62, 63, 64, 65, 66, 67, 68, 69, 70, 71, 72, 73, 74, 75, 76, 77, 78, 79, 80, 81, 82, 83, 84, 85, 86, 87, 88, 89, 90, 91, 92, 93, 94, 95, 96, 97, 98, 99, 100, 101, 102, 103, 104, 105, 106, 107, 108, 109, 110, 111, 112, 113, 114, 115, 116, 117, 118, 119, 120, 121, 122, 123, 124, 125, 126, 127, 128, 129, 130, 131, 132, 133, 134, 135, 136, 137, 138, 139, 140, 141, 142, 143, 144, 145, 146, 147, 148, 149, 150, 151, 152, 153, 154, 155, 156, 157, 158, 159, 160, 161] (by decide +kernel) (by decide +kernel)
set_option maxRecDepth 20000 in
theorem gX12_either3_X12_both3 : GoodIn wsX12_either3 (wsV RX12 259 RX12 yX12_both3 wsX12_both3) := goodIn_app (goodIn_of _ (by decide +kernel)) ggX12_either3_X12_both3
set_option maxRecDepth 20000 in
theorem ggX12_either3_X12_isWord : GoodIn wsX12_either3 wsX12_isWord := goodIn_r _ [16, 17, 18, 19, 20, 21, 22, 23, 4, 24, 25, 26, 27, 28, 29, 30, 31, 128, 129, 130, 131, 132, 133, 134, 135, 136, 137, 138, 139, 140, 141, 142, 143, 144, 145, 146, 147, 148, 149, 150, 151, 152, 153, 154, 155, 156, 157, 158, 159, 160, 161] (by decide +kernel) (by decide +kernel)
set_option maxRecDepth 20000 in
theorem gX12_either3_X12_isWord : GoodIn wsX12_either3 (wsV RX12 174 RX12 yX12_isWord wsX12_isWord) := goodIn_app (goodIn_of _ (by decide +kernel)) ggX12_either3_X12_isWord
set_option maxRecDepth 20000 in
theorem ggX12_either3_X12_next : GoodIn wsX12_either3 wsX12_next := goodIn_r _ [44, 19, 20, 18, 29, 45, 46, 47, 48, 11, 49, 25, 26, 27, 4, 28, 30, 31, 50, 51, 52, 128, 129, 130, 131, 132, 133, 134, 135, 136, 137, 138, 139, 140, 141, 142, 143, 144, 145, 146, 147, 148, 149, 150, 151, 152, 153, 154, 155, 156, 157, 158, 159, 160, 161] (by decide +kernel) (by decide +kernel)
set_option maxRecDepth 20000 in
theorem gX12_either3_X12_next : GoodIn wsX12_either3 (wsV RX12 171 RX12 yX12_next wsX12_next) := goodIn_app (goodIn_of _ (by decide +kernel)) ggX12_either3_X12_next
theorem dX12_either3_0 : decode cX12_either3 0 = .ok (.aload_n 0, 1) := by decide +kernel
theorem dX12_either3_1 : decode cX12_either3 1 = .ok (.invokevirtual 259, 3) := by decide +kernel
theorem dX12_either3_4 : decode cX12_either3 4 = .ok (.istore_n 1, 1) := by decide +kernel
theorem dX12_either3_5 : decode cX12_either3 5 = .ok (.aload_n 0, 1) := by decide +kernel
theorem dX12_either3_6 : decode cX12_either3 6 = .ok (.bipush 111, 2) := by decide +kernel
theorem dX12_either3_8 : decode cX12_either3 8 = .ok (.bipush 114, 2) := by decide +kernel
theorem dX12_either3_10 : decode cX12_either3 10 = .ok (.iconst 0, 1) := by decide +kernel
theorem dX12_either3_11 : decode cX12_either3 11 = .ok (.iconst 0, 1) := by decide +kernel
theorem dX12_either3_12 : decode cX12_either3 12 = .ok (.iconst 0, 1) := by decide +kernel
theorem dX12_either3_13 : decode cX12_either3 13 = .ok (.iconst 0, 1) := by decide +kernel
theorem dX12_either3_14 : decode cX12_either3 14 = .ok (.iconst 0, 1) := by decide +kernel
theorem dX12_either3_15 : decode cX12_either3 15 = .ok (.iconst 0, 1) := by decide +kernel
theorem dX12_either3_16 : decode cX12_either3 16 = .ok (.invokevirtual 174, 3) := by decide +kernel
theorem dX12_either3_19 : decode cX12_either3 19 = .ok (.ifCond .eq 29, 3) := by decide +kernel
theorem dX12_either3_22 : decode cX12_either3 22 = .ok (.aload_n 0, 1) := by decide +kernel
theorem dX12_either3_23 : decode cX12_either3 23 = .ok (.invokevirtual 171, 3) := by decide +kernel
theorem dX12_either3_26 : decode cX12_either3 26 = .ok (.aload_n 0, 1) := by decide +kernel
theorem dX12_either3_27 : decode cX12_either3 27 = .ok (.invokevirtual 259, 3) := by decide +kernel
theorem dX12_either3_30 : decode cX12_either3 30 = .ok (.istore_n 2, 1) := by decide +kernel
theorem dX12_either3_31 : decode cX12_either3 31 = .ok (.iload_n 1, 1) := by decide +kernel
theorem dX12_either3_32 : decode cX12_either3 32 = .ok (.ifCond .ne 7, 3) := by decide +kernel
theorem dX12_either3_35 : decode cX12_either3 35 = .ok (.iload_n 2, 1) := by decide +kernel
theorem dX12_either3_36 : decode cX12_either3 36 = .ok (.ifCond .eq 7, 3) := by decide +kernel
theorem dX12_either3_39 : decode cX12_either3 39 = .ok (.iconst 1, 1) := by decide +kernel
theorem dX12_either3_40 : decode cX12_either3 40 = .ok (.goto 4, 3) := by decide +kernel
theorem dX12_either3_43 : decode cX12_either3 43 = .ok (.iconst 0, 1) := by decide +kernel
theorem dX12_either3_44 : decode cX12_either3 44 = .ok (.istore_n 1, 1) := by decide +kernel
theorem dX12_either3_45 : decode cX12_either3 45 = .ok (.goto (-40), 3) := by decide +kernel
theorem dX12_either3_48 : decode cX12_either3 48 = .ok (.iload_n 1, 1) := by decide +kernel
theorem dX12_either3_49 : decode cX12_either3 49 = .ok (.ireturn, 1) := by decide +kernel
set_option maxRecDepth 20000 in
theorem ggX12_atom2_X12_isSign : GoodIn wsX12_atom2 wsX12_isSign := goodIn_r _ [9, 2, 3, 4, 132, 133, 134, 135, 136, 137, 138, 139, 140, 141, 142, 143, 144, 145, 146, 147, 148, 149, 150, 151, 152, 153, 154, 155, 156, 157, 158, 159, 160, 161, 162, 163, 164, 165] (by decide +kernel) (by decide +kernel)
set_option maxRecDepth 20000 in
theorem gX12_atom2_X12_isSign : GoodIn wsX12_atom2 (wsV RX12 196 RX12 yX12_isSign wsX12_isSign) := goodIn_app (goodIn_of _ (by decide +kernel)) ggX12_atom2_X12_isSign
set_option maxRecDepth 20000 in
theorem ggX12_atom2_X12_opens : GoodIn wsX12_atom2 wsX12_opens := goodIn_r _ [13, 1, 14, 15, 16, 8, 17, 2, 18, 19, 20, 21, 22, 23, 24, 3, 25, 26, 27, 28, 29, 4, 30, 31, 32, 33, 34, 35, 36, 37, 38, 39, 132, 133, 134, 135, 136, 137, 138, 139, 140, 141, 142, 143, 144, 145, 146, 147, 148, 149, 150, 151, 152, 153, 154, 155, 156, 157, 158, 159, 160, 161, 162, 163, 164, 165] (by decide +kernel) (by decide +kernel)
set_option maxRecDepth 20000 in
theorem gX12_atom2_X12_opens : GoodIn wsX12_atom2 (wsV RX12 199 RX12 yX12_opens wsX12_opens) := goodIn_app (goodIn_of _ (by decide +kernel)) ggX12_atom2_X12_opens
set_option maxRecDepth 20000 in
theorem ggX12_atom2_X12_atom3 : GoodIn wsX12_atom2 wsX12_atom3 := goodIn_r _ [43, 1, 2, 3, 4, 5, 6, 7, 8, 9, 10, 11, 12, 13, 14, 15, 16, 17, 18, 19, 20, 21, 22, 23, 24, 25, 26, 27, 28, 29, 30, 31, 32, 33, 34, 35, 36, 37, 38, 39, 44, 45, 46, 47, 48, 49, 50, 51, 52, 53, 54, 55, 56, 57, 58, 59, 60, 61, 62, 63, 64, 65, 66, 67, 68, 69, 70, 71, 72, 73, 74, 75, 76, 77, 78, 79, 80, 81, 82, 83, 84, 85, 86, 87, 88, 89, 90, 91, 92, 93, 94, 95, 96, 97, 98, 99, 100, 101, 102, 103, 104, 105, 106, 107, 108, 109, 110, 111, 132, 133, 134, 135, 136, 137, 138, 139, 140, 141, 142, 143, 144, 145, 146, 147, 148, 149, 150, 151, 152, 153, 154, 155, 156, 157, 158, 159, 160, 161, 162, 163, 164, 165] (by decide +kernel) (by decide +kernel)
set_option maxRecDepth 20000 in
theorem gX12_atom2_X12_atom3 : GoodIn wsX12_atom2 (wsV RX12 247 RX12 yX12_atom3 wsX12_atom3) := goodIn_app (goodIn_of _ (by decide +kernel)) ggX12_atom2_X12_atom3
set_option maxRecDepth 20000 in
theorem ggX12_atom2_X12_either3 : GoodIn wsX12_atom2 wsX12_either3 := goodIn_r _ [115, 116, 117, 118, 8, 119, 120, 121, 122, 123, 1, 4, 82, 62, 63, 64, 65, 2, 3, 24, 18, 66, 67, 68, 69, 31, 32, 33, 34, 25, 35, 36, 10, 11, 12, 13, 14, 15, 16, 17, 19, 20, 21, 22, 23, 26, 27, 28, 29, 30, 37, 38, 39, 100, 101, 102, 103, 78, 79, 80, 81, 83, 84, 85, 86, 87, 88, 89, 90, 91, 48, 49, 50, 51, 5, 6, 7, 9, 52, 53, 54, 55, 56, 57, 58, 59, 60, 61, 104, 105, 106, 107, 108, 109, 110, 111, 44, 45, 46, 47, 70, 71, 72, 73, 74, 75, 76, 77, 124, 125, 126, 127, 128, 129, 130, 131, 40, 41, 42, 43, 92, 93, 94, 95, 96, 97, 98, 99, 132, 133, 134, 135, 136, 137, 138, 139, 140, 141, 142, 143, 144, 145, 146, 147, 148, 149, 150, 151, 152, 153, 154, 155, 156, 157, 158, 159, 160, 161, 162, 163, 164, 165] (by decide +kernel) (by decide +kernel)
set_option maxRecDepth 20000 in
theorem gX12_atom2_X12_either3 : GoodIn wsX12_atom2 (wsV RX12 262 RX12 yX12_either3 wsX12_either3) := goodIn_app (goodIn_of _ (by decide +kernel)) ggX12_atom2_X12_either3
set_option maxRecDepth 20000 in
theorem ggX12_atom2_X12_fail : GoodIn wsX12_atom2 wsX12_fail := goodIn_r _ [17, 2, 18, 19, 132, 133, 134, 135, 136, 137, 138, 139, 140, 141, 142, 143, 144, 145, 146, 147, 148, 149, 150, 151, 152, 153, 154, 155, 156, 157, 158, 159, 160, 161, 162, 163, 164, 165] (by decide +kernel) (by decide +kernel)
set_option maxRecDepth 20000 in
theorem gX12_atom2_X12_fail : GoodIn wsX12_atom2 (wsV RX12 168 RX12 yX12_fail wsX12_fail) := goodIn_app (goodIn_of _ (by decide +kernel)) ggX12_atom2_X12_fail
set_option maxRecDepth 20000 in
theorem ggX12_atom2_X12_next : GoodIn wsX12_atom2 wsX12_next := goodIn_r _ [23, 24, 18, 3, 25, 26, 27, 28, 29, 4, 30, 31, 32, 33, 8, 34, 35, 36, 37, 38, 39, 132, 133, 134, 135, 136, 137, 138, 139, 140, 141, 142, 143, 144, 145, 146, 147, 148, 149, 150, 151, 152, 153, 154, 155, 156, 157, 158, 159, 160, 161, 162, 163, 164, 165] (by decide +kernel) (by decide +kernel)
set_option maxRecDepth 20000 in
theorem gX12_atom2_X12_next : GoodIn wsX12_atom2 (wsV RX12 171 RX12 yX12_next wsX12_next) := goodIn_app (goodIn_of _ (by decide +kernel)) ggX12_atom2_X12_next
set_option maxRecDepth 20000 in
theorem ggX12_atom2_X12_name : GoodIn wsX12_atom2 wsX12_name := goodIn_r _ [55, 56, 57, 58, 59, 60, 61, 62, 63, 64, 8, 65, 2, 3, 24, 18, 66, 67, 68, 69, 31, 32, 33, 34, 25, 35, 36, 14, 15, 16, 17, 19, 132, 133, 134, 135, 136, 137, 138, 139, 140, 141, 142, 143, 144, 145, 146, 147, 148, 149, 150, 151, 152, 153, 154, 155, 156, 157, 158, 159, 160, 161, 162, 163, 164, 165] (by decide +kernel) (by decide +kernel)
set_option maxRecDepth 20000 in
theorem gX12_atom2_X12_name : GoodIn wsX12_atom2 (wsV RX12 203 RX12 yX12_name wsX12_name) := goodIn_app (goodIn_of _ (by decide +kernel)) ggX12_atom2_X12_name
theorem dX12_atom2_0 : decode cX12_atom2 0 = .ok (.iconst 0, 1) := by decide +kernel
theorem dX12_atom2_1 : decode cX12_atom2 1 = .ok (.istore_n 1, 1) := by decide +kernel
theorem dX12_atom2_2 : decode cX12_atom2 2 = .ok (.aload_n 0, 1) := by decide +kernel
theorem dX12_atom2_3 : decode cX12_atom2 3 = .ok (.bipush 45, 2) := by decide +kernel
theorem dX12_atom2_5 : decode cX12_atom2 5 = .ok (.invokevirtual 196, 3) := by decide +kernel
theorem dX12_atom2_8 : decode cX12_atom2 8 = .ok (.ifCond .eq 29, 3) := by decide +kernel
theorem dX12_atom2_11 : decode cX12_atom2 11 = .ok (.aload_n 0, 1) := by decide +kernel
theorem dX12_atom2_12 : decode cX12_atom2 12 = .ok (.invokevirtual 199, 3) := by decide +kernel
theorem dX12_atom2_15 : decode cX12_atom2 15 = .ok (.ifCond .eq 146, 3) := by decide +kernel
theorem dX12_atom2_18 : decode cX12_atom2 18 = .ok (.aload_n 0, 1) := by decide +kernel
theorem dX12_atom2_19 : decode cX12_atom2 19 = .ok (.invokevirtual 247, 3) := by decide +kernel
theorem dX12_atom2_22 : decode cX12_atom2 22 = .ok (.ineg, 1) := by decide +kernel
theorem dX12_atom2_23 : decode cX12_atom2 23 = .ok (.istore_n 1, 1) := by decide +kernel
theorem dX12_atom2_24 : decode cX12_atom2 24 = .ok (.aload_n 0, 1) := by decide +kernel
theorem dX12_atom2_25 : decode cX12_atom2 25 = .ok (.dup, 1) := by decide +kernel
theorem dX12_atom2_26 : decode cX12_atom2 26 = .ok (.getfield 165, 3) := by decide +kernel
theorem dX12_atom2_29 : decode cX12_atom2 29 = .ok (.iconst 1, 1) := by decide +kernel
theorem dX12_atom2_30 : decode cX12_atom2 30 = .ok (.isub, 1) := by decide +kernel
theorem dX12_atom2_31 : decode cX12_atom2 31 = .ok (.putfield 165, 3) := by decide +kernel
theorem dX12_atom2_34 : decode cX12_atom2 34 = .ok (.goto 127, 3) := by decide +kernel
theorem dX12_atom2_37 : decode cX12_atom2 37 = .ok (.aload_n 0, 1) := by decide +kernel
theorem dX12_atom2_38 : decode cX12_atom2 38 = .ok (.bipush 40, 2) := by decide +kernel
theorem dX12_atom2_40 : decode cX12_atom2 40 = .ok (.invokevirtual 196, 3) := by decide +kernel
theorem dX12_atom2_43 : decode cX12_atom2 43 = .ok (.ifCond .eq 52, 3) := by decide +kernel
theorem dX12_atom2_46 : decode cX12_atom2 46 = .ok (.aload_n 0, 1) := by decide +kernel
theorem dX12_atom2_47 : decode cX12_atom2 47 = .ok (.invokevirtual 199, 3) := by decide +kernel
theorem dX12_atom2_50 : decode cX12_atom2 50 = .ok (.ifCond .eq 111, 3) := by decide +kernel
theorem dX12_atom2_53 : decode cX12_atom2 53 = .ok (.aload_n 0, 1) := by decide +kernel
theorem dX12_atom2_54 : decode cX12_atom2 54 = .ok (.invokevirtual 262, 3) := by decide +kernel
theorem dX12_atom2_57 : decode cX12_atom2 57 = .ok (.istore_n 1, 1) := by decide +kernel
theorem dX12_atom2_58 : decode cX12_atom2 58 = .ok (.aload_n 0, 1) := by decide +kernel
theorem dX12_atom2_59 : decode cX12_atom2 59 = .ok (.bipush 41, 2) := by decide +kernel
theorem dX12_atom2_61 : decode cX12_atom2 61 = .ok (.invokevirtual 196, 3) := by decide +kernel
theorem dX12_atom2_64 : decode cX12_atom2 64 = .ok (.ifCond .ne 7, 3) := by decide +kernel
theorem dX12_atom2_67 : decode cX12_atom2 67 = .ok (.aload_n 0, 1) := by decide +kernel
theorem dX12_atom2_68 : decode cX12_atom2 68 = .ok (.invokevirtual 168, 3) := by decide +kernel
theorem dX12_atom2_71 : decode cX12_atom2 71 = .ok (.aload_n 0, 1) := by decide +kernel
theorem dX12_atom2_72 : decode cX12_atom2 72 = .ok (.dup, 1) := by decide +kernel
theorem dX12_atom2_73 : decode cX12_atom2 73 = .ok (.getfield 165, 3) := by decide +kernel
theorem dX12_atom2_76 : decode cX12_atom2 76 = .ok (.iconst 1, 1) := by decide +kernel
theorem dX12_atom2_77 : decode cX12_atom2 77 = .ok (.isub, 1) := by decide +kernel
theorem dX12_atom2_78 : decode cX12_atom2 78 = .ok (.putfield 165, 3) := by decide +kernel
theorem dX12_atom2_81 : decode cX12_atom2 81 = .ok (.aload_n 0, 1) := by decide +kernel
theorem dX12_atom2_82 : decode cX12_atom2 82 = .ok (.getfield 154, 3) := by decide +kernel
theorem dX12_atom2_85 : decode cX12_atom2 85 = .ok (.ifCond .ne 76, 3) := by decide +kernel
theorem dX12_atom2_88 : decode cX12_atom2 88 = .ok (.aload_n 0, 1) := by decide +kernel
theorem dX12_atom2_89 : decode cX12_atom2 89 = .ok (.invokevirtual 171, 3) := by decide +kernel
theorem dX12_atom2_92 : decode cX12_atom2 92 = .ok (.goto 69, 3) := by decide +kernel
theorem dX12_atom2_95 : decode cX12_atom2 95 = .ok (.aload_n 0, 1) := by decide +kernel
theorem dX12_atom2_96 : decode cX12_atom2 96 = .ok (.getfield 154, 3) := by decide +kernel
theorem dX12_atom2_99 : decode cX12_atom2 99 = .ok (.ifCond .ne 24, 3) := by decide +kernel
theorem dX12_atom2_102 : decode cX12_atom2 102 = .ok (.aload_n 0, 1) := by decide +kernel
theorem dX12_atom2_103 : decode cX12_atom2 103 = .ok (.getfield 137, 3) := by decide +kernel
theorem dX12_atom2_106 : decode cX12_atom2 106 = .ok (.iconst 2, 1) := by decide +kernel
theorem dX12_atom2_107 : decode cX12_atom2 107 = .ok (.if_icmp .ne 16, 3) := by decide +kernel
theorem dX12_atom2_110 : decode cX12_atom2 110 = .ok (.aload_n 0, 1) := by decide +kernel
theorem dX12_atom2_111 : decode cX12_atom2 111 = .ok (.getfield 148, 3) := by decide +kernel
theorem dX12_atom2_114 : decode cX12_atom2 114 = .ok (.l2i, 1) := by decide +kernel
theorem dX12_atom2_115 : decode cX12_atom2 115 = .ok (.istore_n 1, 1) := by decide +kernel
theorem dX12_atom2_116 : decode cX12_atom2 116 = .ok (.aload_n 0, 1) := by decide +kernel
theorem dX12_atom2_117 : decode cX12_atom2 117 = .ok (.invokevirtual 171, 3) := by decide +kernel
theorem dX12_atom2_120 : decode cX12_atom2 120 = .ok (.goto 41, 3) := by decide +kernel
theorem dX12_atom2_123 : decode cX12_atom2 123 = .ok (.aload_n 0, 1) := by decide +kernel
theorem dX12_atom2_124 : decode cX12_atom2 124 = .ok (.getfield 154, 3) := by decide +kernel
theorem dX12_atom2_127 : decode cX12_atom2 127 = .ok (.ifCond .ne 30, 3) := by decide +kernel
theorem dX12_atom2_130 : decode cX12_atom2 130 = .ok (.aload_n 0, 1) := by decide +kernel
theorem dX12_atom2_131 : decode cX12_atom2 131 = .ok (.getfield 137, 3) := by decide +kernel
theorem dX12_atom2_134 : decode cX12_atom2 134 = .ok (.iconst 1, 1) := by decide +kernel
theorem dX12_atom2_135 : decode cX12_atom2 135 = .ok (.if_icmp .ne 22, 3) := by decide +kernel
theorem dX12_atom2_138 : decode cX12_atom2 138 = .ok (.aload_n 0, 1) := by decide +kernel
theorem dX12_atom2_139 : decode cX12_atom2 139 = .ok (.invokevirtual 203, 3) := by decide +kernel
theorem dX12_atom2_142 : decode cX12_atom2 142 = .ok (.istore_n 1, 1) := by decide +kernel
theorem dX12_atom2_143 : decode cX12_atom2 143 = .ok (.aload_n 0, 1) := by decide +kernel
theorem dX12_atom2_144 : decode cX12_atom2 144 = .ok (.getfield 154, 3) := by decide +kernel
theorem dX12_atom2_147 : decode cX12_atom2 147 = .ok (.ifCond .ne 14, 3) := by decide +kernel
theorem dX12_atom2_150 : decode cX12_atom2 150 = .ok (.aload_n 0, 1) := by decide +kernel
theorem dX12_atom2_151 : decode cX12_atom2 151 = .ok (.invokevirtual 171, 3) := by decide +kernel
theorem dX12_atom2_154 : decode cX12_atom2 154 = .ok (.goto 7, 3) := by decide +kernel
theorem dX12_atom2_157 : decode cX12_atom2 157 = .ok (.aload_n 0, 1) := by decide +kernel
theorem dX12_atom2_158 : decode cX12_atom2 158 = .ok (.invokevirtual 168, 3) := by decide +kernel
theorem dX12_atom2_161 : decode cX12_atom2 161 = .ok (.iload_n 1, 1) := by decide +kernel
theorem dX12_atom2_162 : decode cX12_atom2 162 = .ok (.ireturn, 1) := by decide +kernel
set_option maxRecDepth 20000 in
theorem ggX12_term2_X12_atom2 : GoodIn wsX12_term2 wsX12_atom2 := goodIn_r _ [5, 6, 7, 8, 9, 10, 11, 12, 4, 13, 14, 15, 16, 17, 18, 19, 20, 21, 22, 23, 24, 25, 26, 27, 28, 29, 30, 31, 32, 33, 34, 35, 36, 37, 38, 39, 40, 41, 42, 43, 44, 45, 46, 47, 48, 49, 50, 51, 52, 53, 54, 55, 56, 57, 58, 59, 60, 61, 62, 63, 64, 65, 66, 67, 68, 69, 70, 71, 72, 73, 74, 75, 76, 77, 78, 79, 80, 81, 82, 83, 84, 85, 86, 87, 88, 89, 90, 91, 92, 93, 94, 95, 96, 97, 98, 99, 100, 101, 102, 103, 104, 105, 106, 107, 108, 109, 110, 111, 112, 113, 114, 115, 116, 117, 118, 119, 120, 121, 122, 123, 124, 125, 126, 127, 128, 129, 130, 131, 132, 133, 134, 135, 136, 137, 138, 139, 140, 141, 142, 143, 144, 145, 146, 147, 148, 149, 150, 151, 152, 153, 154, 155, 156, 157, 158, 159, 160, 161, 162, 163, 164, 165, 166, 167, 168, 169] (by decide +kernel) (by decide +kernel)
set_option maxRecDepth 20000 in
theorem gX12_term2_X12_atom2 : GoodIn wsX12_term2 (wsV RX12 265 RX12 yX12_atom2 wsX12_atom2) := goodIn_app (goodIn_of _ (by decide +kernel)) ggX12_term2_X12_atom2
set_option maxRecDepth 20000 in
theorem ggX12_term2_X12_isSign : GoodIn wsX12_term2 wsX12_isSign := goodIn_r _ [13, 7, 8, 9, 136, 137, 138, 139, 140, 141, 142, 143, 144, 145, 146, 147, 148, 149, 150, 151, 152, 153, 154, 155, 156, 157, 158, 159, 160, 161, 162, 163, 164, 165, 166, 167, 168, 169] (by decide +kernel) (by decide +kernel)
set_option maxRecDepth 20000 in
theorem gX12_term2_X12_isSign : GoodIn wsX12_term2 (wsV RX12 196 RX12 yX12_isSign wsX12_isSign) := goodIn_app (goodIn_of _ (by decide +kernel)) ggX12_term2_X12_isSign
set_option maxRecDepth 20000 in
theorem ggX12_term2_X12_next : GoodIn wsX12_term2 wsX12_next := goodIn_r _ [27, 28, 22, 8, 29, 30, 31, 32, 33, 9, 34, 35, 36, 37, 4, 38, 39, 40, 41, 42, 43, 136, 137, 138, 139, 140, 141, 142, 143, 144, 145, 146, 147, 148, 149, 150, 151, 152, 153, 154, 155, 156, 157, 158, 159, 160, 161, 162, 163, 164, 165, 166, 167, 168, 169] (by decide +kernel) (by decide +kernel)
set_option maxRecDepth 20000 in
theorem gX12_term2_X12_next : GoodIn wsX12_term2 (wsV RX12 171 RX12 yX12_next wsX12_next) := goodIn_app (goodIn_of _ (by decide +kernel)) ggX12_term2_X12_next
theorem dX12_term2_0 : decode cX12_term2 0 = .ok (.aload_n 0, 1) := by decide +kernel
theorem dX12_term2_1 : decode cX12_term2 1 = .ok (.invokevirtual 265, 3) := by decide +kernel
theorem dX12_term2_4 : decode cX12_term2 4 = .ok (.istore_n 1, 1) := by decide +kernel
theorem dX12_term2_5 : decode cX12_term2 5 = .ok (.aload_n 0, 1) := by decide +kernel
theorem dX12_term2_6 : decode cX12_term2 6 = .ok (.bipush 42, 2) := by decide +kernel
theorem dX12_term2_8 : decode cX12_term2 8 = .ok (.invokevirtual 196, 3) := by decide +kernel
theorem dX12_term2_11 : decode cX12_term2 11 = .ok (.ifCond .eq 17, 3) := by decide +kernel
theorem dX12_term2_14 : decode cX12_term2 14 = .ok (.aload_n 0, 1) := by decide +kernel
theorem dX12_term2_15 : decode cX12_term2 15 = .ok (.invokevirtual 171, 3) := by decide +kernel
theorem dX12_term2_18 : decode cX12_term2 18 = .ok (.iload_n 1, 1) := by decide +kernel
theorem dX12_term2_19 : decode cX12_term2 19 = .ok (.aload_n 0, 1) := by decide +kernel
theorem dX12_term2_20 : decode cX12_term2 20 = .ok (.invokevirtual 265, 3) := by decide +kernel
theorem dX12_term2_23 : decode cX12_term2 23 = .ok (.imul, 1) := by decide +kernel
theorem dX12_term2_24 : decode cX12_term2 24 = .ok (.istore_n 1, 1) := by decide +kernel
theorem dX12_term2_25 : decode cX12_term2 25 = .ok (.goto (-20), 3) := by decide +kernel
theorem dX12_term2_28 : decode cX12_term2 28 = .ok (.iload_n 1, 1) := by decide +kernel
theorem dX12_term2_29 : decode cX12_term2 29 = .ok (.ireturn, 1) := by decide +kernel
set_option maxRecDepth 20000 in
theorem ggX12_added2_X12_term2 : GoodIn wsX12_added2 wsX12_term2 := goodIn_r _ [7, 8, 9, 10, 6, 11, 12, 13, 14, 1, 15, 16, 17, 18, 19, 20, 21, 22, 23, 24, 25, 26, 27, 28, 29, 30, 31, 32, 33, 34, 35, 36, 37, 38, 39, 40, 41, 42, 43, 44, 45, 46, 47, 48, 49, 50, 51, 52, 53, 54, 55, 56, 57, 58, 59, 60, 61, 62, 63, 64, 65, 66, 67, 68, 69, 70, 71, 72, 73, 74, 75, 76, 77, 78, 79, 80, 81, 82, 83, 84, 85, 86, 87, 88, 89, 90, 91, 92, 93, 94, 95, 2, 96, 97, 98, 99, 100, 101, 102, 103, 104, 105, 106, 107, 108, 109, 110, 111, 112, 113, 114, 115, 116, 117, 118, 119, 120, 121, 122, 123, 124, 125, 126, 127, 128, 129, 130, 131, 132, 133, 134, 135, 136, 137, 138, 139, 140, 141, 142, 143, 144, 145, 146, 147, 148, 149, 150, 151, 152, 153, 154, 155, 156, 157, 158, 159, 160, 161, 162, 163, 164, 165, 166, 167, 168, 169, 170, 171, 172, 173] (by decide +kernel) (by decide +kernel)
set_option maxRecDepth 20000 in
theorem gX12_added2_X12_term2 : GoodIn wsX12_added2 (wsV RX12 268 RX12 yX12_term2 wsX12_term2) := goodIn_app (goodIn_of _ (by decide +kernel)) ggX12_added2_X12_term2
set_option maxRecDepth 20000 in
theorem ggX12_added2_X12_isSign : GoodIn wsX12_added2 wsX12_isSign := goodIn_r _ [18, 13, 14, 1, 140, 141, 142, 143, 144, 145, 146, 147, 148, 149, 150, 151, 152, 153, 154, 155, 156, 157, 158, 159, 160, 161, 162, 163, 164, 165, 166, 167, 168, 169, 170, 171, 172, 173] (by decide +kernel) (by decide +kernel)
set_option maxRecDepth 20000 in
theorem gX12_added2_X12_isSign : GoodIn wsX12_added2 (wsV RX12 196 RX12 yX12_isSign wsX12_isSign) := goodIn_app (goodIn_of _ (by decide +kernel)) ggX12_added2_X12_isSign
set_option maxRecDepth 20000 in
theorem ggX12_added2_X12_next : GoodIn wsX12_added2 wsX12_next := goodIn_r _ [32, 33, 27, 14, 34, 35, 36, 37, 38, 1, 39, 40, 41, 42, 6, 43, 44, 45, 46, 47, 48, 140, 141, 142, 143, 144, 145, 146, 147, 148, 149, 150, 151, 152, 153, 154, 155, 156, 157, 158, 159, 160, 161, 162, 163, 164, 165, 166, 167, 168, 169, 170, 171, 172, 173] (by decide +kernel) (by decide +kernel)
set_option maxRecDepth 20000 in
theorem gX12_added2_X12_next : GoodIn wsX12_added2 (wsV RX12 171 RX12 yX12_next wsX12_next) := goodIn_app (goodIn_of _ (by decide +kernel)) ggX12_added2_X12_next
theorem dX12_added2_0 : decode cX12_added2 0 = .ok (.aload_n 0, 1) := by decide +kernel
theorem dX12_added2_1 : decode cX12_added2 1 = .ok (.invokevirtual 268, 3) := by decide +kernel
theorem dX12_added2_4 : decode cX12_added2 4 = .ok (.istore_n 1, 1) := by decide +kernel
theorem dX12_added2_5 : decode cX12_added2 5 = .ok (.aload_n 0, 1) := by decide +kernel
theorem dX12_added2_6 : decode cX12_added2 6 = .ok (.bipush 43, 2) := by decide +kernel
theorem dX12_added2_8 : decode cX12_added2 8 = .ok (.invokevirtual 196, 3) := by decide +kernel
theorem dX12_added2_11 : decode cX12_added2 11 = .ok (.ifCond .ne 12, 3) := by decide +kernel
theorem dX12_added2_14 : decode cX12_added2 14 = .ok (.aload_n 0, 1) := by decide +kernel
theorem dX12_added2_15 : decode cX12_added2 15 = .ok (.bipush 45, 2) := by decide +kernel
theorem dX12_added2_17 : decode cX12_added2 17 = .ok (.invokevirtual 196, 3) := by decide +kernel
theorem dX12_added2_20 : decode cX12_added2 20 = .ok (.ifCond .eq 46, 3) := by decide +kernel
theorem dX12_added2_23 : decode cX12_added2 23 = .ok (.aload_n 0, 1) := by decide +kernel
theorem dX12_added2_24 : decode cX12_added2 24 = .ok (.getfield 148, 3) := by decide +kernel
theorem dX12_added2_27 : decode cX12_added2 27 = .ok (.ldc2_w 213, 3) := by decide +kernel
theorem dX12_added2_30 : decode cX12_added2 30 = .ok (.lcmp, 1) := by decide +kernel
theorem dX12_added2_31 : decode cX12_added2 31 = .ok (.ifCond .ne 7, 3) := by decide +kernel
theorem dX12_added2_34 : decode cX12_added2 34 = .ok (.iconst 1, 1) := by decide +kernel
theorem dX12_added2_35 : decode cX12_added2 35 = .ok (.goto 4, 3) := by decide +kernel
theorem dX12_added2_38 : decode cX12_added2 38 = .ok (.iconst 0, 1) := by decide +kernel
theorem dX12_added2_39 : decode cX12_added2 39 = .ok (.istore_n 2, 1) := by decide +kernel
theorem dX12_added2_40 : decode cX12_added2 40 = .ok (.aload_n 0, 1) := by decide +kernel
theorem dX12_added2_41 : decode cX12_added2 41 = .ok (.invokevirtual 171, 3) := by decide +kernel
theorem dX12_added2_44 : decode cX12_added2 44 = .ok (.aload_n 0, 1) := by decide +kernel
theorem dX12_added2_45 : decode cX12_added2 45 = .ok (.invokevirtual 268, 3) := by decide +kernel
theorem dX12_added2_48 : decode cX12_added2 48 = .ok (.istore_n 3, 1) := by decide +kernel
theorem dX12_added2_49 : decode cX12_added2 49 = .ok (.iload_n 2, 1) := by decide +kernel
theorem dX12_added2_50 : decode cX12_added2 50 = .ok (.ifCond .eq 9, 3) := by decide +kernel
theorem dX12_added2_53 : decode cX12_added2 53 = .ok (.iload_n 1, 1) := by decide +kernel
theorem dX12_added2_54 : decode cX12_added2 54 = .ok (.iload_n 3, 1) := by decide +kernel
theorem dX12_added2_55 : decode cX12_added2 55 = .ok (.iadd, 1) := by decide +kernel
theorem dX12_added2_56 : decode cX12_added2 56 = .ok (.goto 6, 3) := by decide +kernel
theorem dX12_added2_59 : decode cX12_added2 59 = .ok (.iload_n 1, 1) := by decide +kernel
theorem dX12_added2_60 : decode cX12_added2 60 = .ok (.iload_n 3, 1) := by decide +kernel
theorem dX12_added2_61 : decode cX12_added2 61 = .ok (.isub, 1) := by decide +kernel
theorem dX12_added2_62 : decode cX12_added2 62 = .ok (.istore_n 1, 1) := by decide +kernel
theorem dX12_added2_63 : decode cX12_added2 63 = .ok (.goto (-58), 3) := by decide +kernel
theorem dX12_added2_66 : decode cX12_added2 66 = .ok (.iload_n 1, 1) := by decide +kernel
theorem dX12_added2_67 : decode cX12_added2 67 = .ok (.ireturn, 1) := by decide +kernel
set_option maxRecDepth 20000 in
theorem ggX12_not2_X12_isWord : GoodIn wsX12_not2 wsX12_isWord := goodIn_r _ [8, 9, 10, 11, 12, 13, 14, 15, 7, 16, 17, 18, 19, 20, 21, 22, 23, 144, 145, 146, 147, 148, 149, 150, 151, 152, 153, 154, 155, 156, 157, 158, 159, 160, 161, 162, 163, 164, 165, 166, 167, 168, 169, 170, 171, 172, 173, 174, 175, 176, 177] (by decide +kernel) (by decide +kernel)
set_option maxRecDepth 20000 in
theorem gX12_not2_X12_isWord : GoodIn wsX12_not2 (wsV RX12 174 RX12 yX12_isWord wsX12_isWord) := goodIn_app (goodIn_of _ (by decide +kernel)) ggX12_not2_X12_isWord
set_option maxRecDepth 20000 in
theorem ggX12_not2_X12_opens : GoodIn wsX12_not2 wsX12_opens := goodIn_r _ [27, 1, 28, 29, 30, 7, 31, 9, 12, 32, 33, 34, 35, 36, 11, 10, 21, 37, 38, 39, 40, 2, 41, 17, 18, 19, 20, 22, 23, 42, 43, 44, 144, 145, 146, 147, 148, 149, 150, 151, 152, 153, 154, 155, 156, 157, 158, 159, 160, 161, 162, 163, 164, 165, 166, 167, 168, 169, 170, 171, 172, 173, 174, 175, 176, 177] (by decide +kernel) (by decide +kernel)
set_option maxRecDepth 20000 in
theorem gX12_not2_X12_opens : GoodIn wsX12_not2 (wsV RX12 199 RX12 yX12_opens wsX12_opens) := goodIn_app (goodIn_of _ (by decide +kernel)) ggX12_not2_X12_opens
set_option maxRecDepth 20000 in
theorem ggX12_not2_X12_not3 : GoodIn wsX12_not2 wsX12_not3 := goodIn_r _ [48, 1, 2, 3, 4, 5, 6, 7, 8, 9, 10, 11, 12, 13, 14, 15, 16, 17, 18, 19, 20, 21, 22, 23, 24, 25, 26, 27, 28, 29, 30, 31, 32, 33, 34, 35, 36, 37, 38, 39, 40, 41, 42, 43, 44, 49, 50, 51, 52, 53, 54, 55, 56, 57, 58, 59, 60, 61, 62, 63, 64, 65, 66, 67, 68, 69, 70, 71, 72, 73, 74, 75, 76, 77, 78, 79, 80, 81, 82, 83, 84, 85, 86, 87, 88, 89, 90, 91, 92, 93, 94, 95, 96, 97, 98, 99, 100, 101, 102, 103, 104, 105, 106, 107, 108, 109, 110, 111, 112, 113, 114, 115, 116, 117, 118, 119, 120, 121, 122, 123, 144, 145, 146, 147, 148, 149, 150, 151, 152, 153, 154, 155, 156, 157, 158, 159, 160, 161, 162, 163, 164, 165, 166, 167, 168, 169, 170, 171, 172, 173, 174, 175, 176, 177] (by decide +kernel) (by decide +kernel)
set_option maxRecDepth 20000 in
theorem gX12_not2_X12_not3 : GoodIn wsX12_not2 (wsV RX12 256 RX12 yX12_not3 wsX12_not3) := goodIn_app (goodIn_of _ (by decide +kernel)) ggX12_not2_X12_not3
set_option maxRecDepth 20000 in
theorem ggX12_not2_X12_added2 : GoodIn wsX12_not2 wsX12_added2 := goodIn_r _ [127, 2, 61, 128, 129, 130, 7, 131, 132, 133, 134, 135, 1, 9, 10, 70, 71, 72, 73, 24, 25, 26, 27, 28, 29, 30, 31, 12, 32, 33, 34, 35, 36, 11, 21, 37, 38, 39, 40, 41, 17, 18, 19, 20, 22, 23, 42, 43, 44, 112, 113, 114, 115, 92, 93, 94, 95, 66, 67, 68, 69, 74, 75, 76, 77, 78, 79, 80, 81, 82, 83, 4, 5, 6, 8, 13, 14, 15, 16, 96, 97, 98, 99, 100, 101, 102, 103, 53, 54, 55, 56, 3, 57, 58, 59, 60, 62, 63, 64, 65, 116, 117, 118, 119, 120, 121, 122, 123, 49, 50, 51, 52, 84, 85, 86, 87, 88, 89, 90, 91, 136, 137, 138, 139, 140, 141, 142, 143, 45, 46, 47, 48, 104, 105, 106, 107, 108, 109, 110, 111, 144, 145, 146, 147, 148, 149, 150, 151, 152, 153, 154, 155, 156, 157, 158, 159, 160, 161, 162, 163, 164, 165, 166, 167, 168, 169, 170, 171, 172, 173, 174, 175, 176, 177] (by decide +kernel) (by decide +kernel)
set_option maxRecDepth 20000 in
theorem gX12_not2_X12_added2 : GoodIn wsX12_not2 (wsV RX12 271 RX12 yX12_added2 wsX12_added2) := goodIn_app (goodIn_of _ (by decide +kernel)) ggX12_not2_X12_added2
set_option maxRecDepth 20000 in
theorem ggX12_not2_X12_isSign : GoodIn wsX12_not2 wsX12_isSign := goodIn_r _ [73, 9, 10, 2, 144, 145, 146, 147, 148, 149, 150, 151, 152, 153, 154, 155, 156, 157, 158, 159, 160, 161, 162, 163, 164, 165, 166, 167, 168, 169, 170, 171, 172, 173, 174, 175, 176, 177] (by decide +kernel) (by decide +kernel)
set_option maxRecDepth 20000 in
theorem gX12_not2_X12_isSign : GoodIn wsX12_not2 (wsV RX12 196 RX12 yX12_isSign wsX12_isSign) := goodIn_app (goodIn_of _ (by decide +kernel)) ggX12_not2_X12_isSign
set_option maxRecDepth 20000 in
theorem ggX12_not2_X12_next : GoodIn wsX12_not2 wsX12_next := goodIn_r _ [36, 11, 12, 10, 21, 37, 38, 39, 40, 2, 41, 17, 18, 19, 7, 20, 22, 23, 42, 43, 44, 144, 145, 146, 147, 148, 149, 150, 151, 152, 153, 154, 155, 156, 157, 158, 159, 160, 161, 162, 163, 164, 165, 166, 167, 168, 169, 170, 171, 172, 173, 174, 175, 176, 177] (by decide +kernel) (by decide +kernel)
set_option maxRecDepth 20000 in
theorem gX12_not2_X12_next : GoodIn wsX12_not2 (wsV RX12 171 RX12 yX12_next wsX12_next) := goodIn_app (goodIn_of _ (by decide +kernel)) ggX12_not2_X12_next
theorem dX12_not2_0 : decode cX12_not2 0 = .ok (.aload_n 0, 1) := by decide +kernel
theorem dX12_not2_1 : decode cX12_not2 1 = .ok (.bipush 110, 2) := by decide +kernel
theorem dX12_not2_3 : decode cX12_not2 3 = .ok (.bipush 111, 2) := by decide +kernel
theorem dX12_not2_5 : decode cX12_not2 5 = .ok (.bipush 116, 2) := by decide +kernel
theorem dX12_not2_7 : decode cX12_not2 7 = .ok (.iconst 0, 1) := by decide +kernel
theorem dX12_not2_8 : decode cX12_not2 8 = .ok (.iconst 0, 1) := by decide +kernel
theorem dX12_not2_9 : decode cX12_not2 9 = .ok (.iconst 0, 1) := by decide +kernel
theorem dX12_not2_10 : decode cX12_not2 10 = .ok (.iconst 0, 1) := by decide +kernel
theorem dX12_not2_11 : decode cX12_not2 11 = .ok (.iconst 0, 1) := by decide +kernel
theorem dX12_not2_12 : decode cX12_not2 12 = .ok (.invokevirtual 174, 3) := by decide +kernel
theorem dX12_not2_15 : decode cX12_not2 15 = .ok (.ifCond .eq 37, 3) := by decide +kernel
theorem dX12_not2_18 : decode cX12_not2 18 = .ok (.aload_n 0, 1) := by decide +kernel
theorem dX12_not2_19 : decode cX12_not2 19 = .ok (.invokevirtual 199, 3) := by decide +kernel
theorem dX12_not2_22 : decode cX12_not2 22 = .ok (.ifCond .ne 5, 3) := by decide +kernel
theorem dX12_not2_25 : decode cX12_not2 25 = .ok (.iconst 0, 1) := by decide +kernel
theorem dX12_not2_26 : decode cX12_not2 26 = .ok (.ireturn, 1) := by decide +kernel
theorem dX12_not2_27 : decode cX12_not2 27 = .ok (.aload_n 0, 1) := by decide +kernel
theorem dX12_not2_28 : decode cX12_not2 28 = .ok (.invokevirtual 256, 3) := by decide +kernel
theorem dX12_not2_31 : decode cX12_not2 31 = .ok (.istore_n 1, 1) := by decide +kernel
theorem dX12_not2_32 : decode cX12_not2 32 = .ok (.aload_n 0, 1) := by decide +kernel
theorem dX12_not2_33 : decode cX12_not2 33 = .ok (.dup, 1) := by decide +kernel
theorem dX12_not2_34 : decode cX12_not2 34 = .ok (.getfield 165, 3) := by decide +kernel
theorem dX12_not2_37 : decode cX12_not2 37 = .ok (.iconst 1, 1) := by decide +kernel
theorem dX12_not2_38 : decode cX12_not2 38 = .ok (.isub, 1) := by decide +kernel
theorem dX12_not2_39 : decode cX12_not2 39 = .ok (.putfield 165, 3) := by decide +kernel
theorem dX12_not2_42 : decode cX12_not2 42 = .ok (.iload_n 1, 1) := by decide +kernel
theorem dX12_not2_43 : decode cX12_not2 43 = .ok (.ifCond .ne 7, 3) := by decide +kernel
theorem dX12_not2_46 : decode cX12_not2 46 = .ok (.iconst 1, 1) := by decide +kernel
theorem dX12_not2_47 : decode cX12_not2 47 = .ok (.goto 4, 3) := by decide +kernel
theorem dX12_not2_50 : decode cX12_not2 50 = .ok (.iconst 0, 1) := by decide +kernel
theorem dX12_not2_51 : decode cX12_not2 51 = .ok (.ireturn, 1) := by decide +kernel
theorem dX12_not2_52 : decode cX12_not2 52 = .ok (.aload_n 0, 1) := by decide +kernel
theorem dX12_not2_53 : decode cX12_not2 53 = .ok (.invokevirtual 271, 3) := by decide +kernel
theorem dX12_not2_56 : decode cX12_not2 56 = .ok (.istore_n 1, 1) := by decide +kernel
theorem dX12_not2_57 : decode cX12_not2 57 = .ok (.aload_n 0, 1) := by decide +kernel
theorem dX12_not2_58 : decode cX12_not2 58 = .ok (.bipush 60, 2) := by decide +kernel
theorem dX12_not2_60 : decode cX12_not2 60 = .ok (.invokevirtual 196, 3) := by decide +kernel
theorem dX12_not2_63 : decode cX12_not2 63 = .ok (.ifCond .ne 14, 3) := by decide +kernel
theorem dX12_not2_66 : decode cX12_not2 66 = .ok (.aload_n 0, 1) := by decide +kernel
theorem dX12_not2_67 : decode cX12_not2 67 = .ok (.bipush 61, 2) := by decide +kernel
theorem dX12_not2_69 : decode cX12_not2 69 = .ok (.invokevirtual 196, 3) := by decide +kernel
theorem dX12_not2_72 : decode cX12_not2 72 = .ok (.ifCond .ne 5, 3) := by decide +kernel
theorem dX12_not2_75 : decode cX12_not2 75 = .ok (.iload_n 1, 1) := by decide +kernel
theorem dX12_not2_76 : decode cX12_not2 76 = .ok (.ireturn, 1) := by decide +kernel
theorem dX12_not2_77 : decode cX12_not2 77 = .ok (.aload_n 0, 1) := by decide +kernel
theorem dX12_not2_78 : decode cX12_not2 78 = .ok (.getfield 148, 3) := by decide +kernel
theorem dX12_not2_81 : decode cX12_not2 81 = .ok (.ldc2_w 218, 3) := by decide +kernel
theorem dX12_not2_84 : decode cX12_not2 84 = .ok (.lcmp, 1) := by decide +kernel
theorem dX12_not2_85 : decode cX12_not2 85 = .ok (.ifCond .ne 7, 3) := by decide +kernel
theorem dX12_not2_88 : decode cX12_not2 88 = .ok (.iconst 1, 1) := by decide +kernel
theorem dX12_not2_89 : decode cX12_not2 89 = .ok (.goto 4, 3) := by decide +kernel
theorem dX12_not2_92 : decode cX12_not2 92 = .ok (.iconst 0, 1) := by decide +kernel
theorem dX12_not2_93 : decode cX12_not2 93 = .ok (.istore_n 2, 1) := by decide +kernel
theorem dX12_not2_94 : decode cX12_not2 94 = .ok (.aload_n 0, 1) := by decide +kernel
theorem dX12_not2_95 : decode cX12_not2 95 = .ok (.invokevirtual 171, 3) := by decide +kernel
theorem dX12_not2_98 : decode cX12_not2 98 = .ok (.aload_n 0, 1) := by decide +kernel
theorem dX12_not2_99 : decode cX12_not2 99 = .ok (.invokevirtual 271, 3) := by decide +kernel
theorem dX12_not2_102 : decode cX12_not2 102 = .ok (.istore_n 3, 1) := by decide +kernel
theorem dX12_not2_103 : decode cX12_not2 103 = .ok (.iload_n 2, 1) := by decide +kernel
theorem dX12_not2_104 : decode cX12_not2 104 = .ok (.ifCond .eq 11, 3) := by decide +kernel
theorem dX12_not2_107 : decode cX12_not2 107 = .ok (.iload_n 1, 1) := by decide +kernel
theorem dX12_not2_108 : decode cX12_not2 108 = .ok (.iload_n 3, 1) := by decide +kernel
theorem dX12_not2_109 : decode cX12_not2 109 = .ok (.if_icmp .ge 15, 3) := by decide +kernel
theorem dX12_not2_112 : decode cX12_not2 112 = .ok (.goto 8, 3) := by decide +kernel
theorem dX12_not2_115 : decode cX12_not2 115 = .ok (.iload_n 1, 1) := by decide +kernel
theorem dX12_not2_116 : decode cX12_not2 116 = .ok (.iload_n 3, 1) := by decide +kernel
theorem dX12_not2_117 : decode cX12_not2 117 = .ok (.if_icmp .ne 7, 3) := by decide +kernel
theorem dX12_not2_120 : decode cX12_not2 120 = .ok (.iconst 1, 1) := by decide +kernel
theorem dX12_not2_121 : decode cX12_not2 121 = .ok (.goto 4, 3) := by decide +kernel
theorem dX12_not2_124 : decode cX12_not2 124 = .ok (.iconst 0, 1) := by decide +kernel
theorem dX12_not2_125 : decode cX12_not2 125 = .ok (.ireturn, 1) := by decide +kernel
set_option maxRecDepth 20000 in
theorem ggX12_both2_X12_not2 : GoodIn wsX12_both2 wsX12_not2 := goodIn_r _ [5, 6, 7, 8, 9, 10, 11, 4, 12, 13, 14, 15, 16, 17, 18, 19, 20, 21, 22, 23, 24, 25, 26, 27, 28, 29, 30, 31, 32, 33, 34, 35, 36, 37, 38, 39, 40, 41, 42, 43, 44, 45, 46, 47, 48, 49, 50, 51, 52, 53, 54, 55, 56, 57, 58, 59, 60, 61, 62, 63, 64, 65, 66, 67, 68, 69, 70, 71, 72, 73, 74, 75, 76, 77, 78, 79, 80, 81, 82, 83, 84, 85, 86, 87, 88, 89, 90, 91, 92, 93, 94, 95, 96, 97, 98, 99, 100, 101, 102, 103, 104, 105, 106, 107, 108, 109, 110, 111, 112, 113, 114, 115, 116, 117, 118, 119, 120, 121, 122, 123, 124, 125, 126, 127, 128, 129, 130, 131, 132, 133, 134, 135, 136, 137, 138, 139, 140, 141, 142, 143, 144, 145, 146, 147, 148, 149, 150, 151, 152, 153, 154, 155, 156, 157, 158, 159, 160, 161, 162, 163, 164, 165, 166, 167, 168, 169, 170, 171, 172, 173, 174, 175, 176, 177, 178, 179, 180, 181] (by decide +kernel) (by decide +kernel)
set_option maxRecDepth 20000 in
theorem gX12_both2_X12_not2 : GoodIn wsX12_both2 (wsV RX12 274 RX12 yX12_not2 wsX12_not2) := goodIn_app (goodIn_of _ (by decide +kernel)) ggX12_both2_X12_not2
set_option maxRecDepth 20000 in
theorem ggX12_both2_X12_isWord : GoodIn wsX12_both2 wsX12_isWord := goodIn_r _ [12, 13, 14, 15, 16, 17, 18, 19, 4, 20, 21, 22, 23, 24, 25, 26, 27, 148, 149, 150, 151, 152, 153, 154, 155, 156, 157, 158, 159, 160, 161, 162, 163, 164, 165, 166, 167, 168, 169, 170, 171, 172, 173, 174, 175, 176, 177, 178, 179, 180, 181] (by decide +kernel) (by decide +kernel)
set_option maxRecDepth 20000 in
theorem gX12_both2_X12_isWord : GoodIn wsX12_both2 (wsV RX12 174 RX12 yX12_isWord wsX12_isWord) := goodIn_app (goodIn_of _ (by decide +kernel)) ggX12_both2_X12_isWord
set_option maxRecDepth 20000 in
theorem ggX12_both2_X12_next : GoodIn wsX12_both2 wsX12_next := goodIn_r _ [40, 15, 16, 14, 25, 41, 42, 43, 44, 7, 45, 21, 22, 23, 4, 24, 26, 27, 46, 47, 48, 148, 149, 150, 151, 152, 153, 154, 155, 156, 157, 158, 159, 160, 161, 162, 163, 164, 165, 166, 167, 168, 169, 170, 171, 172, 173, 174, 175, 176, 177, 178, 179, 180, 181] (by decide +kernel) (by decide +kernel)
set_option maxRecDepth 20000 in
theorem gX12_both2_X12_next : GoodIn wsX12_both2 (wsV RX12 171 RX12 yX12_next wsX12_next) := goodIn_app (goodIn_of _ (by decide +kernel)) ggX12_both2_X12_next
theorem dX12_both2_0 : decode cX12_both2 0 = .ok (.aload_n 0, 1) := by decide +kernel
theorem dX12_both2_1 : decode cX12_both2 1 = .ok (.invokevirtual 274, 3) := by decide +kernel
theorem dX12_both2_4 : decode cX12_both2 4 = .ok (.istore_n 1, 1) := by decide +kernel
theorem dX12_both2_5 : decode cX12_both2 5 = .ok (.aload_n 0, 1) := by decide +kernel
theorem dX12_both2_6 : decode cX12_both2 6 = .ok (.bipush 97, 2) := by decide +kernel
theorem dX12_both2_8 : decode cX12_both2 8 = .ok (.bipush 110, 2) := by decide +kernel
theorem dX12_both2_10 : decode cX12_both2 10 = .ok (.bipush 100, 2) := by decide +kernel
theorem dX12_both2_12 : decode cX12_both2 12 = .ok (.iconst 0, 1) := by decide +kernel
theorem dX12_both2_13 : decode cX12_both2 13 = .ok (.iconst 0, 1) := by decide +kernel
theorem dX12_both2_14 : decode cX12_both2 14 = .ok (.iconst 0, 1) := by decide +kernel
theorem dX12_both2_15 : decode cX12_both2 15 = .ok (.iconst 0, 1) := by decide +kernel
theorem dX12_both2_16 : decode cX12_both2 16 = .ok (.iconst 0, 1) := by decide +kernel
theorem dX12_both2_17 : decode cX12_both2 17 = .ok (.invokevirtual 174, 3) := by decide +kernel
theorem dX12_both2_20 : decode cX12_both2 20 = .ok (.ifCond .eq 29, 3) := by decide +kernel
theorem dX12_both2_23 : decode cX12_both2 23 = .ok (.aload_n 0, 1) := by decide +kernel
theorem dX12_both2_24 : decode cX12_both2 24 = .ok (.invokevirtual 171, 3) := by decide +kernel
theorem dX12_both2_27 : decode cX12_both2 27 = .ok (.aload_n 0, 1) := by decide +kernel
theorem dX12_both2_28 : decode cX12_both2 28 = .ok (.invokevirtual 274, 3) := by decide +kernel
theorem dX12_both2_31 : decode cX12_both2 31 = .ok (.istore_n 2, 1) := by decide +kernel
theorem dX12_both2_32 : decode cX12_both2 32 = .ok (.iload_n 1, 1) := by decide +kernel
theorem dX12_both2_33 : decode cX12_both2 33 = .ok (.ifCond .eq 11, 3) := by decide +kernel
theorem dX12_both2_36 : decode cX12_both2 36 = .ok (.iload_n 2, 1) := by decide +kernel
theorem dX12_both2_37 : decode cX12_both2 37 = .ok (.ifCond .eq 7, 3) := by decide +kernel
theorem dX12_both2_40 : decode cX12_both2 40 = .ok (.iconst 1, 1) := by decide +kernel
theorem dX12_both2_41 : decode cX12_both2 41 = .ok (.goto 4, 3) := by decide +kernel
theorem dX12_both2_44 : decode cX12_both2 44 = .ok (.iconst 0, 1) := by decide +kernel
theorem dX12_both2_45 : decode cX12_both2 45 = .ok (.istore_n 1, 1) := by decide +kernel
theorem dX12_both2_46 : decode cX12_both2 46 = .ok (.goto (-41), 3) := by decide +kernel
theorem dX12_both2_49 : decode cX12_both2 49 = .ok (.iload_n 1, 1) := by decide +kernel
theorem dX12_both2_50 : decode cX12_both2 50 = .ok (.ireturn, 1) := by decide +kernel
set_option maxRecDepth 20000 in
theorem ggX12_either2_X12_both2 : GoodIn wsX12_either2 wsX12_both2 := goodIn_r _ [5, 6, 7, 8, 4, 9, 10, 11, 12, 13, 14, 15, 16, 17, 18, 19, 20, 21, 22, 23, 24, 25, 26, 27, 28, 29, 30, 31, 32, 33, 34, 35, 36, 37, 38, 39, 40, 41, 42, 43, 44, 45, 46, 47, 48, 49, 50, 51, 52, 53, 54, 55, 56, 57, 58, 59, 60, 61, 62, 63, 64, 65, 66, 67, 68, 69, 70, 71, 72, 73, 74, 75, 76, 77, 78, 79, 80, 81, 82, 83, 84, 85, 86, 87, 88, 89, 90, 91, 92, 93, 94, 95, 96, 97, 98, 99, 100, 101, 102, 103, 104, 105, 106, 107, 108, 109, 110, 111, 112, 113, 114, 115, 116, 117, 118, 119, 120, 121, 122, 123, 124, 125, 126, 127, 128, 129, 130, 131, 132, 133, 134, 135, 136, 137, 138, 139, 140, 141, 142, 143, 144, 145, 146, 147, 148, 149, 150, 151, 152, 153, 154, 155, 156, 157, 158, 159, 160, 161, 162, 163, 164, 165, 166, 167, 168, 169, 170, 171, 172, 173, 174, 175, 176, 177, 178, 179, 180, 181, 182, 183, 184, 185] (by decide +kernel) (by decide +kernel)
set_option maxRecDepth 20000 in
theorem gX12_either2_X12_both2 : GoodIn wsX12_either2 (wsV RX12 277 RX12 yX12_both2 wsX12_both2) := goodIn_app (goodIn_of _ (by decide +kernel)) ggX12_either2_X12_both2
set_option maxRecDepth 20000 in
theorem ggX12_either2_X12_isWord : GoodIn wsX12_either2 wsX12_isWord := goodIn_r _ [16, 17, 18, 19, 20, 21, 22, 23, 4, 24, 25, 26, 27, 28, 29, 30, 31, 152, 153, 154, 155, 156, 157, 158, 159, 160, 161, 162, 163, 164, 165, 166, 167, 168, 169, 170, 171, 172, 173, 174, 175, 176, 177, 178, 179, 180, 181, 182, 183, 184, 185] (by decide +kernel) (by decide +kernel)
set_option maxRecDepth 20000 in
theorem gX12_either2_X12_isWord : GoodIn wsX12_either2 (wsV RX12 174 RX12 yX12_isWord wsX12_isWord) := goodIn_app (goodIn_of _ (by decide +kernel)) ggX12_either2_X12_isWord
set_option maxRecDepth 20000 in
theorem ggX12_either2_X12_next : GoodIn wsX12_either2 wsX12_next := goodIn_r _ [44, 19, 20, 18, 29, 45, 46, 47, 48, 11, 49, 25, 26, 27, 4, 28, 30, 31, 50, 51, 52, 152, 153, 154, 155, 156, 157, 158, 159, 160, 161, 162, 163, 164, 165, 166, 167, 168, 169, 170, 171, 172, 173, 174, 175, 176, 177, 178, 179, 180, 181, 182, 183, 184, 185] (by decide +kernel) (by decide +kernel)
set_option maxRecDepth 20000 in
theorem gX12_either2_X12_next : GoodIn wsX12_either2 (wsV RX12 171 RX12 yX12_next wsX12_next) := goodIn_app (goodIn_of _ (by decide +kernel)) ggX12_either2_X12_next
theorem dX12_either2_0 : decode cX12_either2 0 = .ok (.aload_n 0, 1) := by decide +kernel
theorem dX12_either2_1 : decode cX12_either2 1 = .ok (.invokevirtual 277, 3) := by decide +kernel
theorem dX12_either2_4 : decode cX12_either2 4 = .ok (.istore_n 1, 1) := by decide +kernel
theorem dX12_either2_5 : decode cX12_either2 5 = .ok (.aload_n 0, 1) := by decide +kernel
theorem dX12_either2_6 : decode cX12_either2 6 = .ok (.bipush 111, 2) := by decide +kernel
theorem dX12_either2_8 : decode cX12_either2 8 = .ok (.bipush 114, 2) := by decide +kernel
theorem dX12_either2_10 : decode cX12_either2 10 = .ok (.iconst 0, 1) := by decide +kernel
theorem dX12_either2_11 : decode cX12_either2 11 = .ok (.iconst 0, 1) := by decide +kernel
theorem dX12_either2_12 : decode cX12_either2 12 = .ok (.iconst 0, 1) := by decide +kernel
theorem dX12_either2_13 : decode cX12_either2 13 = .ok (.iconst 0, 1) := by decide +kernel
theorem dX12_either2_14 : decode cX12_either2 14 = .ok (.iconst 0, 1) := by decide +kernel
theorem dX12_either2_15 : decode cX12_either2 15 = .ok (.iconst 0, 1) := by decide +kernel
theorem dX12_either2_16 : decode cX12_either2 16 = .ok (.invokevirtual 174, 3) := by decide +kernel
theorem dX12_either2_19 : decode cX12_either2 19 = .ok (.ifCond .eq 29, 3) := by decide +kernel
theorem dX12_either2_22 : decode cX12_either2 22 = .ok (.aload_n 0, 1) := by decide +kernel
theorem dX12_either2_23 : decode cX12_either2 23 = .ok (.invokevirtual 171, 3) := by decide +kernel
theorem dX12_either2_26 : decode cX12_either2 26 = .ok (.aload_n 0, 1) := by decide +kernel
theorem dX12_either2_27 : decode cX12_either2 27 = .ok (.invokevirtual 277, 3) := by decide +kernel
theorem dX12_either2_30 : decode cX12_either2 30 = .ok (.istore_n 2, 1) := by decide +kernel
theorem dX12_either2_31 : decode cX12_either2 31 = .ok (.iload_n 1, 1) := by decide +kernel
theorem dX12_either2_32 : decode cX12_either2 32 = .ok (.ifCond .ne 7, 3) := by decide +kernel
theorem dX12_either2_35 : decode cX12_either2 35 = .ok (.iload_n 2, 1) := by decide +kernel
theorem dX12_either2_36 : decode cX12_either2 36 = .ok (.ifCond .eq 7, 3) := by decide +kernel
theorem dX12_either2_39 : decode cX12_either2 39 = .ok (.iconst 1, 1) := by decide +kernel
theorem dX12_either2_40 : decode cX12_either2 40 = .ok (.goto 4, 3) := by decide +kernel
theorem dX12_either2_43 : decode cX12_either2 43 = .ok (.iconst 0, 1) := by decide +kernel
theorem dX12_either2_44 : decode cX12_either2 44 = .ok (.istore_n 1, 1) := by decide +kernel
theorem dX12_either2_45 : decode cX12_either2 45 = .ok (.goto (-40), 3) := by decide +kernel
theorem dX12_either2_48 : decode cX12_either2 48 = .ok (.iload_n 1, 1) := by decide +kernel
theorem dX12_either2_49 : decode cX12_either2 49 = .ok (.ireturn, 1) := by decide +kernel
set_option maxRecDepth 20000 in
theorem ggX12_atom1_X12_isSign : GoodIn wsX12_atom1 wsX12_isSign := goodIn_r _ [9, 2, 3, 4, 156, 157, 158, 159, 160, 161, 162, 163, 164, 165, 166, 167, 168, 169, 170, 171, 172, 173, 174, 175, 176, 177, 178, 179, 180, 181, 182, 183, 184, 185, 186, 187, 188, 189] (by decide +kernel) (by decide +kernel)
set_option maxRecDepth 20000 in
theorem gX12_atom1_X12_isSign : GoodIn wsX12_atom1 (wsV RX12 196 RX12 yX12_isSign wsX12_isSign) := goodIn_app (goodIn_of _ (by decide +kernel)) ggX12_atom1_X12_isSign
set_option maxRecDepth 20000 in
theorem ggX12_atom1_X12_opens : GoodIn wsX12_atom1 wsX12_opens := goodIn_r _ [13, 1, 14, 15, 16, 8, 17, 2, 18, 19, 20, 21, 22, 23, 24, 3, 25, 26, 27, 28, 29, 4, 30, 31, 32, 33, 34, 35, 36, 37, 38, 39, 156, 157, 158, 159, 160, 161, 162, 163, 164, 165, 166, 167, 168, 169, 170, 171, 172, 173, 174, 175, 176, 177, 178, 179, 180, 181, 182, 183, 184, 185, 186, 187, 188, 189] (by decide +kernel) (by decide +kernel)
set_option maxRecDepth 20000 in
theorem gX12_atom1_X12_opens : GoodIn wsX12_atom1 (wsV RX12 199 RX12 yX12_opens wsX12_opens) := goodIn_app (goodIn_of _ (by decide +kernel)) ggX12_atom1_X12_opens
set_option maxRecDepth 20000 in
theorem ggX12_atom1_X12_atom2 : GoodIn wsX12_atom1 wsX12_atom2 := goodIn_r _ [43, 1, 2, 3, 4, 5, 6, 7, 8, 9, 10, 11, 12, 13, 14, 15, 16, 17, 18, 19, 20, 21, 22, 23, 24, 25, 26, 27, 28, 29, 30, 31, 32, 33, 34, 35, 36, 37, 38, 39, 44, 45, 46, 47, 48, 49, 50, 51, 52, 53, 54, 55, 56, 57, 58, 59, 60, 61, 62, 63, 64, 65, 66, 67, 68, 69, 70, 71, 72, 73, 74, 75, 76, 77, 78, 79, 80, 81, 82, 83, 84, 85, 86, 87, 88, 89, 90, 91, 92, 93, 94, 95, 96, 97, 98, 99, 100, 101, 102, 103, 104, 105, 106, 107, 108, 109, 110, 111, 112, 113, 114, 115, 116, 117, 118, 119, 120, 121, 122, 123, 124, 125, 126, 127, 128, 129, 130, 131, 132, 133, 134, 135, 156, 157, 158, 159, 160, 161, 162, 163, 164, 165, 166, 167, 168, 169, 170, 171, 172, 173, 174, 175, 176, 177, 178, 179, 180, 181, 182, 183, 184, 185, 186, 187, 188, 189] (by decide +kernel) (by decide +kernel)
set_option maxRecDepth 20000 in
theorem gX12_atom1_X12_atom2 : GoodIn wsX12_atom1 (wsV RX12 265 RX12 yX12_atom2 wsX12_atom2) := goodIn_app (goodIn_of _ (by decide +kernel)) ggX12_atom1_X12_atom2
set_option maxRecDepth 20000 in
theorem ggX12_atom1_X12_either2 : GoodIn wsX12_atom1 wsX12_either2 := goodIn_r _ [139, 140, 141, 142, 8, 143, 144, 145, 146, 147, 1, 4, 86, 66, 67, 68, 69, 2, 3, 24, 18, 70, 71, 72, 73, 31, 32, 33, 34, 25, 35, 36, 10, 11, 12, 13, 14, 15, 16, 17, 19, 20, 21, 22, 23, 26, 27, 28, 29, 30, 37, 38, 39, 124, 125, 126, 127, 104, 105, 106, 107, 82, 83, 84, 85, 87, 88, 89, 90, 91, 92, 93, 94, 95, 52, 53, 54, 55, 5, 6, 7, 9, 56, 57, 58, 59, 60, 61, 62, 63, 64, 65, 108, 109, 110, 111, 112, 113, 114, 115, 48, 49, 50, 51, 74, 75, 76, 77, 78, 79, 80, 81, 128, 129, 130, 131, 132, 133, 134, 135, 44, 45, 46, 47, 96, 97, 98, 99, 100, 101, 102, 103, 148, 149, 150, 151, 152, 153, 154, 155, 40, 41, 42, 43, 116, 117, 118, 119, 120, 121, 122, 123, 156, 157, 158, 159, 160, 161, 162, 163, 164, 165, 166, 167, 168, 169, 170, 171, 172, 173, 174, 175, 176, 177, 178, 179, 180, 181, 182, 183, 184, 185, 186, 187, 188, 189] (by decide +kernel) (by decide +kernel)
set_option maxRecDepth 20000 in
theorem gX12_atom1_X12_either2 : GoodIn wsX12_atom1 (wsV RX12 280 RX12 yX12_either2 wsX12_either2) := goodIn_app (goodIn_of _ (by decide +kernel)) ggX12_atom1_X12_either2
set_option maxRecDepth 20000 in
theorem ggX12_atom1_X12_fail : GoodIn wsX12_atom1 wsX12_fail := goodIn_r _ [17, 2, 18, 19, 156, 157, 158, 159, 160, 161, 162, 163, 164, 165, 166, 167, 168, 169, 170, 171, 172, 173, 174, 175, 176, 177, 178, 179, 180, 181, 182, 183, 184, 185, 186, 187, 188, 189] (by decide +kernel) (by decide +kernel)
set_option maxRecDepth 20000 in
theorem gX12_atom1_X12_fail : GoodIn wsX12_atom1 (wsV RX12 168 RX12 yX12_fail wsX12_fail) := goodIn_app (goodIn_of _ (by decide +kernel)) ggX12_atom1_X12_fail
set_option maxRecDepth 20000 in
theorem ggX12_atom1_X12_next : GoodIn wsX12_atom1 wsX12_next := goodIn_r _ [23, 24, 18, 3, 25, 26, 27, 28, 29, 4, 30, 31, 32, 33, 8, 34, 35, 36, 37, 38, 39, 156, 157, 158, 159, 160, 161, 162, 163, 164, 165, 166, 167, 168, 169, 170, 171, 172, 173, 174, 175, 176, 177, 178, 179, 180, 181, 182, 183, 184, 185, 186, 187, 188, 189] (by decide +kernel) (by decide +kernel)
set_option maxRecDepth 20000 in
theorem gX12_atom1_X12_next : GoodIn wsX12_atom1 (wsV RX12 171 RX12 yX12_next wsX12_next) := goodIn_app (goodIn_of _ (by decide +kernel)) ggX12_atom1_X12_next
set_option maxRecDepth 20000 in
theorem ggX12_atom1_X12_name : GoodIn wsX12_atom1 wsX12_name := goodIn_r _ [59, 60, 61, 62, 63, 64, 65, 66, 67, 68, 8, 69, 2, 3, 24, 18, 70, 71, 72, 73, 31, 32, 33, 34, 25, 35, 36, 14, 15, 16, 17, 19, 156, 157, 158, 159, 160, 161, 162, 163, 164, 165, 166, 167, 168, 169, 170, 171, 172, 173, 174, 175, 176, 177, 178, 179, 180, 181, 182, 183, 184, 185, 186, 187, 188, 189] (by decide +kernel) (by decide +kernel)
set_option maxRecDepth 20000 in
theorem gX12_atom1_X12_name : GoodIn wsX12_atom1 (wsV RX12 203 RX12 yX12_name wsX12_name) := goodIn_app (goodIn_of _ (by decide +kernel)) ggX12_atom1_X12_name
theorem dX12_atom1_0 : decode cX12_atom1 0 = .ok (.iconst 0, 1) := by decide +kernel
theorem dX12_atom1_1 : decode cX12_atom1 1 = .ok (.istore_n 1, 1) := by decide +kernel
theorem dX12_atom1_2 : decode cX12_atom1 2 = .ok (.aload_n 0, 1) := by decide +kernel
theorem dX12_atom1_3 : decode cX12_atom1 3 = .ok (.bipush 45, 2) := by decide +kernel
theorem dX12_atom1_5 : decode cX12_atom1 5 = .ok (.invokevirtual 196, 3) := by decide +kernel
theorem dX12_atom1_8 : decode cX12_atom1 8 = .ok (.ifCond .eq 29, 3) := by decide +kernel
theorem dX12_atom1_11 : decode cX12_atom1 11 = .ok (.aload_n 0, 1) := by decide +kernel
theorem dX12_atom1_12 : decode cX12_atom1 12 = .ok (.invokevirtual 199, 3) := by decide +kernel
theorem dX12_atom1_15 : decode cX12_atom1 15 = .ok (.ifCond .eq 146, 3) := by decide +kernel
theorem dX12_atom1_18 : decode cX12_atom1 18 = .ok (.aload_n 0, 1) := by decide +kernel
theorem dX12_atom1_19 : decode cX12_atom1 19 = .ok (.invokevirtual 265, 3) := by decide +kernel
theorem dX12_atom1_22 : decode cX12_atom1 22 = .ok (.ineg, 1) := by decide +kernel
theorem dX12_atom1_23 : decode cX12_atom1 23 = .ok (.istore_n 1, 1) := by decide +kernel
theorem dX12_atom1_24 : decode cX12_atom1 24 = .ok (.aload_n 0, 1) := by decide +kernel
theorem dX12_atom1_25 : decode cX12_atom1 25 = .ok (.dup, 1) := by decide +kernel
theorem dX12_atom1_26 : decode cX12_atom1 26 = .ok (.getfield 165, 3) := by decide +kernel
theorem dX12_atom1_29 : decode cX12_atom1 29 = .ok (.iconst 1, 1) := by decide +kernel
theorem dX12_atom1_30 : decode cX12_atom1 30 = .ok (.isub, 1) := by decide +kernel
theorem dX12_atom1_31 : decode cX12_atom1 31 = .ok (.putfield 165, 3) := by decide +kernel
theorem dX12_atom1_34 : decode cX12_atom1 34 = .ok (.goto 127, 3) := by decide +kernel
theorem dX12_atom1_37 : decode cX12_atom1 37 = .ok (.aload_n 0, 1) := by decide +kernel
theorem dX12_atom1_38 : decode cX12_atom1 38 = .ok (.bipush 40, 2) := by decide +kernel
theorem dX12_atom1_40 : decode cX12_atom1 40 = .ok (.invokevirtual 196, 3) := by decide +kernel
theorem dX12_atom1_43 : decode cX12_atom1 43 = .ok (.ifCond .eq 52, 3) := by decide +kernel
theorem dX12_atom1_46 : decode cX12_atom1 46 = .ok (.aload_n 0, 1) := by decide +kernel
theorem dX12_atom1_47 : decode cX12_atom1 47 = .ok (.invokevirtual 199, 3) := by decide +kernel
theorem dX12_atom1_50 : decode cX12_atom1 50 = .ok (.ifCond .eq 111, 3) := by decide +kernel
theorem dX12_atom1_53 : decode cX12_atom1 53 = .ok (.aload_n 0, 1) := by decide +kernel
theorem dX12_atom1_54 : decode cX12_atom1 54 = .ok (.invokevirtual 280, 3) := by decide +kernel
theorem dX12_atom1_57 : decode cX12_atom1 57 = .ok (.istore_n 1, 1) := by decide +kernel
theorem dX12_atom1_58 : decode cX12_atom1 58 = .ok (.aload_n 0, 1) := by decide +kernel
theorem dX12_atom1_59 : decode cX12_atom1 59 = .ok (.bipush 41, 2) := by decide +kernel
theorem dX12_atom1_61 : decode cX12_atom1 61 = .ok (.invokevirtual 196, 3) := by decide +kernel
theorem dX12_atom1_64 : decode cX12_atom1 64 = .ok (.ifCond .ne 7, 3) := by decide +kernel
theorem dX12_atom1_67 : decode cX12_atom1 67 = .ok (.aload_n 0, 1) := by decide +kernel
theorem dX12_atom1_68 : decode cX12_atom1 68 = .ok (.invokevirtual 168, 3) := by decide +kernel
theorem dX12_atom1_71 : decode cX12_atom1 71 = .ok (.aload_n 0, 1) := by decide +kernel
theorem dX12_atom1_72 : decode cX12_atom1 72 = .ok (.dup, 1) := by decide +kernel
theorem dX12_atom1_73 : decode cX12_atom1 73 = .ok (.getfield 165, 3) := by decide +kernel
theorem dX12_atom1_76 : decode cX12_atom1 76 = .ok (.iconst 1, 1) := by decide +kernel
theorem dX12_atom1_77 : decode cX12_atom1 77 = .ok (.isub, 1) := by decide +kernel
theorem dX12_atom1_78 : decode cX12_atom1 78 = .ok (.putfield 165, 3) := by decide +kernel
theorem dX12_atom1_81 : decode cX12_atom1 81 = .ok (.aload_n 0, 1) := by decide +kernel
theorem dX12_atom1_82 : decode cX12_atom1 82 = .ok (.getfield 154, 3) := by decide +kernel
theorem dX12_atom1_85 : decode cX12_atom1 85 = .ok (.ifCond .ne 76, 3) := by decide +kernel
theorem dX12_atom1_88 : decode cX12_atom1 88 = .ok (.aload_n 0, 1) := by decide +kernel
theorem dX12_atom1_89 : decode cX12_atom1 89 = .ok (.invokevirtual 171, 3) := by decide +kernel
theorem dX12_atom1_92 : decode cX12_atom1 92 = .ok (.goto 69, 3) := by decide +kernel
theorem dX12_atom1_95 : decode cX12_atom1 95 = .ok (.aload_n 0, 1) := by decide +kernel
theorem dX12_atom1_96 : decode cX12_atom1 96 = .ok (.getfield 154, 3) := by decide +kernel
theorem dX12_atom1_99 : decode cX12_atom1 99 = .ok (.ifCond .ne 24, 3) := by decide +kernel
theorem dX12_atom1_102 : decode cX12_atom1 102 = .ok (.aload_n 0, 1) := by decide +kernel
theorem dX12_atom1_103 : decode cX12_atom1 103 = .ok (.getfield 137, 3) := by decide +kernel
theorem dX12_atom1_106 : decode cX12_atom1 106 = .ok (.iconst 2, 1) := by decide +kernel
theorem dX12_atom1_107 : decode cX12_atom1 107 = .ok (.if_icmp .ne 16, 3) := by decide +kernel
theorem dX12_atom1_110 : decode cX12_atom1 110 = .ok (.aload_n 0, 1) := by decide +kernel
theorem dX12_atom1_111 : decode cX12_atom1 111 = .ok (.getfield 148, 3) := by decide +kernel
theorem dX12_atom1_114 : decode cX12_atom1 114 = .ok (.l2i, 1) := by decide +kernel
theorem dX12_atom1_115 : decode cX12_atom1 115 = .ok (.istore_n 1, 1) := by decide +kernel
theorem dX12_atom1_116 : decode cX12_atom1 116 = .ok (.aload_n 0, 1) := by decide +kernel
theorem dX12_atom1_117 : decode cX12_atom1 117 = .ok (.invokevirtual 171, 3) := by decide +kernel
theorem dX12_atom1_120 : decode cX12_atom1 120 = .ok (.goto 41, 3) := by decide +kernel
theorem dX12_atom1_123 : decode cX12_atom1 123 = .ok (.aload_n 0, 1) := by decide +kernel
theorem dX12_atom1_124 : decode cX12_atom1 124 = .ok (.getfield 154, 3) := by decide +kernel
theorem dX12_atom1_127 : decode cX12_atom1 127 = .ok (.ifCond .ne 30, 3) := by decide +kernel
theorem dX12_atom1_130 : decode cX12_atom1 130 = .ok (.aload_n 0, 1) := by decide +kernel
theorem dX12_atom1_131 : decode cX12_atom1 131 = .ok (.getfield 137, 3) := by decide +kernel
theorem dX12_atom1_134 : decode cX12_atom1 134 = .ok (.iconst 1, 1) := by decide +kernel
theorem dX12_atom1_135 : decode cX12_atom1 135 = .ok (.if_icmp .ne 22, 3) := by decide +kernel
theorem dX12_atom1_138 : decode cX12_atom1 138 = .ok (.aload_n 0, 1) := by decide +kernel
theorem dX12_atom1_139 : decode cX12_atom1 139 = .ok (.invokevirtual 203, 3) := by decide +kernel
theorem dX12_atom1_142 : decode cX12_atom1 142 = .ok (.istore_n 1, 1) := by decide +kernel
theorem dX12_atom1_143 : decode cX12_atom1 143 = .ok (.aload_n 0, 1) := by decide +kernel
theorem dX12_atom1_144 : decode cX12_atom1 144 = .ok (.getfield 154, 3) := by decide +kernel
theorem dX12_atom1_147 : decode cX12_atom1 147 = .ok (.ifCond .ne 14, 3) := by decide +kernel
theorem dX12_atom1_150 : decode cX12_atom1 150 = .ok (.aload_n 0, 1) := by decide +kernel
theorem dX12_atom1_151 : decode cX12_atom1 151 = .ok (.invokevirtual 171, 3) := by decide +kernel
theorem dX12_atom1_154 : decode cX12_atom1 154 = .ok (.goto 7, 3) := by decide +kernel
theorem dX12_atom1_157 : decode cX12_atom1 157 = .ok (.aload_n 0, 1) := by decide +kernel
theorem dX12_atom1_158 : decode cX12_atom1 158 = .ok (.invokevirtual 168, 3) := by decide +kernel
theorem dX12_atom1_161 : decode cX12_atom1 161 = .ok (.iload_n 1, 1) := by decide +kernel
theorem dX12_atom1_162 : decode cX12_atom1 162 = .ok (.ireturn, 1) := by decide +kernel
set_option maxRecDepth 20000 in
theorem ggX12_term1_X12_atom1 : GoodIn wsX12_term1 wsX12_atom1 := goodIn_r _ [5, 6, 7, 8, 9, 10, 11, 12, 4, 13, 14, 15, 16, 17, 18, 19, 20, 21, 22, 23, 24, 25, 26, 27, 28, 29, 30, 31, 32, 33, 34, 35, 36, 37, 38, 39, 40, 41, 42, 43, 44, 45, 46, 47, 48, 49, 50, 51, 52, 53, 54, 55, 56, 57, 58, 59, 60, 61, 62, 63, 64, 65, 66, 67, 68, 69, 70, 71, 72, 73, 74, 75, 76, 77, 78, 79, 80, 81, 82, 83, 84, 85, 86, 87, 88, 89, 90, 91, 92, 93, 94, 95, 96, 97, 98, 99, 100, 101, 102, 103, 104, 105, 106, 107, 108, 109, 110, 111, 112, 113, 114, 115, 116, 117, 118, 119, 120, 121, 122, 123, 124, 125, 126, 127, 128, 129, 130, 131, 132, 133, 134, 135, 136, 137, 138, 139, 140, 141, 142, 143, 144, 145, 146, 147, 148, 149, 150, 151, 152, 153, 154, 155, 156, 157, 158, 159, 160, 161, 162, 163, 164, 165, 166, 167, 168, 169, 170, 171, 172, 173, 174, 175, 176, 177, 178, 179, 180, 181, 182, 183, 184, 185, 186, 187, 188, 189, 190, 191, 192, 193] (by decide +kernel) (by decide +kernel)
set_option maxRecDepth 20000 in
theorem gX12_term1_X12_atom1 : GoodIn wsX12_term1 (wsV RX12 283 RX12 yX12_atom1 wsX12_atom1) := goodIn_app (goodIn_of _ (by decide +kernel)) ggX12_term1_X12_atom1
set_option maxRecDepth 20000 in
theorem ggX12_term1_X12_isSign : GoodIn wsX12_term1 wsX12_isSign := goodIn_r _ [13, 7, 8, 9, 160, 161, 162, 163, 164, 165, 166, 167, 168, 169, 170, 171, 172, 173, 174, 175, 176, 177, 178, 179, 180, 181, 182, 183, 184, 185, 186, 187, 188, 189, 190, 191, 192, 193] (by decide +kernel) (by decide +kernel)
set_option maxRecDepth 20000 in
theorem gX12_term1_X12_isSign : GoodIn wsX12_term1 (wsV RX12 196 RX12 yX12_isSign wsX12_isSign) := goodIn_app (goodIn_of _ (by decide +kernel)) ggX12_term1_X12_isSign
set_option maxRecDepth 20000 in
theorem ggX12_term1_X12_next : GoodIn wsX12_term1 wsX12_next := goodIn_r _ [27, 28, 22, 8, 29, 30, 31, 32, 33, 9, 34, 35, 36, 37, 4, 38, 39, 40, 41, 42, 43, 160, 161, 162, 163, 164, 165, 166, 167, 168, 169, 170, 171, 172, 173, 174, 175, 176, 177, 178, 179, 180, 181, 182, 183, 184, 185, 186, 187, 188, 189, 190, 191, 192, 193] (by decide +kernel) (by decide +kernel)
set_option maxRecDepth 20000 in
theorem gX12_term1_X12_next : GoodIn wsX12_term1 (wsV RX12 171 RX12 yX12_next wsX12_next) := goodIn_app (goodIn_of _ (by decide +kernel)) ggX12_term1_X12_next
theorem dX12_term1_0 : decode cX12_term1 0 = .ok (.aload_n 0, 1) := by decide +kernel
theorem dX12_term1_1 : decode cX12_term1 1 = .ok (.invokevirtual 283, 3) := by decide +kernel
theorem dX12_term1_4 : decode cX12_term1 4 = .ok (.istore_n 1, 1) := by decide +kernel
theorem dX12_term1_5 : decode cX12_term1 5 = .ok (.aload_n 0, 1) := by decide +kernel
theorem dX12_term1_6 : decode cX12_term1 6 = .ok (.bipush 42, 2) := by decide +kernel
theorem dX12_term1_8 : decode cX12_term1 8 = .ok (.invokevirtual 196, 3) := by decide +kernel
theorem dX12_term1_11 : decode cX12_term1 11 = .ok (.ifCond .eq 17, 3) := by decide +kernel
theorem dX12_term1_14 : decode cX12_term1 14 = .ok (.aload_n 0, 1) := by decide +kernel
theorem dX12_term1_15 : decode cX12_term1 15 = .ok (.invokevirtual 171, 3) := by decide +kernel
theorem dX12_term1_18 : decode cX12_term1 18 = .ok (.iload_n 1, 1) := by decide +kernel
theorem dX12_term1_19 : decode cX12_term1 19 = .ok (.aload_n 0, 1) := by decide +kernel
theorem dX12_term1_20 : decode cX12_term1 20 = .ok (.invokevirtual 283, 3) := by decide +kernel
theorem dX12_term1_23 : decode cX12_term1 23 = .ok (.imul, 1) := by decide +kernel
theorem dX12_term1_24 : decode cX12_term1 24 = .ok (.istore_n 1, 1) := by decide +kernel
theorem dX12_term1_25 : decode cX12_term1 25 = .ok (.goto (-20), 3) := by decide +kernel
theorem dX12_term1_28 : decode cX12_term1 28 = .ok (.iload_n 1, 1) := by decide +kernel
theorem dX12_term1_29 : decode cX12_term1 29 = .ok (.ireturn, 1) := by decide +kernel
set_option maxRecDepth 20000 in
theorem ggX12_added1_X12_term1 : GoodIn wsX12_added1 wsX12_term1 := goodIn_r _ [7, 8, 9, 10, 6, 11, 12, 13, 14, 1, 15, 16, 17, 18, 19, 20, 21, 22, 23, 24, 25, 26, 27, 28, 29, 30, 31, 32, 33, 34, 35, 36, 37, 38, 39, 40, 41, 42, 43, 44, 45, 46, 47, 48, 49, 50, 51, 52, 53, 54, 55, 56, 57, 58, 59, 60, 61, 62, 63, 64, 65, 66, 67, 68, 69, 70, 71, 72, 73, 74, 75, 76, 77, 78, 79, 80, 81, 82, 83, 84, 85, 86, 87, 88, 89, 90, 91, 92, 93, 94, 95, 96, 97, 98, 99, 2, 100, 101, 102, 103, 104, 105, 106, 107, 108, 109, 110, 111, 112, 113, 114, 115, 116, 117, 118, 119, 120, 121, 122, 123, 124, 125, 126, 127, 128, 129, 130, 131, 132, 133, 134, 135, 136, 137, 138, 139, 140, 141, 142, 143, 144, 145, 146, 147, 148, 149, 150, 151, 152, 153, 154, 155, 156, 157, 158, 159, 160, 161, 162, 163, 164, 165, 166, 167, 168, 169, 170, 171, 172, 173, 174, 175, 176, 177, 178, 179, 180, 181, 182, 183, 184, 185, 186, 187, 188, 189, 190, 191, 192, 193, 194, 195, 196, 197] (by decide +kernel) (by decide +kernel)
set_option maxRecDepth 20000 in
theorem gX12_added1_X12_term1 : GoodIn wsX12_added1 (wsV RX12 286 RX12 yX12_term1 wsX12_term1) := goodIn_app (goodIn_of _ (by decide +kernel)) ggX12_added1_X12_term1
set_option maxRecDepth 20000 in
theorem ggX12_added1_X12_isSign : GoodIn wsX12_added1 wsX12_isSign := goodIn_r _ [18, 13, 14, 1, 164, 165, 166, 167, 168, 169, 170, 171, 172, 173, 174, 175, 176, 177, 178, 179, 180, 181, 182, 183, 184, 185, 186, 187, 188, 189, 190, 191, 192, 193, 194, 195, 196, 197] (by decide +kernel) (by decide +kernel)
set_option maxRecDepth 20000 in
theorem gX12_added1_X12_isSign : GoodIn wsX12_added1 (wsV RX12 196 RX12 yX12_isSign wsX12_isSign) := goodIn_app (goodIn_of _ (by decide +kernel)) ggX12_added1_X12_isSign
set_option maxRecDepth 20000 in
theorem ggX12_added1_X12_next : GoodIn wsX12_added1 wsX12_next := goodIn_r _ [32, 33, 27, 14, 34, 35, 36, 37, 38, 1, 39, 40, 41, 42, 6, 43, 44, 45, 46, 47, 48, 164, 165, 166, 167, 168, 169, 170, 171, 172, 173, 174, 175, 176, 177, 178, 179, 180, 181, 182, 183, 184, 185, 186, 187, 188, 189, 190, 191, 192, 193, 194, 195, 196, 197] (by decide +kernel) (by decide +kernel)
set_option maxRecDepth 20000 in
theorem gX12_added1_X12_next : GoodIn wsX12_added1 (wsV RX12 171 RX12 yX12_next wsX12_next) := goodIn_app (goodIn_of _ (by decide +kernel)) ggX12_added1_X12_next
theorem dX12_added1_0 : decode cX12_added1 0 = .ok (.aload_n 0, 1) := by decide +kernel
theorem dX12_added1_1 : decode cX12_added1 1 = .ok (.invokevirtual 286, 3) := by decide +kernel
theorem dX12_added1_4 : decode cX12_added1 4 = .ok (.istore_n 1, 1) := by decide +kernel
theorem dX12_added1_5 : decode cX12_added1 5 = .ok (.aload_n 0, 1) := by decide +kernel
theorem dX12_added1_6 : decode cX12_added1 6 = .ok (.bipush 43, 2) := by decide +kernel
theorem dX12_added1_8 : decode cX12_added1 8 = .ok (.invokevirtual 196, 3) := by decide +kernel
theorem dX12_added1_11 : decode cX12_added1 11 = .ok (.ifCond .ne 12, 3) := by decide +kernel
theorem dX12_added1_14 : decode cX12_added1 14 = .ok (.aload_n 0, 1) := by decide +kernel
theorem dX12_added1_15 : decode cX12_added1 15 = .ok (.bipush 45, 2) := by decide +kernel
theorem dX12_added1_17 : decode cX12_added1 17 = .ok (.invokevirtual 196, 3) := by decide +kernel
theorem dX12_added1_20 : decode cX12_added1 20 = .ok (.ifCond .eq 46, 3) := by decide +kernel
theorem dX12_added1_23 : decode cX12_added1 23 = .ok (.aload_n 0, 1) := by decide +kernel
theorem dX12_added1_24 : decode cX12_added1 24 = .ok (.getfield 148, 3) := by decide +kernel
theorem dX12_added1_27 : decode cX12_added1 27 = .ok (.ldc2_w 213, 3) := by decide +kernel
theorem dX12_added1_30 : decode cX12_added1 30 = .ok (.lcmp, 1) := by decide +kernel
theorem dX12_added1_31 : decode cX12_added1 31 = .ok (.ifCond .ne 7, 3) := by decide +kernel
theorem dX12_added1_34 : decode cX12_added1 34 = .ok (.iconst 1, 1) := by decide +kernel
theorem dX12_added1_35 : decode cX12_added1 35 = .ok (.goto 4, 3) := by decide +kernel
theorem dX12_added1_38 : decode cX12_added1 38 = .ok (.iconst 0, 1) := by decide +kernel
theorem dX12_added1_39 : decode cX12_added1 39 = .ok (.istore_n 2, 1) := by decide +kernel
theorem dX12_added1_40 : decode cX12_added1 40 = .ok (.aload_n 0, 1) := by decide +kernel
theorem dX12_added1_41 : decode cX12_added1 41 = .ok (.invokevirtual 171, 3) := by decide +kernel
theorem dX12_added1_44 : decode cX12_added1 44 = .ok (.aload_n 0, 1) := by decide +kernel
theorem dX12_added1_45 : decode cX12_added1 45 = .ok (.invokevirtual 286, 3) := by decide +kernel
theorem dX12_added1_48 : decode cX12_added1 48 = .ok (.istore_n 3, 1) := by decide +kernel
theorem dX12_added1_49 : decode cX12_added1 49 = .ok (.iload_n 2, 1) := by decide +kernel
theorem dX12_added1_50 : decode cX12_added1 50 = .ok (.ifCond .eq 9, 3) := by decide +kernel
theorem dX12_added1_53 : decode cX12_added1 53 = .ok (.iload_n 1, 1) := by decide +kernel
theorem dX12_added1_54 : decode cX12_added1 54 = .ok (.iload_n 3, 1) := by decide +kernel
theorem dX12_added1_55 : decode cX12_added1 55 = .ok (.iadd, 1) := by decide +kernel
theorem dX12_added1_56 : decode cX12_added1 56 = .ok (.goto 6, 3) := by decide +kernel
theorem dX12_added1_59 : decode cX12_added1 59 = .ok (.iload_n 1, 1) := by decide +kernel
theorem dX12_added1_60 : decode cX12_added1 60 = .ok (.iload_n 3, 1) := by decide +kernel
theorem dX12_added1_61 : decode cX12_added1 61 = .ok (.isub, 1) := by decide +kernel
theorem dX12_added1_62 : decode cX12_added1 62 = .ok (.istore_n 1, 1) := by decide +kernel
theorem dX12_added1_63 : decode cX12_added1 63 = .ok (.goto (-58), 3) := by decide +kernel
theorem dX12_added1_66 : decode cX12_added1 66 = .ok (.iload_n 1, 1) := by decide +kernel
theorem dX12_added1_67 : decode cX12_added1 67 = .ok (.ireturn, 1) := by decide +kernel
set_option maxRecDepth 20000 in
theorem ggX12_not1_X12_isWord : GoodIn wsX12_not1 wsX12_isWord := goodIn_r _ [8, 9, 10, 11, 12, 13, 14, 15, 7, 16, 17, 18, 19, 20, 21, 22, 23, 168, 169, 170, 171, 172, 173, 174, 175, 176, 177, 178, 179, 180, 181, 182, 183, 184, 185, 186, 187, 188, 189, 190, 191, 192, 193, 194, 195, 196, 197, 198, 199, 200, 201] (by decide +kernel) (by decide +kernel)
set_option maxRecDepth 20000 in
theorem gX12_not1_X12_isWord : GoodIn wsX12_not1 (wsV RX12 174 RX12 yX12_isWord wsX12_isWord) := goodIn_app (goodIn_of _ (by decide +kernel)) ggX12_not1_X12_isWord
set_option maxRecDepth 20000 in
theorem ggX12_not1_X12_opens : GoodIn wsX12_not1 wsX12_opens := goodIn_r _ [27, 1, 28, 29, 30, 7, 31, 9, 12, 32, 33, 34, 35, 36, 11, 10, 21, 37, 38, 39, 40, 2, 41, 17, 18, 19, 20, 22, 23, 42, 43, 44, 168, 169, 170, 171, 172, 173, 174, 175, 176, 177, 178, 179, 180, 181, 182, 183, 184, 185, 186, 187, 188, 189, 190, 191, 192, 193, 194, 195, 196, 197, 198, 199, 200, 201] (by decide +kernel) (by decide +kernel)
set_option maxRecDepth 20000 in
theorem gX12_not1_X12_opens : GoodIn wsX12_not1 (wsV RX12 199 RX12 yX12_opens wsX12_opens) := goodIn_app (goodIn_of _ (by decide +kernel)) ggX12_not1_X12_opens
set_option maxRecDepth 20000 in
theorem ggX12_not1_X12_not2 : GoodIn wsX12_not1 wsX12_not2 := goodIn_r _ [48, 1, 2, 3, 4, 5, 6, 7, 8, 9, 10, 11, 12, 13, 14, 15, 16, 17, 18, 19, 20, 21, 22, 23, 24, 25, 26, 27, 28, 29, 30, 31, 32, 33, 34, 35, 36, 37, 38, 39, 40, 41, 42, 43, 44, 49, 50, 51, 52, 53, 54, 55, 56, 57, 58, 59, 60, 61, 62, 63, 64, 65, 66, 67, 68, 69, 70, 71, 72, 73, 74, 75, 76, 77, 78, 79, 80, 81, 82, 83, 84, 85, 86, 87, 88, 89, 90, 91, 92, 93, 94, 95, 96, 97, 98, 99, 100, 101, 102, 103, 104, 105, 106, 107, 108, 109, 110, 111, 112, 113, 114, 115, 116, 117, 118, 119, 120, 121, 122, 123, 124, 125, 126, 127, 128, 129, 130, 131, 132, 133, 134, 135, 136, 137, 138, 139, 140, 141, 142, 143, 144, 145, 146, 147, 168, 169, 170, 171, 172, 173, 174, 175, 176, 177, 178, 179, 180, 181, 182, 183, 184, 185, 186, 187, 188, 189, 190, 191, 192, 193, 194, 195, 196, 197, 198, 199, 200, 201] (by decide +kernel) (by decide +kernel)
set_option maxRecDepth 20000 in
theorem gX12_not1_X12_not2 : GoodIn wsX12_not1 (wsV RX12 274 RX12 yX12_not2 wsX12_not2) := goodIn_app (goodIn_of _ (by decide +kernel)) ggX12_not1_X12_not2
set_option maxRecDepth 20000 in
theorem ggX12_not1_X12_added1 : GoodIn wsX12_not1 wsX12_added1 := goodIn_r _ [151, 2, 65, 152, 153, 154, 7, 155, 156, 157, 158, 159, 1, 9, 10, 74, 75, 76, 77, 24, 25, 26, 27, 28, 29, 30, 31, 12, 32, 33, 34, 35, 36, 11, 21, 37, 38, 39, 40, 41, 17, 18, 19, 20, 22, 23, 42, 43, 44, 136, 137, 138, 139, 116, 117, 118, 119, 96, 97, 98, 99, 70, 71, 72, 73, 78, 79, 80, 81, 82, 83, 84, 85, 86, 87, 4, 5, 6, 8, 13, 14, 15, 16, 100, 101, 102, 103, 104, 105, 106, 107, 57, 58, 59, 60, 3, 61, 62, 63, 64, 66, 67, 68, 69, 120, 121, 122, 123, 124, 125, 126, 127, 53, 54, 55, 56, 88, 89, 90, 91, 92, 93, 94, 95, 140, 141, 142, 143, 144, 145, 146, 147, 49, 50, 51, 52, 108, 109, 110, 111, 112, 113, 114, 115, 160, 161, 162, 163, 164, 165, 166, 167, 45, 46, 47, 48, 128, 129, 130, 131, 132, 133, 134, 135, 168, 169, 170, 171, 172, 173, 174, 175, 176, 177, 178, 179, 180, 181, 182, 183, 184, 185, 186, 187, 188, 189, 190, 191, 192, 193, 194, 195, 196, 197, 198, 199, 200, 201] (by decide +kernel) (by decide +kernel)
set_option maxRecDepth 20000 in
theorem gX12_not1_X12_added1 : GoodIn wsX12_not1 (wsV RX12 289 RX12 yX12_added1 wsX12_added1) := goodIn_app (goodIn_of _ (by decide +kernel)) ggX12_not1_X12_added1
set_option maxRecDepth 20000 in
theorem ggX12_not1_X12_isSign : GoodIn wsX12_not1 wsX12_isSign := goodIn_r _ [77, 9, 10, 2, 168, 169, 170, 171, 172, 173, 174, 175, 176, 177, 178, 179, 180, 181, 182, 183, 184, 185, 186, 187, 188, 189, 190, 191, 192, 193, 194, 195, 196, 197, 198, 199, 200, 201] (by decide +kernel) (by decide +kernel)
set_option maxRecDepth 20000 in
theorem gX12_not1_X12_isSign : GoodIn wsX12_not1 (wsV RX12 196 RX12 yX12_isSign wsX12_isSign) := goodIn_app (goodIn_of _ (by decide +kernel)) ggX12_not1_X12_isSign
set_option maxRecDepth 20000 in
theorem ggX12_not1_X12_next : GoodIn wsX12_not1 wsX12_next := goodIn_r _ [36, 11, 12, 10, 21, 37, 38, 39, 40, 2, 41, 17, 18, 19, 7, 20, 22, 23, 42, 43, 44, 168, 169, 170, 171, 172, 173, 174, 175, 176, 177, 178, 179, 180, 181, 182, 183, 184, 185, 186, 187, 188, 189, 190, 191, 192, 193, 194, 195, 196, 197, 198, 199, 200, 201] (by decide +kernel) (by decide +kernel)
set_option maxRecDepth 20000 in
theorem gX12_not1_X12_next : GoodIn wsX12_not1 (wsV RX12 171 RX12 yX12_next wsX12_next) := goodIn_app (goodIn_of _ (by decide +kernel)) ggX12_not1_X12_next
theorem dX12_not1_0 : decode cX12_not1 0 = .ok (.aload_n 0, 1) := by decide +kernel
theorem dX12_not1_1 : decode cX12_not1 1 = .ok (.bipush 110, 2) := by decide +kernel
theorem dX12_not1_3 : decode cX12_not1 3 = .ok (.bipush 111, 2) := by decide +kernel
theorem dX12_not1_5 : decode cX12_not1 5 = .ok (.bipush 116, 2) := by decide +kernel
theorem dX12_not1_7 : decode cX12_not1 7 = .ok (.iconst 0, 1) := by decide +kernel
theorem dX12_not1_8 : decode cX12_not1 8 = .ok (.iconst 0, 1) := by decide +kernel
theorem dX12_not1_9 : decode cX12_not1 9 = .ok (.iconst 0, 1) := by decide +kernel
theorem dX12_not1_10 : decode cX12_not1 10 = .ok (.iconst 0, 1) := by decide +kernel
theorem dX12_not1_11 : decode cX12_not1 11 = .ok (.iconst 0, 1) := by decide +kernel
theorem dX12_not1_12 : decode cX12_not1 12 = .ok (.invokevirtual 174, 3) := by decide +kernel
theorem dX12_not1_15 : decode cX12_not1 15 = .ok (.ifCond .eq 37, 3) := by decide +kernel
theorem dX12_not1_18 : decode cX12_not1 18 = .ok (.aload_n 0, 1) := by decide +kernel
theorem dX12_not1_19 : decode cX12_not1 19 = .ok (.invokevirtual 199, 3) := by decide +kernel
theorem dX12_not1_22 : decode cX12_not1 22 = .ok (.ifCond .ne 5, 3) := by decide +kernel
theorem dX12_not1_25 : decode cX12_not1 25 = .ok (.iconst 0, 1) := by decide +kernel
theorem dX12_not1_26 : decode cX12_not1 26 = .ok (.ireturn, 1) := by decide +kernel
theorem dX12_not1_27 : decode cX12_not1 27 = .ok (.aload_n 0, 1) := by decide +kernel
theorem dX12_not1_28 : decode cX12_not1 28 = .ok (.invokevirtual 274, 3) := by decide +kernel
theorem dX12_not1_31 : decode cX12_not1 31 = .ok (.istore_n 1, 1) := by decide +kernel
theorem dX12_not1_32 : decode cX12_not1 32 = .ok (.aload_n 0, 1) := by decide +kernel
theorem dX12_not1_33 : decode cX12_not1 33 = .ok (.dup, 1) := by decide +kernel
theorem dX12_not1_34 : decode cX12_not1 34 = .ok (.getfield 165, 3) := by decide +kernel
theorem dX12_not1_37 : decode cX12_not1 37 = .ok (.iconst 1, 1) := by decide +kernel
theorem dX12_not1_38 : decode cX12_not1 38 = .ok (.isub, 1) := by decide +kernel
theorem dX12_not1_39 : decode cX12_not1 39 = .ok (.putfield 165, 3) := by decide +kernel
theorem dX12_not1_42 : decode cX12_not1 42 = .ok (.iload_n 1, 1) := by decide +kernel
theorem dX12_not1_43 : decode cX12_not1 43 = .ok (.ifCond .ne 7, 3) := by decide +kernel
theorem dX12_not1_46 : decode cX12_not1 46 = .ok (.iconst 1, 1) := by decide +kernel
theorem dX12_not1_47 : decode cX12_not1 47 = .ok (.goto 4, 3) := by decide +kernel
theorem dX12_not1_50 : decode cX12_not1 50 = .ok (.iconst 0, 1) := by decide +kernel
theorem dX12_not1_51 : decode cX12_not1 51 = .ok (.ireturn, 1) := by decide +kernel
theorem dX12_not1_52 : decode cX12_not1 52 = .ok (.aload_n 0, 1) := by decide +kernel
theorem dX12_not1_53 : decode cX12_not1 53 = .ok (.invokevirtual 289, 3) := by decide +kernel
theorem dX12_not1_56 : decode cX12_not1 56 = .ok (.istore_n 1, 1) := by decide +kernel
theorem dX12_not1_57 : decode cX12_not1 57 = .ok (.aload_n 0, 1) := by decide +kernel
theorem dX12_not1_58 : decode cX12_not1 58 = .ok (.bipush 60, 2) := by decide +kernel
theorem dX12_not1_60 : decode cX12_not1 60 = .ok (.invokevirtual 196, 3) := by decide +kernel
theorem dX12_not1_63 : decode cX12_not1 63 = .ok (.ifCond .ne 14, 3) := by decide +kernel
theorem dX12_not1_66 : decode cX12_not1 66 = .ok (.aload_n 0, 1) := by decide +kernel
theorem dX12_not1_67 : decode cX12_not1 67 = .ok (.bipush 61, 2) := by decide +kernel
theorem dX12_not1_69 : decode cX12_not1 69 = .ok (.invokevirtual 196, 3) := by decide +kernel
theorem dX12_not1_72 : decode cX12_not1 72 = .ok (.ifCond .ne 5, 3) := by decide +kernel
theorem dX12_not1_75 : decode cX12_not1 75 = .ok (.iload_n 1, 1) := by decide +kernel
theorem dX12_not1_76 : decode cX12_not1 76 = .ok (.ireturn, 1) := by decide +kernel
theorem dX12_not1_77 : decode cX12_not1 77 = .ok (.aload_n 0, 1) := by decide +kernel
theorem dX12_not1_78 : decode cX12_not1 78 = .ok (.getfield 148, 3) := by decide +kernel
theorem dX12_not1_81 : decode cX12_not1 81 = .ok (.ldc2_w 218, 3) := by decide +kernel
theorem dX12_not1_84 : decode cX12_not1 84 = .ok (.lcmp, 1) := by decide +kernel
theorem dX12_not1_85 : decode cX12_not1 85 = .ok (.ifCond .ne 7, 3) := by decide +kernel
theorem dX12_not1_88 : decode cX12_not1 88 = .ok (.iconst 1, 1) := by decide +kernel
theorem dX12_not1_89 : decode cX12_not1 89 = .ok (.goto 4, 3) := by decide +kernel
theorem dX12_not1_92 : decode cX12_not1 92 = .ok (.iconst 0, 1) := by decide +kernel
theorem dX12_not1_93 : decode cX12_not1 93 = .ok (.istore_n 2, 1) := by decide +kernel
theorem dX12_not1_94 : decode cX12_not1 94 = .ok (.aload_n 0, 1) := by decide +kernel
theorem dX12_not1_95 : decode cX12_not1 95 = .ok (.invokevirtual 171, 3) := by decide +kernel
theorem dX12_not1_98 : decode cX12_not1 98 = .ok (.aload_n 0, 1) := by decide +kernel
theorem dX12_not1_99 : decode cX12_not1 99 = .ok (.invokevirtual 289, 3) := by decide +kernel
theorem dX12_not1_102 : decode cX12_not1 102 = .ok (.istore_n 3, 1) := by decide +kernel
theorem dX12_not1_103 : decode cX12_not1 103 = .ok (.iload_n 2, 1) := by decide +kernel
theorem dX12_not1_104 : decode cX12_not1 104 = .ok (.ifCond .eq 11, 3) := by decide +kernel
theorem dX12_not1_107 : decode cX12_not1 107 = .ok (.iload_n 1, 1) := by decide +kernel
theorem dX12_not1_108 : decode cX12_not1 108 = .ok (.iload_n 3, 1) := by decide +kernel
theorem dX12_not1_109 : decode cX12_not1 109 = .ok (.if_icmp .ge 15, 3) := by decide +kernel
theorem dX12_not1_112 : decode cX12_not1 112 = .ok (.goto 8, 3) := by decide +kernel
theorem dX12_not1_115 : decode cX12_not1 115 = .ok (.iload_n 1, 1) := by decide +kernel
theorem dX12_not1_116 : decode cX12_not1 116 = .ok (.iload_n 3, 1) := by decide +kernel
theorem dX12_not1_117 : decode cX12_not1 117 = .ok (.if_icmp .ne 7, 3) := by decide +kernel
theorem dX12_not1_120 : decode cX12_not1 120 = .ok (.iconst 1, 1) := by decide +kernel
theorem dX12_not1_121 : decode cX12_not1 121 = .ok (.goto 4, 3) := by decide +kernel
theorem dX12_not1_124 : decode cX12_not1 124 = .ok (.iconst 0, 1) := by decide +kernel
theorem dX12_not1_125 : decode cX12_not1 125 = .ok (.ireturn, 1) := by decide +kernel
set_option maxRecDepth 20000 in
theorem ggX12_both1_X12_not1 : GoodIn wsX12_both1 wsX12_not1 := goodIn_r _ [5, 6, 7, 8, 9, 10, 11, 4, 12, 13, 14, 15, 16, 17, 18, 19, 20, 21, 22, 23, 24, 25, 26, 27, 28, 29, 30, 31, 32, 33, 34, 35, 36, 37, 38, 39, 40, 41, 42, 43, 44, 45, 46, 47, 48, 49, 50, 51, 52, 53, 54, 55, 56, 57, 58, 59, 60, 61, 62, 63, 64, 65, 66, 67, 68, 69, 70, 71, 72, 73, 74, 75, 76, 77, 78, 79, 80, 81, 82, 83, 84, 85, 86, 87, 88, 89, 90, 91, 92, 93, 94, 95, 96, 97, 98, 99, 100, 101, 102, 103, 104, 105, 106, 107, 108, 109, 110, 111, 112, 113, 114, 115, 116, 117, 118, 119, 120, 121, 122, 123, 124, 125, 126, 127, 128, 129, 130, 131, 132, 133, 134, 135, 136, 137, 138, 139, 140, 141, 142, 143, 144, 145, 146, 147, 148, 149, 150, 151, 152, 153, 154, 155, 156, 157, 158, 159, 160, 161, 162, 163, 164, 165, 166, 167, 168, 169, 170, 171, 172, 173, 174, 175, 176, 177, 178, 179, 180, 181, 182, 183, 184, 185, 186, 187, 188, 189, 190, 191, 192, 193, 194, 195, 196, 197, 198, 199, 200, 201, 202, 203, 204, 205] (by decide +kernel) (by decide +kernel)
set_option maxRecDepth 20000 in
theorem gX12_both1_X12_not1 : GoodIn wsX12_both1 (wsV RX12 292 RX12 yX12_not1 wsX12_not1) := goodIn_app (goodIn_of _ (by decide +kernel)) ggX12_both1_X12_not1
set_option maxRecDepth 20000 in
theorem ggX12_both1_X12_isWord : GoodIn wsX12_both1 wsX12_isWord := goodIn_r _ [12, 13, 14, 15, 16, 17, 18, 19, 4, 20, 21, 22, 23, 24, 25, 26, 27, 172, 173, 174, 175, 176, 177, 178, 179, 180, 181, 182, 183, 184, 185, 186, 187, 188, 189, 190, 191, 192, 193, 194, 195, 196, 197, 198, 199, 200, 201, 202, 203, 204, 205] (by decide +kernel) (by decide +kernel)
set_option maxRecDepth 20000 in
theorem gX12_both1_X12_isWord : GoodIn wsX12_both1 (wsV RX12 174 RX12 yX12_isWord wsX12_isWord) := goodIn_app (goodIn_of _ (by decide +kernel)) ggX12_both1_X12_isWord
set_option maxRecDepth 20000 in
theorem ggX12_both1_X12_next : GoodIn wsX12_both1 wsX12_next := goodIn_r _ [40, 15, 16, 14, 25, 41, 42, 43, 44, 7, 45, 21, 22, 23, 4, 24, 26, 27, 46, 47, 48, 172, 173, 174, 175, 176, 177, 178, 179, 180, 181, 182, 183, 184, 185, 186, 187, 188, 189, 190, 191, 192, 193, 194, 195, 196, 197, 198, 199, 200, 201, 202, 203, 204, 205] (by decide +kernel) (by decide +kernel)
set_option maxRecDepth 20000 in
theorem gX12_both1_X12_next : GoodIn wsX12_both1 (wsV RX12 171 RX12 yX12_next wsX12_next) := goodIn_app (goodIn_of _ (by decide +kernel)) ggX12_both1_X12_next
theorem dX12_both1_0 : decode cX12_both1 0 = .ok (.aload_n 0, 1) := by decide +kernel
theorem dX12_both1_1 : decode cX12_both1 1 = .ok (.invokevirtual 292, 3) := by decide +kernel
theorem dX12_both1_4 : decode cX12_both1 4 = .ok (.istore_n 1, 1) := by decide +kernel
theorem dX12_both1_5 : decode cX12_both1 5 = .ok (.aload_n 0, 1) := by decide +kernel
theorem dX12_both1_6 : decode cX12_both1 6 = .ok (.bipush 97, 2) := by decide +kernel
theorem dX12_both1_8 : decode cX12_both1 8 = .ok (.bipush 110, 2) := by decide +kernel
theorem dX12_both1_10 : decode cX12_both1 10 = .ok (.bipush 100, 2) := by decide +kernel
theorem dX12_both1_12 : decode cX12_both1 12 = .ok (.iconst 0, 1) := by decide +kernel
theorem dX12_both1_13 : decode cX12_both1 13 = .ok (.iconst 0, 1) := by decide +kernel
theorem dX12_both1_14 : decode cX12_both1 14 = .ok (.iconst 0, 1) := by decide +kernel
theorem dX12_both1_15 : decode cX12_both1 15 = .ok (.iconst 0, 1) := by decide +kernel
theorem dX12_both1_16 : decode cX12_both1 16 = .ok (.iconst 0, 1) := by decide +kernel
theorem dX12_both1_17 : decode cX12_both1 17 = .ok (.invokevirtual 174, 3) := by decide +kernel
theorem dX12_both1_20 : decode cX12_both1 20 = .ok (.ifCond .eq 29, 3) := by decide +kernel
theorem dX12_both1_23 : decode cX12_both1 23 = .ok (.aload_n 0, 1) := by decide +kernel
theorem dX12_both1_24 : decode cX12_both1 24 = .ok (.invokevirtual 171, 3) := by decide +kernel
theorem dX12_both1_27 : decode cX12_both1 27 = .ok (.aload_n 0, 1) := by decide +kernel
theorem dX12_both1_28 : decode cX12_both1 28 = .ok (.invokevirtual 292, 3) := by decide +kernel
theorem dX12_both1_31 : decode cX12_both1 31 = .ok (.istore_n 2, 1) := by decide +kernel
theorem dX12_both1_32 : decode cX12_both1 32 = .ok (.iload_n 1, 1) := by decide +kernel
theorem dX12_both1_33 : decode cX12_both1 33 = .ok (.ifCond .eq 11, 3) := by decide +kernel
theorem dX12_both1_36 : decode cX12_both1 36 = .ok (.iload_n 2, 1) := by decide +kernel
theorem dX12_both1_37 : decode cX12_both1 37 = .ok (.ifCond .eq 7, 3) := by decide +kernel
theorem dX12_both1_40 : decode cX12_both1 40 = .ok (.iconst 1, 1) := by decide +kernel
theorem dX12_both1_41 : decode cX12_both1 41 = .ok (.goto 4, 3) := by decide +kernel
theorem dX12_both1_44 : decode cX12_both1 44 = .ok (.iconst 0, 1) := by decide +kernel
theorem dX12_both1_45 : decode cX12_both1 45 = .ok (.istore_n 1, 1) := by decide +kernel
theorem dX12_both1_46 : decode cX12_both1 46 = .ok (.goto (-41), 3) := by decide +kernel
theorem dX12_both1_49 : decode cX12_both1 49 = .ok (.iload_n 1, 1) := by decide +kernel
theorem dX12_both1_50 : decode cX12_both1 50 = .ok (.ireturn, 1) := by decide +kernel
set_option maxRecDepth 20000 in
theorem ggX12_either1_X12_both1 : GoodIn wsX12_either1 wsX12_both1 := goodIn_r _ [5, 6, 7, 8, 4, 9, 10, 11, 12, 13, 14, 15, 16, 17, 18, 19, 20, 21, 22, 23, 24, 25, 26, 27, 28, 29, 30, 31, 32, 33, 34, 35, 36, 37, 38, 39, 40, 41, 42, 43, 44, 45, 46, 47, 48, 49, 50, 51, 52, 53, 54, 55, 56, 57, 58, 59, 60, 61, 62, 63, 64, 65, 66, 67, 68, 69, 70, 71, 72, 73, 74, 75, 76, 77, 78, 79, 80, 81, 82, 83, 84, 85, 86, 87, 88, 89, 90, 91, 92, 93, 94, 95, 96, 97, 98, 99, 100, 101, 102, 103, 104, 105, 106, 107, 108, 109, 110, 111, 112, 113, 114, 115, 116, 117, 118, 119, 120, 121, 122, 123, 124, 125, 126, 127, 128, 129, 130, 131, 132, 133, 134, 135, 136, 137, 138, 139, 140, 141, 142, 143, 144, 145, 146, 147, 148, 149, 150, 151, 152, 153, 154, 155, 156, 157, 158, 159, 160, 161, 162, 163, 164, 165, 166, 167, 168, 169, 170, 171, 172, 173, 174, 175, 176, 177, 178, 179, 180, 181, 182, 183, 184, 185, 186, 187, 188, 189, 190, 191, 192, 193, 194, 195, 196, 197, 198, 199, 200, 201, 202, 203, 204, 205, 206, 207, 208, 209] (by decide +kernel) (by decide +kernel)
set_option maxRecDepth 20000 in
theorem gX12_either1_X12_both1 : GoodIn wsX12_either1 (wsV RX12 295 RX12 yX12_both1 wsX12_both1) := goodIn_app (goodIn_of _ (by decide +kernel)) ggX12_either1_X12_both1
set_option maxRecDepth 20000 in
theorem ggX12_either1_X12_isWord : GoodIn wsX12_either1 wsX12_isWord := goodIn_r _ [16, 17, 18, 19, 20, 21, 22, 23, 4, 24, 25, 26, 27, 28, 29, 30, 31, 176, 177, 178, 179, 180, 181, 182, 183, 184, 185, 186, 187, 188, 189, 190, 191, 192, 193, 194, 195, 196, 197, 198, 199, 200, 201, 202, 203, 204, 205, 206, 207, 208, 209] (by decide +kernel) (by decide +kernel)
set_option maxRecDepth 20000 in
theorem gX12_either1_X12_isWord : GoodIn wsX12_either1 (wsV RX12 174 RX12 yX12_isWord wsX12_isWord) := goodIn_app (goodIn_of _ (by decide +kernel)) ggX12_either1_X12_isWord
set_option maxRecDepth 20000 in
theorem ggX12_either1_X12_next : GoodIn wsX12_either1 wsX12_next := goodIn_r _ [44, 19, 20, 18, 29, 45, 46, 47, 48, 11, 49, 25, 26, 27, 4, 28, 30, 31, 50, 51, 52, 176, 177, 178, 179, 180, 181, 182, 183, 184, 185, 186, 187, 188, 189, 190, 191, 192, 193, 194, 195, 196, 197, 198, 199, 200, 201, 202, 203, 204, 205, 206, 207, 208, 209] (by decide +kernel) (by decide +kernel)
set_option maxRecDepth 20000 in
theorem gX12_either1_X12_next : GoodIn wsX12_either1 (wsV RX12 171 RX12 yX12_next wsX12_next) := goodIn_app (goodIn_of _ (by decide +kernel)) ggX12_either1_X12_next
theorem dX12_either1_0 : decode cX12_either1 0 = .ok (.aload_n 0, 1) := by decide +kernel
theorem dX12_either1_1 : decode cX12_either1 1 = .ok (.invokevirtual 295, 3) := by decide +kernel
theorem dX12_either1_4 : decode cX12_either1 4 = .ok (.istore_n 1, 1) := by decide +kernel
theorem dX12_either1_5 : decode cX12_either1 5 = .ok (.aload_n 0, 1) := by decide +kernel
theorem dX12_either1_6 : decode cX12_either1 6 = .ok (.bipush 111, 2) := by decide +kernel
theorem dX12_either1_8 : decode cX12_either1 8 = .ok (.bipush 114, 2) := by decide +kernel
theorem dX12_either1_10 : decode cX12_either1 10 = .ok (.iconst 0, 1) := by decide +kernel
theorem dX12_either1_11 : decode cX12_either1 11 = .ok (.iconst 0, 1) := by decide +kernel
theorem dX12_either1_12 : decode cX12_either1 12 = .ok (.iconst 0, 1) := by decide +kernel
theorem dX12_either1_13 : decode cX12_either1 13 = .ok (.iconst 0, 1) := by decide +kernel
theorem dX12_either1_14 : decode cX12_either1 14 = .ok (.iconst 0, 1) := by decide +kernel
theorem dX12_either1_15 : decode cX12_either1 15 = .ok (.iconst 0, 1) := by decide +kernel
theorem dX12_either1_16 : decode cX12_either1 16 = .ok (.invokevirtual 174, 3) := by decide +kernel
theorem dX12_either1_19 : decode cX12_either1 19 = .ok (.ifCond .eq 29, 3) := by decide +kernel
theorem dX12_either1_22 : decode cX12_either1 22 = .ok (.aload_n 0, 1) := by decide +kernel
theorem dX12_either1_23 : decode cX12_either1 23 = .ok (.invokevirtual 171, 3) := by decide +kernel
theorem dX12_either1_26 : decode cX12_either1 26 = .ok (.aload_n 0, 1) := by decide +kernel
theorem dX12_either1_27 : decode cX12_either1 27 = .ok (.invokevirtual 295, 3) := by decide +kernel
theorem dX12_either1_30 : decode cX12_either1 30 = .ok (.istore_n 2, 1) := by decide +kernel
theorem dX12_either1_31 : decode cX12_either1 31 = .ok (.iload_n 1, 1) := by decide +kernel
theorem dX12_either1_32 : decode cX12_either1 32 = .ok (.ifCond .ne 7, 3) := by decide +kernel
theorem dX12_either1_35 : decode cX12_either1 35 = .ok (.iload_n 2, 1) := by decide +kernel
theorem dX12_either1_36 : decode cX12_either1 36 = .ok (.ifCond .eq 7, 3) := by decide +kernel
theorem dX12_either1_39 : decode cX12_either1 39 = .ok (.iconst 1, 1) := by decide +kernel
theorem dX12_either1_40 : decode cX12_either1 40 = .ok (.goto 4, 3) := by decide +kernel
theorem dX12_either1_43 : decode cX12_either1 43 = .ok (.iconst 0, 1) := by decide +kernel
theorem dX12_either1_44 : decode cX12_either1 44 = .ok (.istore_n 1, 1) := by decide +kernel
theorem dX12_either1_45 : decode cX12_either1 45 = .ok (.goto (-40), 3) := by decide +kernel
theorem dX12_either1_48 : decode cX12_either1 48 = .ok (.iload_n 1, 1) := by decide +kernel
theorem dX12_either1_49 : decode cX12_either1 49 = .ok (.ireturn, 1) := by decide +kernel
set_option maxRecDepth 20000 in
theorem ggX12_atom0_X12_isSign : GoodIn wsX12_atom0 wsX12_isSign := goodIn_r _ [9, 2, 3, 4, 180, 181, 182, 183, 184, 185, 186, 187, 188, 189, 190, 191, 192, 193, 194, 195, 196, 197, 198, 199, 200, 201, 202, 203, 204, 205, 206, 207, 208, 209, 210, 211, 212, 213] (by decide +kernel) (by decide +kernel)
set_option maxRecDepth 20000 in
theorem gX12_atom0_X12_isSign : GoodIn wsX12_atom0 (wsV RX12 196 RX12 yX12_isSign wsX12_isSign) := goodIn_app (goodIn_of _ (by decide +kernel)) ggX12_atom0_X12_isSign
set_option maxRecDepth 20000 in
theorem ggX12_atom0_X12_opens : GoodIn wsX12_atom0 wsX12_opens := goodIn_r _ [13, 1, 14, 15, 16, 8, 17, 2, 18, 19, 20, 21, 22, 23, 24, 3, 25, 26, 27, 28, 29, 4, 30, 31, 32, 33, 34, 35, 36, 37, 38, 39, 180, 181, 182, 183, 184, 185, 186, 187, 188, 189, 190, 191, 192, 193, 194, 195, 196, 197, 198, 199, 200, 201, 202, 203, 204, 205, 206, 207, 208, 209, 210, 211, 212, 213] (by decide +kernel) (by decide +kernel)
set_option maxRecDepth 20000 in
theorem gX12_atom0_X12_opens : GoodIn wsX12_atom0 (wsV RX12 199 RX12 yX12_opens wsX12_opens) := goodIn_app (goodIn_of _ (by decide +kernel)) ggX12_atom0_X12_opens
set_option maxRecDepth 20000 in
theorem ggX12_atom0_X12_atom1 : GoodIn wsX12_atom0 wsX12_atom1 := goodIn_r _ [43, 1, 2, 3, 4, 5, 6, 7, 8, 9, 10, 11, 12, 13, 14, 15, 16, 17, 18, 19, 20, 21, 22, 23, 24, 25, 26, 27, 28, 29, 30, 31, 32, 33, 34, 35, 36, 37, 38, 39, 44, 45, 46, 47, 48, 49, 50, 51, 52, 53, 54, 55, 56, 57, 58, 59, 60, 61, 62, 63, 64, 65, 66, 67, 68, 69, 70, 71, 72, 73, 74, 75, 76, 77, 78, 79, 80, 81, 82, 83, 84, 85, 86, 87, 88, 89, 90, 91, 92, 93, 94, 95, 96, 97, 98, 99, 100, 101, 102, 103, 104, 105, 106, 107, 108, 109, 110, 111, 112, 113, 114, 115, 116, 117, 118, 119, 120, 121, 122, 123, 124, 125, 126, 127, 128, 129, 130, 131, 132, 133, 134, 135, 136, 137, 138, 139, 140, 141, 142, 143, 144, 145, 146, 147, 148, 149, 150, 151, 152, 153, 154, 155, 156, 157, 158, 159, 180, 181, 182, 183, 184, 185, 186, 187, 188, 189, 190, 191, 192, 193, 194, 195, 196, 197, 198, 199, 200, 201, 202, 203, 204, 205, 206, 207, 208, 209, 210, 211, 212, 213] (by decide +kernel) (by decide +kernel)
set_option maxRecDepth 20000 in
theorem gX12_atom0_X12_atom1 : GoodIn wsX12_atom0 (wsV RX12 283 RX12 yX12_atom1 wsX12_atom1) := goodIn_app (goodIn_of _ (by decide +kernel)) ggX12_atom0_X12_atom1
set_option maxRecDepth 20000 in
theorem ggX12_atom0_X12_either1 : GoodIn wsX12_atom0 wsX12_either1 := goodIn_r _ [163, 164, 165, 166, 8, 167, 168, 169, 170, 171, 1, 4, 90, 70, 71, 72, 73, 2, 3, 24, 18, 74, 75, 76, 77, 31, 32, 33, 34, 25, 35, 36, 10, 11, 12, 13, 14, 15, 16, 17, 19, 20, 21, 22, 23, 26, 27, 28, 29, 30, 37, 38, 39, 148, 149, 150, 151, 128, 129, 130, 131, 108, 109, 110, 111, 86, 87, 88, 89, 91, 92, 93, 94, 95, 96, 97, 98, 99, 56, 57, 58, 59, 5, 6, 7, 9, 60, 61, 62, 63, 64, 65, 66, 67, 68, 69, 112, 113, 114, 115, 116, 117, 118, 119, 52, 53, 54, 55, 78, 79, 80, 81, 82, 83, 84, 85, 132, 133, 134, 135, 136, 137, 138, 139, 48, 49, 50, 51, 100, 101, 102, 103, 104, 105, 106, 107, 152, 153, 154, 155, 156, 157, 158, 159, 44, 45, 46, 47, 120, 121, 122, 123, 124, 125, 126, 127, 172, 173, 174, 175, 176, 177, 178, 179, 40, 41, 42, 43, 140, 141, 142, 143, 144, 145, 146, 147, 180, 181, 182, 183, 184, 185, 186, 187, 188, 189, 190, 191, 192, 193, 194, 195, 196, 197, 198, 199, 200, 201, 202, 203, 204, 205, 206, 207, 208, 209, 210, 211, 212, 213] (by decide +kernel) (by decide +kernel)
set_option maxRecDepth 20000 in
theorem gX12_atom0_X12_either1 : GoodIn wsX12_atom0 (wsV RX12 298 RX12 yX12_either1 wsX12_either1) := goodIn_app (goodIn_of _ (by decide +kernel)) ggX12_atom0_X12_either1
set_option maxRecDepth 20000 in
theorem ggX12_atom0_X12_fail : GoodIn wsX12_atom0 wsX12_fail := goodIn_r _ [17, 2, 18, 19, 180, 181, 182, 183, 184, 185, 186, 187, 188, 189, 190, 191, 192, 193, 194, 195, 196, 197, 198, 199, 200, 201, 202, 203, 204, 205, 206, 207, 208, 209, 210, 211, 212, 213] (by decide +kernel) (by decide +kernel)
set_option maxRecDepth 20000 in
theorem gX12_atom0_X12_fail : GoodIn wsX12_atom0 (wsV RX12 168 RX12 yX12_fail wsX12_fail) := goodIn_app (goodIn_of _ (by decide +kernel)) ggX12_atom0_X12_fail
set_option maxRecDepth 20000 in
theorem ggX12_atom0_X12_next : GoodIn wsX12_atom0 wsX12_next := goodIn_r _ [23, 24, 18, 3, 25, 26, 27, 28, 29, 4, 30, 31, 32, 33, 8, 34, 35, 36, 37, 38, 39, 180, 181, 182, 183, 184, 185, 186, 187, 188, 189, 190, 191, 192, 193, 194, 195, 196, 197, 198, 199, 200, 201, 202, 203, 204, 205, 206, 207, 208, 209, 210, 211, 212, 213] (by decide +kernel) (by decide +kernel)
set_option maxRecDepth 20000 in
theorem gX12_atom0_X12_next : GoodIn wsX12_atom0 (wsV RX12 171 RX12 yX12_next wsX12_next) := goodIn_app (goodIn_of _ (by decide +kernel)) ggX12_atom0_X12_next
set_option maxRecDepth 20000 in
theorem ggX12_atom0_X12_name : GoodIn wsX12_atom0 wsX12_name := goodIn_r _ [63, 64, 65, 66, 67, 68, 69, 70, 71, 72, 8, 73, 2, 3, 24, 18, 74, 75, 76, 77, 31, 32, 33, 34, 25, 35, 36, 14, 15, 16, 17, 19, 180, 181, 182, 183, 184, 185, 186, 187, 188, 189, 190, 191, 192, 193, 194, 195, 196, 197, 198, 199, 200, 201, 202, 203, 204, 205, 206, 207, 208, 209, 210, 211, 212, 213] (by decide +kernel) (by decide +kernel)
set_option maxRecDepth 20000 in
theorem gX12_atom0_X12_name : GoodIn wsX12_atom0 (wsV RX12 203 RX12 yX12_name wsX12_name) := goodIn_app (goodIn_of _ (by decide +kernel)) ggX12_atom0_X12_name
theorem dX12_atom0_0 : decode cX12_atom0 0 = .ok (.iconst 0, 1) := by decide +kernel
theorem dX12_atom0_1 : decode cX12_atom0 1 = .ok (.istore_n 1, 1) := by decide +kernel
theorem dX12_atom0_2 : decode cX12_atom0 2 = .ok (.aload_n 0, 1) := by decide +kernel
theorem dX12_atom0_3 : decode cX12_atom0 3 = .ok (.bipush 45, 2) := by decide +kernel
theorem dX12_atom0_5 : decode cX12_atom0 5 = .ok (.invokevirtual 196, 3) := by decide +kernel
theorem dX12_atom0_8 : decode cX12_atom0 8 = .ok (.ifCond .eq 29, 3) := by decide +kernel
theorem dX12_atom0_11 : decode cX12_atom0 11 = .ok (.aload_n 0, 1) := by decide +kernel
theorem dX12_atom0_12 : decode cX12_atom0 12 = .ok (.invokevirtual 199, 3) := by decide +kernel
theorem dX12_atom0_15 : decode cX12_atom0 15 = .ok (.ifCond .eq 146, 3) := by decide +kernel
theorem dX12_atom0_18 : decode cX12_atom0 18 = .ok (.aload_n 0, 1) := by decide +kernel
theorem dX12_atom0_19 : decode cX12_atom0 19 = .ok (.invokevirtual 283, 3) := by decide +kernel
theorem dX12_atom0_22 : decode cX12_atom0 22 = .ok (.ineg, 1) := by decide +kernel
theorem dX12_atom0_23 : decode cX12_atom0 23 = .ok (.istore_n 1, 1) := by decide +kernel
theorem dX12_atom0_24 : decode cX12_atom0 24 = .ok (.aload_n 0, 1) := by decide +kernel
theorem dX12_atom0_25 : decode cX12_atom0 25 = .ok (.dup, 1) := by decide +kernel
theorem dX12_atom0_26 : decode cX12_atom0 26 = .ok (.getfield 165, 3) := by decide +kernel
theorem dX12_atom0_29 : decode cX12_atom0 29 = .ok (.iconst 1, 1) := by decide +kernel
theorem dX12_atom0_30 : decode cX12_atom0 30 = .ok (.isub, 1) := by decide +kernel
theorem dX12_atom0_31 : decode cX12_atom0 31 = .ok (.putfield 165, 3) := by decide +kernel
theorem dX12_atom0_34 : decode cX12_atom0 34 = .ok (.goto 127, 3) := by decide +kernel
theorem dX12_atom0_37 : decode cX12_atom0 37 = .ok (.aload_n 0, 1) := by decide +kernel
theorem dX12_atom0_38 : decode cX12_atom0 38 = .ok (.bipush 40, 2) := by decide +kernel
theorem dX12_atom0_40 : decode cX12_atom0 40 = .ok (.invokevirtual 196, 3) := by decide +kernel
theorem dX12_atom0_43 : decode cX12_atom0 43 = .ok (.ifCond .eq 52, 3) := by decide +kernel
theorem dX12_atom0_46 : decode cX12_atom0 46 = .ok (.aload_n 0, 1) := by decide +kernel
theorem dX12_atom0_47 : decode cX12_atom0 47 = .ok (.invokevirtual 199, 3) := by decide +kernel
theorem dX12_atom0_50 : decode cX12_atom0 50 = .ok (.ifCond .eq 111, 3) := by decide +kernel
theorem dX12_atom0_53 : decode cX12_atom0 53 = .ok (.aload_n 0, 1) := by decide +kernel
theorem dX12_atom0_54 : decode cX12_atom0 54 = .ok (.invokevirtual 298, 3) := by decide +kernel
theorem dX12_atom0_57 : decode cX12_atom0 57 = .ok (.istore_n 1, 1) := by decide +kernel
theorem dX12_atom0_58 : decode cX12_atom0 58 = .ok (.aload_n 0, 1) := by decide +kernel
theorem dX12_atom0_59 : decode cX12_atom0 59 = .ok (.bipush 41, 2) := by decide +kernel
theorem dX12_atom0_61 : decode cX12_atom0 61 = .ok (.invokevirtual 196, 3) := by decide +kernel
theorem dX12_atom0_64 : decode cX12_atom0 64 = .ok (.ifCond .ne 7, 3) := by decide +kernel
theorem dX12_atom0_67 : decode cX12_atom0 67 = .ok (.aload_n 0, 1) := by decide +kernel
theorem dX12_atom0_68 : decode cX12_atom0 68 = .ok (.invokevirtual 168, 3) := by decide +kernel
theorem dX12_atom0_71 : decode cX12_atom0 71 = .ok (.aload_n 0, 1) := by decide +kernel
theorem dX12_atom0_72 : decode cX12_atom0 72 = .ok (.dup, 1) := by decide +kernel
theorem dX12_atom0_73 : decode cX12_atom0 73 = .ok (.getfield 165, 3) := by decide +kernel
theorem dX12_atom0_76 : decode cX12_atom0 76 = .ok (.iconst 1, 1) := by decide +kernel
theorem dX12_atom0_77 : decode cX12_atom0 77 = .ok (.isub, 1) := by decide +kernel
theorem dX12_atom0_78 : decode cX12_atom0 78 = .ok (.putfield 165, 3) := by decide +kernel
theorem dX12_atom0_81 : decode cX12_atom0 81 = .ok (.aload_n 0, 1) := by decide +kernel
theorem dX12_atom0_82 : decode cX12_atom0 82 = .ok (.getfield 154, 3) := by decide +kernel
theorem dX12_atom0_85 : decode cX12_atom0 85 = .ok (.ifCond .ne 76, 3) := by decide +kernel
theorem dX12_atom0_88 : decode cX12_atom0 88 = .ok (.aload_n 0, 1) := by decide +kernel
theorem dX12_atom0_89 : decode cX12_atom0 89 = .ok (.invokevirtual 171, 3) := by decide +kernel
theorem dX12_atom0_92 : decode cX12_atom0 92 = .ok (.goto 69, 3) := by decide +kernel
theorem dX12_atom0_95 : decode cX12_atom0 95 = .ok (.aload_n 0, 1) := by decide +kernel
theorem dX12_atom0_96 : decode cX12_atom0 96 = .ok (.getfield 154, 3) := by decide +kernel
theorem dX12_atom0_99 : decode cX12_atom0 99 = .ok (.ifCond .ne 24, 3) := by decide +kernel
theorem dX12_atom0_102 : decode cX12_atom0 102 = .ok (.aload_n 0, 1) := by decide +kernel
theorem dX12_atom0_103 : decode cX12_atom0 103 = .ok (.getfield 137, 3) := by decide +kernel
theorem dX12_atom0_106 : decode cX12_atom0 106 = .ok (.iconst 2, 1) := by decide +kernel
theorem dX12_atom0_107 : decode cX12_atom0 107 = .ok (.if_icmp .ne 16, 3) := by decide +kernel
theorem dX12_atom0_110 : decode cX12_atom0 110 = .ok (.aload_n 0, 1) := by decide +kernel
theorem dX12_atom0_111 : decode cX12_atom0 111 = .ok (.getfield 148, 3) := by decide +kernel
theorem dX12_atom0_114 : decode cX12_atom0 114 = .ok (.l2i, 1) := by decide +kernel
theorem dX12_atom0_115 : decode cX12_atom0 115 = .ok (.istore_n 1, 1) := by decide +kernel
theorem dX12_atom0_116 : decode cX12_atom0 116 = .ok (.aload_n 0, 1) := by decide +kernel
theorem dX12_atom0_117 : decode cX12_atom0 117 = .ok (.invokevirtual 171, 3) := by decide +kernel
theorem dX12_atom0_120 : decode cX12_atom0 120 = .ok (.goto 41, 3) := by decide +kernel
theorem dX12_atom0_123 : decode cX12_atom0 123 = .ok (.aload_n 0, 1) := by decide +kernel
theorem dX12_atom0_124 : decode cX12_atom0 124 = .ok (.getfield 154, 3) := by decide +kernel
theorem dX12_atom0_127 : decode cX12_atom0 127 = .ok (.ifCond .ne 30, 3) := by decide +kernel
theorem dX12_atom0_130 : decode cX12_atom0 130 = .ok (.aload_n 0, 1) := by decide +kernel
theorem dX12_atom0_131 : decode cX12_atom0 131 = .ok (.getfield 137, 3) := by decide +kernel
theorem dX12_atom0_134 : decode cX12_atom0 134 = .ok (.iconst 1, 1) := by decide +kernel
theorem dX12_atom0_135 : decode cX12_atom0 135 = .ok (.if_icmp .ne 22, 3) := by decide +kernel
theorem dX12_atom0_138 : decode cX12_atom0 138 = .ok (.aload_n 0, 1) := by decide +kernel
theorem dX12_atom0_139 : decode cX12_atom0 139 = .ok (.invokevirtual 203, 3) := by decide +kernel
theorem dX12_atom0_142 : decode cX12_atom0 142 = .ok (.istore_n 1, 1) := by decide +kernel
theorem dX12_atom0_143 : decode cX12_atom0 143 = .ok (.aload_n 0, 1) := by decide +kernel
theorem dX12_atom0_144 : decode cX12_atom0 144 = .ok (.getfield 154, 3) := by decide +kernel
theorem dX12_atom0_147 : decode cX12_atom0 147 = .ok (.ifCond .ne 14, 3) := by decide +kernel
theorem dX12_atom0_150 : decode cX12_atom0 150 = .ok (.aload_n 0, 1) := by decide +kernel
theorem dX12_atom0_151 : decode cX12_atom0 151 = .ok (.invokevirtual 171, 3) := by decide +kernel
theorem dX12_atom0_154 : decode cX12_atom0 154 = .ok (.goto 7, 3) := by decide +kernel
theorem dX12_atom0_157 : decode cX12_atom0 157 = .ok (.aload_n 0, 1) := by decide +kernel
theorem dX12_atom0_158 : decode cX12_atom0 158 = .ok (.invokevirtual 168, 3) := by decide +kernel
theorem dX12_atom0_161 : decode cX12_atom0 161 = .ok (.iload_n 1, 1) := by decide +kernel
theorem dX12_atom0_162 : decode cX12_atom0 162 = .ok (.ireturn, 1) := by decide +kernel
set_option maxRecDepth 20000 in
theorem ggX12_term0_X12_atom0 : GoodIn wsX12_term0 wsX12_atom0 := goodIn_r _ [5, 6, 7, 8, 9, 10, 11, 12, 4, 13, 14, 15, 16, 17, 18, 19, 20, 21, 22, 23, 24, 25, 26, 27, 28, 29, 30, 31, 32, 33, 34, 35, 36, 37, 38, 39, 40, 41, 42, 43, 44, 45, 46, 47, 48, 49, 50, 51, 52, 53, 54, 55, 56, 57, 58, 59, 60, 61, 62, 63, 64, 65, 66, 67, 68, 69, 70, 71, 72, 73, 74, 75, 76, 77, 78, 79, 80, 81, 82, 83, 84, 85, 86, 87, 88, 89, 90, 91, 92, 93, 94, 95, 96, 97, 98, 99, 100, 101, 102, 103, 104, 105, 106, 107, 108, 109, 110, 111, 112, 113, 114, 115, 116, 117, 118, 119, 120, 121, 122, 123, 124, 125, 126, 127, 128, 129, 130, 131, 132, 133, 134, 135, 136, 137, 138, 139, 140, 141, 142, 143, 144, 145, 146, 147, 148, 149, 150, 151, 152, 153, 154, 155, 156, 157, 158, 159, 160, 161, 162, 163, 164, 165, 166, 167, 168, 169, 170, 171, 172, 173, 174, 175, 176, 177, 178, 179, 180, 181, 182, 183, 184, 185, 186, 187, 188, 189, 190, 191, 192, 193, 194, 195, 196, 197, 198, 199, 200, 201, 202, 203, 204, 205, 206, 207, 208, 209, 210, 211, 212, 213, 214, 215, 216, 217] (by decide +kernel) (by decide +kernel)
set_option maxRecDepth 20000 in
theorem gX12_term0_X12_atom0 : GoodIn wsX12_term0 (wsV RX12 301 RX12 yX12_atom0 wsX12_atom0) := goodIn_app (goodIn_of _ (by decide +kernel)) ggX12_term0_X12_atom0
set_option maxRecDepth 20000 in
theorem ggX12_term0_X12_isSign : GoodIn wsX12_term0 wsX12_isSign := goodIn_r _ [13, 7, 8, 9, 184, 185, 186, 187, 188, 189, 190, 191, 192, 193, 194, 195, 196, 197, 198, 199, 200, 201, 202, 203, 204, 205, 206, 207, 208, 209, 210, 211, 212, 213, 214, 215, 216, 217] (by decide +kernel) (by decide +kernel)
set_option maxRecDepth 20000 in
theorem gX12_term0_X12_isSign : GoodIn wsX12_term0 (wsV RX12 196 RX12 yX12_isSign wsX12_isSign) := goodIn_app (goodIn_of _ (by decide +kernel)) ggX12_term0_X12_isSign
set_option maxRecDepth 20000 in
theorem ggX12_term0_X12_next : GoodIn wsX12_term0 wsX12_next := goodIn_r _ [27, 28, 22, 8, 29, 30, 31, 32, 33, 9, 34, 35, 36, 37, 4, 38, 39, 40, 41, 42, 43, 184, 185, 186, 187, 188, 189, 190, 191, 192, 193, 194, 195, 196, 197, 198, 199, 200, 201, 202, 203, 204, 205, 206, 207, 208, 209, 210, 211, 212, 213, 214, 215, 216, 217] (by decide +kernel) (by decide +kernel)
set_option maxRecDepth 20000 in
theorem gX12_term0_X12_next : GoodIn wsX12_term0 (wsV RX12 171 RX12 yX12_next wsX12_next) := goodIn_app (goodIn_of _ (by decide +kernel)) ggX12_term0_X12_next
theorem dX12_term0_0 : decode cX12_term0 0 = .ok (.aload_n 0, 1) := by decide +kernel
theorem dX12_term0_1 : decode cX12_term0 1 = .ok (.invokevirtual 301, 3) := by decide +kernel
theorem dX12_term0_4 : decode cX12_term0 4 = .ok (.istore_n 1, 1) := by decide +kernel
theorem dX12_term0_5 : decode cX12_term0 5 = .ok (.aload_n 0, 1) := by decide +kernel
theorem dX12_term0_6 : decode cX12_term0 6 = .ok (.bipush 42, 2) := by decide +kernel
theorem dX12_term0_8 : decode cX12_term0 8 = .ok (.invokevirtual 196, 3) := by decide +kernel
theorem dX12_term0_11 : decode cX12_term0 11 = .ok (.ifCond .eq 17, 3) := by decide +kernel
theorem dX12_term0_14 : decode cX12_term0 14 = .ok (.aload_n 0, 1) := by decide +kernel
theorem dX12_term0_15 : decode cX12_term0 15 = .ok (.invokevirtual 171, 3) := by decide +kernel
theorem dX12_term0_18 : decode cX12_term0 18 = .ok (.iload_n 1, 1) := by decide +kernel
theorem dX12_term0_19 : decode cX12_term0 19 = .ok (.aload_n 0, 1) := by decide +kernel
theorem dX12_term0_20 : decode cX12_term0 20 = .ok (.invokevirtual 301, 3) := by decide +kernel
theorem dX12_term0_23 : decode cX12_term0 23 = .ok (.imul, 1) := by decide +kernel
theorem dX12_term0_24 : decode cX12_term0 24 = .ok (.istore_n 1, 1) := by decide +kernel
theorem dX12_term0_25 : decode cX12_term0 25 = .ok (.goto (-20), 3) := by decide +kernel
theorem dX12_term0_28 : decode cX12_term0 28 = .ok (.iload_n 1, 1) := by decide +kernel
theorem dX12_term0_29 : decode cX12_term0 29 = .ok (.ireturn, 1) := by decide +kernel
set_option maxRecDepth 20000 in
theorem ggX12_added0_X12_term0 : GoodIn wsX12_added0 wsX12_term0 := goodIn_r _ [7, 8, 9, 10, 6, 11, 12, 13, 14, 1, 15, 16, 17, 18, 19, 20, 21, 22, 23, 24, 25, 26, 27, 28, 29, 30, 31, 32, 33, 34, 35, 36, 37, 38, 39, 40, 41, 42, 43, 44, 45, 46, 47, 48, 49, 50, 51, 52, 53, 54, 55, 56, 57, 58, 59, 60, 61, 62, 63, 64, 65, 66, 67, 68, 69, 70, 71, 72, 73, 74, 75, 76, 77, 78, 79, 80, 81, 82, 83, 84, 85, 86, 87, 88, 89, 90, 91, 92, 93, 94, 95, 96, 97, 98, 99, 100, 101, 102, 103, 2, 104, 105, 106, 107, 108, 109, 110, 111, 112, 113, 114, 115, 116, 117, 118, 119, 120, 121, 122, 123, 124, 125, 126, 127, 128, 129, 130, 131, 132, 133, 134, 135, 136, 137, 138, 139, 140, 141, 142, 143, 144, 145, 146, 147, 148, 149, 150, 151, 152, 153, 154, 155, 156, 157, 158, 159, 160, 161, 162, 163, 164, 165, 166, 167, 168, 169, 170, 171, 172, 173, 174, 175, 176, 177, 178, 179, 180, 181, 182, 183, 184, 185, 186, 187, 188, 189, 190, 191, 192, 193, 194, 195, 196, 197, 198, 199, 200, 201, 202, 203, 204, 205, 206, 207, 208, 209, 210, 211, 212, 213, 214, 215, 216, 217, 218, 219, 220, 221] (by decide +kernel) (by decide +kernel)
set_option maxRecDepth 20000 in
theorem gX12_added0_X12_term0 : GoodIn wsX12_added0 (wsV RX12 304 RX12 yX12_term0 wsX12_term0) := goodIn_app (goodIn_of _ (by decide +kernel)) ggX12_added0_X12_term0
set_option maxRecDepth 20000 in
theorem ggX12_added0_X12_isSign : GoodIn wsX12_added0 wsX12_isSign := goodIn_r _ [18, 13, 14, 1, 188, 189, 190, 191, 192, 193, 194, 195, 196, 197, 198, 199, 200, 201, 202, 203, 204, 205, 206, 207, 208, 209, 210, 211, 212, 213, 214, 215, 216, 217, 218, 219, 220, 221] (by decide +kernel) (by decide +kernel)
set_option maxRecDepth 20000 in
theorem gX12_added0_X12_isSign : GoodIn wsX12_added0 (wsV RX12 196 RX12 yX12_isSign wsX12_isSign) := goodIn_app (goodIn_of _ (by decide +kernel)) ggX12_added0_X12_isSign
set_option maxRecDepth 20000 in
theorem ggX12_added0_X12_next : GoodIn wsX12_added0 wsX12_next := goodIn_r _ [32, 33, 27, 14, 34, 35, 36, 37, 38, 1, 39, 40, 41, 42, 6, 43, 44, 45, 46, 47, 48, 188, 189, 190, 191, 192, 193, 194, 195, 196, 197, 198, 199, 200, 201, 202, 203, 204, 205, 206, 207, 208, 209, 210, 211, 212, 213, 214, 215, 216, 217, 218, 219, 220, 221] (by decide +kernel) (by decide +kernel)
set_option maxRecDepth 20000 in
theorem gX12_added0_X12_next : GoodIn wsX12_added0 (wsV RX12 171 RX12 yX12_next wsX12_next) := goodIn_app (goodIn_of _ (by decide +kernel)) ggX12_added0_X12_next
theorem dX12_added0_0 : decode cX12_added0 0 = .ok (.aload_n 0, 1) := by decide +kernel
theorem dX12_added0_1 : decode cX12_added0 1 = .ok (.invokevirtual 304, 3) := by decide +kernel
theorem dX12_added0_4 : decode cX12_added0 4 = .ok (.istore_n 1, 1) := by decide +kernel
theorem dX12_added0_5 : decode cX12_added0 5 = .ok (.aload_n 0, 1) := by decide +kernel
theorem dX12_added0_6 : decode cX12_added0 6 = .ok (.bipush 43, 2) := by decide +kernel
theorem dX12_added0_8 : decode cX12_added0 8 = .ok (.invokevirtual 196, 3) := by decide +kernel
theorem dX12_added0_11 : decode cX12_added0 11 = .ok (.ifCond .ne 12, 3) := by decide +kernel
theorem dX12_added0_14 : decode cX12_added0 14 = .ok (.aload_n 0, 1) := by decide +kernel
theorem dX12_added0_15 : decode cX12_added0 15 = .ok (.bipush 45, 2) := by decide +kernel
theorem dX12_added0_17 : decode cX12_added0 17 = .ok (.invokevirtual 196, 3) := by decide +kernel
theorem dX12_added0_20 : decode cX12_added0 20 = .ok (.ifCond .eq 46, 3) := by decide +kernel
theorem dX12_added0_23 : decode cX12_added0 23 = .ok (.aload_n 0, 1) := by decide +kernel
theorem dX12_added0_24 : decode cX12_added0 24 = .ok (.getfield 148, 3) := by decide +kernel
theorem dX12_added0_27 : decode cX12_added0 27 = .ok (.ldc2_w 213, 3) := by decide +kernel
theorem dX12_added0_30 : decode cX12_added0 30 = .ok (.lcmp, 1) := by decide +kernel
theorem dX12_added0_31 : decode cX12_added0 31 = .ok (.ifCond .ne 7, 3) := by decide +kernel
theorem dX12_added0_34 : decode cX12_added0 34 = .ok (.iconst 1, 1) := by decide +kernel
theorem dX12_added0_35 : decode cX12_added0 35 = .ok (.goto 4, 3) := by decide +kernel
theorem dX12_added0_38 : decode cX12_added0 38 = .ok (.iconst 0, 1) := by decide +kernel
theorem dX12_added0_39 : decode cX12_added0 39 = .ok (.istore_n 2, 1) := by decide +kernel
theorem dX12_added0_40 : decode cX12_added0 40 = .ok (.aload_n 0, 1) := by decide +kernel
theorem dX12_added0_41 : decode cX12_added0 41 = .ok (.invokevirtual 171, 3) := by decide +kernel
theorem dX12_added0_44 : decode cX12_added0 44 = .ok (.aload_n 0, 1) := by decide +kernel
theorem dX12_added0_45 : decode cX12_added0 45 = .ok (.invokevirtual 304, 3) := by decide +kernel
theorem dX12_added0_48 : decode cX12_added0 48 = .ok (.istore_n 3, 1) := by decide +kernel
theorem dX12_added0_49 : decode cX12_added0 49 = .ok (.iload_n 2, 1) := by decide +kernel
theorem dX12_added0_50 : decode cX12_added0 50 = .ok (.ifCond .eq 9, 3) := by decide +kernel
theorem dX12_added0_53 : decode cX12_added0 53 = .ok (.iload_n 1, 1) := by decide +kernel
theorem dX12_added0_54 : decode cX12_added0 54 = .ok (.iload_n 3, 1) := by decide +kernel
theorem dX12_added0_55 : decode cX12_added0 55 = .ok (.iadd, 1) := by decide +kernel
theorem dX12_added0_56 : decode cX12_added0 56 = .ok (.goto 6, 3) := by decide +kernel
theorem dX12_added0_59 : decode cX12_added0 59 = .ok (.iload_n 1, 1) := by decide +kernel
theorem dX12_added0_60 : decode cX12_added0 60 = .ok (.iload_n 3, 1) := by decide +kernel
theorem dX12_added0_61 : decode cX12_added0 61 = .ok (.isub, 1) := by decide +kernel
theorem dX12_added0_62 : decode cX12_added0 62 = .ok (.istore_n 1, 1) := by decide +kernel
theorem dX12_added0_63 : decode cX12_added0 63 = .ok (.goto (-58), 3) := by decide +kernel
theorem dX12_added0_66 : decode cX12_added0 66 = .ok (.iload_n 1, 1) := by decide +kernel
theorem dX12_added0_67 : decode cX12_added0 67 = .ok (.ireturn, 1) := by decide +kernel
set_option maxRecDepth 20000 in
theorem ggX12_not0_X12_isWord : GoodIn wsX12_not0 wsX12_isWord := goodIn_r _ [8, 9, 10, 11, 12, 13, 14, 15, 7, 16, 17, 18, 19, 20, 21, 22, 23, 192, 193, 194, 195, 196, 197, 198, 199, 200, 201, 202, 203, 204, 205, 206, 207, 208, 209, 210, 211, 212, 213, 214, 215, 216, 217, 218, 219, 220, 221, 222, 223, 224, 225] (by decide +kernel) (by decide +kernel)
set_option maxRecDepth 20000 in
theorem gX12_not0_X12_isWord : GoodIn wsX12_not0 (wsV RX12 174 RX12 yX12_isWord wsX12_isWord) := goodIn_app (goodIn_of _ (by decide +kernel)) ggX12_not0_X12_isWord
set_option maxRecDepth 20000 in
theorem ggX12_not0_X12_opens : GoodIn wsX12_not0 wsX12_opens := goodIn_r _ [27, 1, 28, 29, 30, 7, 31, 9, 12, 32, 33, 34, 35, 36, 11, 10, 21, 37, 38, 39, 40, 2, 41, 17, 18, 19, 20, 22, 23, 42, 43, 44, 192, 193, 194, 195, 196, 197, 198, 199, 200, 201, 202, 203, 204, 205, 206, 207, 208, 209, 210, 211, 212, 213, 214, 215, 216, 217, 218, 219, 220, 221, 222, 223, 224, 225] (by decide +kernel) (by decide +kernel)
set_option maxRecDepth 20000 in
theorem gX12_not0_X12_opens : GoodIn wsX12_not0 (wsV RX12 199 RX12 yX12_opens wsX12_opens) := goodIn_app (goodIn_of _ (by decide +kernel)) ggX12_not0_X12_opens
set_option maxRecDepth 20000 in
theorem ggX12_not0_X12_not1 : GoodIn wsX12_not0 wsX12_not1 := goodIn_r _ [48, 1, 2, 3, 4, 5, 6, 7, 8, 9, 10, 11, 12, 13, 14, 15, 16, 17, 18, 19, 20, 21, 22, 23, 24, 25, 26, 27, 28, 29, 30, 31, 32, 33, 34, 35, 36, 37, 38, 39, 40, 41, 42, 43, 44, 49, 50, 51, 52, 53, 54, 55, 56, 57, 58, 59, 60, 61, 62, 63, 64, 65, 66, 67, 68, 69, 70, 71, 72, 73, 74, 75, 76, 77, 78, 79, 80, 81, 82, 83, 84, 85, 86, 87, 88, 89, 90, 91, 92, 93, 94, 95, 96, 97, 98, 99, 100, 101, 102, 103, 104, 105, 106, 107, 108, 109, 110, 111, 112, 113, 114, 115, 116, 117, 118, 119, 120, 121, 122, 123, 124, 125, 126, 127, 128, 129, 130, 131, 132, 133, 134, 135, 136, 137, 138, 139, 140, 141, 142, 143, 144, 145, 146, 147, 148, 149, 150, 151, 152, 153, 154, 155, 156, 157, 158, 159, 160, 161, 162, 163, 164, 165, 166, 167, 168, 169, 170, 171, 192, 193, 194, 195, 196, 197, 198, 199, 200, 201, 202, 203, 204, 205, 206, 207, 208, 209, 210, 211, 212, 213, 214, 215, 216, 217, 218, 219, 220, 221, 222, 223, 224, 225] (by decide +kernel) (by decide +kernel)
set_option maxRecDepth 20000 in
theorem gX12_not0_X12_not1 : GoodIn wsX12_not0 (wsV RX12 292 RX12 yX12_not1 wsX12_not1) := goodIn_app (goodIn_of _ (by decide +kernel)) ggX12_not0_X12_not1
set_option maxRecDepth 20000 in
theorem ggX12_not0_X12_added0 : GoodIn wsX12_not0 wsX12_added0 := goodIn_r _ [175, 2, 69, 176, 177, 178, 7, 179, 180, 181, 182, 183, 1, 9, 10, 78, 79, 80, 81, 24, 25, 26, 27, 28, 29, 30, 31, 12, 32, 33, 34, 35, 36, 11, 21, 37, 38, 39, 40, 41, 17, 18, 19, 20, 22, 23, 42, 43, 44, 160, 161, 162, 163, 140, 141, 142, 143, 120, 121, 122, 123, 100, 101, 102, 103, 74, 75, 76, 77, 82, 83, 84, 85, 86, 87, 88, 89, 90, 91, 4, 5, 6, 8, 13, 14, 15, 16, 104, 105, 106, 107, 108, 109, 110, 111, 61, 62, 63, 64, 3, 65, 66, 67, 68, 70, 71, 72, 73, 124, 125, 126, 127, 128, 129, 130, 131, 57, 58, 59, 60, 92, 93, 94, 95, 96, 97, 98, 99, 144, 145, 146, 147, 148, 149, 150, 151, 53, 54, 55, 56, 112, 113, 114, 115, 116, 117, 118, 119, 164, 165, 166, 167, 168, 169, 170, 171, 49, 50, 51, 52, 132, 133, 134, 135, 136, 137, 138, 139, 184, 185, 186, 187, 188, 189, 190, 191, 45, 46, 47, 48, 152, 153, 154, 155, 156, 157, 158, 159, 192, 193, 194, 195, 196, 197, 198, 199, 200, 201, 202, 203, 204, 205, 206, 207, 208, 209, 210, 211, 212, 213, 214, 215, 216, 217, 218, 219, 220, 221, 222, 223, 224, 225] (by decide +kernel) (by decide +kernel)
set_option maxRecDepth 20000 in
theorem gX12_not0_X12_added0 : GoodIn wsX12_not0 (wsV RX12 307 RX12 yX12_added0 wsX12_added0) := goodIn_app (goodIn_of _ (by decide +kernel)) ggX12_not0_X12_added0
set_option maxRecDepth 20000 in
theorem ggX12_not0_X12_isSign : GoodIn wsX12_not0 wsX12_isSign := goodIn_r _ [81, 9, 10, 2, 192, 193, 194, 195, 196, 197, 198, 199, 200, 201, 202, 203, 204, 205, 206, 207, 208, 209, 210, 211, 212, 213, 214, 215, 216, 217, 218, 219, 220, 221, 222, 223, 224, 225] (by decide +kernel) (by decide +kernel)
set_option maxRecDepth 20000 in
theorem gX12_not0_X12_isSign : GoodIn wsX12_not0 (wsV RX12 196 RX12 yX12_isSign wsX12_isSign) := goodIn_app (goodIn_of _ (by decide +kernel)) ggX12_not0_X12_isSign
set_option maxRecDepth 20000 in
theorem ggX12_not0_X12_next : GoodIn wsX12_not0 wsX12_next := goodIn_r _ [36, 11, 12, 10, 21, 37, 38, 39, 40, 2, 41, 17, 18, 19, 7, 20, 22, 23, 42, 43, 44, 192, 193, 194, 195, 196, 197, 198, 199, 200, 201, 202, 203, 204, 205, 206, 207, 208, 209, 210, 211, 212, 213, 214, 215, 216, 217, 218, 219, 220, 221, 222, 223, 224, 225] (by decide +kernel) (by decide +kernel)
set_option maxRecDepth 20000 in
theorem gX12_not0_X12_next : GoodIn wsX12_not0 (wsV RX12 171 RX12 yX12_next wsX12_next) := goodIn_app (goodIn_of _ (by decide +kernel)) ggX12_not0_X12_next
theorem dX12_not0_0 : decode cX12_not0 0 = .ok (.aload_n 0, 1) := by decide +kernel
theorem dX12_not0_1 : decode cX12_not0 1 = .ok (.bipush 110, 2) := by decide +kernel
theorem dX12_not0_3 : decode cX12_not0 3 = .ok (.bipush 111, 2) := by decide +kernel
theorem dX12_not0_5 : decode cX12_not0 5 = .ok (.bipush 116, 2) := by decide +kernel
theorem dX12_not0_7 : decode cX12_not0 7 = .ok (.iconst 0, 1) := by decide +kernel
theorem dX12_not0_8 : decode cX12_not0 8 = .ok (.iconst 0, 1) := by decide +kernel
theorem dX12_not0_9 : decode cX12_not0 9 = .ok (.iconst 0, 1) := by decide +kernel
theorem dX12_not0_10 : decode cX12_not0 10 = .ok (.iconst 0, 1) := by decide +kernel
theorem dX12_not0_11 : decode cX12_not0 11 = .ok (.iconst 0, 1) := by decide +kernel
theorem dX12_not0_12 : decode cX12_not0 12 = .ok (.invokevirtual 174, 3) := by decide +kernel
theorem dX12_not0_15 : decode cX12_not0 15 = .ok (.ifCond .eq 37, 3) := by decide +kernel
theorem dX12_not0_18 : decode cX12_not0 18 = .ok (.aload_n 0, 1) := by decide +kernel
theorem dX12_not0_19 : decode cX12_not0 19 = .ok (.invokevirtual 199, 3) := by decide +kernel
theorem dX12_not0_22 : decode cX12_not0 22 = .ok (.ifCond .ne 5, 3) := by decide +kernel
theorem dX12_not0_25 : decode cX12_not0 25 = .ok (.iconst 0, 1) := by decide +kernel
theorem dX12_not0_26 : decode cX12_not0 26 = .ok (.ireturn, 1) := by decide +kernel
theorem dX12_not0_27 : decode cX12_not0 27 = .ok (.aload_n 0, 1) := by decide +kernel
theorem dX12_not0_28 : decode cX12_not0 28 = .ok (.invokevirtual 292, 3) := by decide +kernel
theorem dX12_not0_31 : decode cX12_not0 31 = .ok (.istore_n 1, 1) := by decide +kernel
theorem dX12_not0_32 : decode cX12_not0 32 = .ok (.aload_n 0, 1) := by decide +kernel
theorem dX12_not0_33 : decode cX12_not0 33 = .ok (.dup, 1) := by decide +kernel
theorem dX12_not0_34 : decode cX12_not0 34 = .ok (.getfield 165, 3) := by decide +kernel
theorem dX12_not0_37 : decode cX12_not0 37 = .ok (.iconst 1, 1) := by decide +kernel
theorem dX12_not0_38 : decode cX12_not0 38 = .ok (.isub, 1) := by decide +kernel
theorem dX12_not0_39 : decode cX12_not0 39 = .ok (.putfield 165, 3) := by decide +kernel
theorem dX12_not0_42 : decode cX12_not0 42 = .ok (.iload_n 1, 1) := by decide +kernel
theorem dX12_not0_43 : decode cX12_not0 43 = .ok (.ifCond .ne 7, 3) := by decide +kernel
theorem dX12_not0_46 : decode cX12_not0 46 = .ok (.iconst 1, 1) := by decide +kernel
theorem dX12_not0_47 : decode cX12_not0 47 = .ok (.goto 4, 3) := by decide +kernel
theorem dX12_not0_50 : decode cX12_not0 50 = .ok (.iconst 0, 1) := by decide +kernel
theorem dX12_not0_51 : decode cX12_not0 51 = .ok (.ireturn, 1) := by decide +kernel
theorem dX12_not0_52 : decode cX12_not0 52 = .ok (.aload_n 0, 1) := by decide +kernel
theorem dX12_not0_53 : decode cX12_not0 53 = .ok (.invokevirtual 307, 3) := by decide +kernel
theorem dX12_not0_56 : decode cX12_not0 56 = .ok (.istore_n 1, 1) := by decide +kernel
theorem dX12_not0_57 : decode cX12_not0 57 = .ok (.aload_n 0, 1) := by decide +kernel
theorem dX12_not0_58 : decode cX12_not0 58 = .ok (.bipush 60, 2) := by decide +kernel
theorem dX12_not0_60 : decode cX12_not0 60 = .ok (.invokevirtual 196, 3) := by decide +kernel
theorem dX12_not0_63 : decode cX12_not0 63 = .ok (.ifCond .ne 14, 3) := by decide +kernel
theorem dX12_not0_66 : decode cX12_not0 66 = .ok (.aload_n 0, 1) := by decide +kernel
theorem dX12_not0_67 : decode cX12_not0 67 = .ok (.bipush 61, 2) := by decide +kernel
theorem dX12_not0_69 : decode cX12_not0 69 = .ok (.invokevirtual 196, 3) := by decide +kernel
theorem dX12_not0_72 : decode cX12_not0 72 = .ok (.ifCond .ne 5, 3) := by decide +kernel
theorem dX12_not0_75 : decode cX12_not0 75 = .ok (.iload_n 1, 1) := by decide +kernel
theorem dX12_not0_76 : decode cX12_not0 76 = .ok (.ireturn, 1) := by decide +kernel
theorem dX12_not0_77 : decode cX12_not0 77 = .ok (.aload_n 0, 1) := by decide +kernel
theorem dX12_not0_78 : decode cX12_not0 78 = .ok (.getfield 148, 3) := by decide +kernel
theorem dX12_not0_81 : decode cX12_not0 81 = .ok (.ldc2_w 218, 3) := by decide +kernel
theorem dX12_not0_84 : decode cX12_not0 84 = .ok (.lcmp, 1) := by decide +kernel
theorem dX12_not0_85 : decode cX12_not0 85 = .ok (.ifCond .ne 7, 3) := by decide +kernel
theorem dX12_not0_88 : decode cX12_not0 88 = .ok (.iconst 1, 1) := by decide +kernel
theorem dX12_not0_89 : decode cX12_not0 89 = .ok (.goto 4, 3) := by decide +kernel
theorem dX12_not0_92 : decode cX12_not0 92 = .ok (.iconst 0, 1) := by decide +kernel
theorem dX12_not0_93 : decode cX12_not0 93 = .ok (.istore_n 2, 1) := by decide +kernel
theorem dX12_not0_94 : decode cX12_not0 94 = .ok (.aload_n 0, 1) := by decide +kernel
theorem dX12_not0_95 : decode cX12_not0 95 = .ok (.invokevirtual 171, 3) := by decide +kernel
theorem dX12_not0_98 : decode cX12_not0 98 = .ok (.aload_n 0, 1) := by decide +kernel
theorem dX12_not0_99 : decode cX12_not0 99 = .ok (.invokevirtual 307, 3) := by decide +kernel
theorem dX12_not0_102 : decode cX12_not0 102 = .ok (.istore_n 3, 1) := by decide +kernel
theorem dX12_not0_103 : decode cX12_not0 103 = .ok (.iload_n 2, 1) := by decide +kernel
theorem dX12_not0_104 : decode cX12_not0 104 = .ok (.ifCond .eq 11, 3) := by decide +kernel
theorem dX12_not0_107 : decode cX12_not0 107 = .ok (.iload_n 1, 1) := by decide +kernel
theorem dX12_not0_108 : decode cX12_not0 108 = .ok (.iload_n 3, 1) := by decide +kernel
theorem dX12_not0_109 : decode cX12_not0 109 = .ok (.if_icmp .ge 15, 3) := by decide +kernel
theorem dX12_not0_112 : decode cX12_not0 112 = .ok (.goto 8, 3) := by decide +kernel
theorem dX12_not0_115 : decode cX12_not0 115 = .ok (.iload_n 1, 1) := by decide +kernel
theorem dX12_not0_116 : decode cX12_not0 116 = .ok (.iload_n 3, 1) := by decide +kernel
theorem dX12_not0_117 : decode cX12_not0 117 = .ok (.if_icmp .ne 7, 3) := by decide +kernel
theorem dX12_not0_120 : decode cX12_not0 120 = .ok (.iconst 1, 1) := by decide +kernel
theorem dX12_not0_121 : decode cX12_not0 121 = .ok (.goto 4, 3) := by decide +kernel
theorem dX12_not0_124 : decode cX12_not0 124 = .ok (.iconst 0, 1) := by decide +kernel
theorem dX12_not0_125 : decode cX12_not0 125 = .ok (.ireturn, 1) := by decide +kernel
set_option maxRecDepth 20000 in
theorem ggX12_both0_X12_not0 : GoodIn wsX12_both0 wsX12_not0 := goodIn_r _ [5, 6, 7, 8, 9, 10, 11, 4, 12, 13, 14, 15, 16, 17, 18, 19, 20, 21, 22, 23, 24, 25, 26, 27, 28, 29, 30, 31, 32, 33, 34, 35, 36, 37, 38, 39, 40, 41, 42, 43, 44, 45, 46, 47, 48, 49, 50, 51, 52, 53, 54, 55, 56, 57, 58, 59, 60, 61, 62, 63, 64, 65, 66, 67, 68, 69, 70, 71, 72, 73, 74, 75, 76, 77, 78, 79, 80, 81, 82, 83, 84, 85, 86, 87, 88, 89, 90, 91, 92, 93, 94, 95, 96, 97, 98, 99, 100, 101, 102, 103, 104, 105, 106, 107, 108, 109, 110, 111, 112, 113, 114, 115, 116, 117, 118, 119, 120, 121, 122, 123, 124, 125, 126, 127, 128, 129, 130, 131, 132, 133, 134, 135, 136, 137, 138, 139, 140, 141, 142, 143, 144, 145, 146, 147, 148, 149, 150, 151, 152, 153, 154, 155, 156, 157, 158, 159, 160, 161, 162, 163, 164, 165, 166, 167, 168, 169, 170, 171, 172, 173, 174, 175, 176, 177, 178, 179, 180, 181, 182, 183, 184, 185, 186, 187, 188, 189, 190, 191, 192, 193, 194, 195, 196, 197, 198, 199, 200, 201, 202, 203, 204, 205, 206, 207, 208, 209, 210, 211, 212, 213, 214, 215, 216, 217, 218, 219, 220, 221, 222, 223, 224, 225, 226, 227, 228, 229] (by decide +kernel) (by decide +kernel)
set_option maxRecDepth 20000 in
theorem gX12_both0_X12_not0 : GoodIn wsX12_both0 (wsV RX12 310 RX12 yX12_not0 wsX12_not0) := goodIn_app (goodIn_of _ (by decide +kernel)) ggX12_both0_X12_not0
set_option maxRecDepth 20000 in
theorem ggX12_both0_X12_isWord : GoodIn wsX12_both0 wsX12_isWord := goodIn_r _ [12, 13, 14, 15, 16, 17, 18, 19, 4, 20, 21, 22, 23, 24, 25, 26, 27, 196, 197, 198, 199, 200, 201, 202, 203, 204, 205, 206, 207, 208, 209, 210, 211, 212, 213, 214, 215, 216, 217, 218, 219, 220, 221, 222, 223, 224, 225, 226, 227, 228, 229] (by decide +kernel) (by decide +kernel)
set_option maxRecDepth 20000 in
theorem gX12_both0_X12_isWord : GoodIn wsX12_both0 (wsV RX12 174 RX12 yX12_isWord wsX12_isWord) := goodIn_app (goodIn_of _ (by decide +kernel)) ggX12_both0_X12_isWord
set_option maxRecDepth 20000 in
theorem ggX12_both0_X12_next : GoodIn wsX12_both0 wsX12_next := goodIn_r _ [40, 15, 16, 14, 25, 41, 42, 43, 44, 7, 45, 21, 22, 23, 4, 24, 26, 27, 46, 47, 48, 196, 197, 198, 199, 200, 201, 202, 203, 204, 205, 206, 207, 208, 209, 210, 211, 212, 213, 214, 215, 216, 217, 218, 219, 220, 221, 222, 223, 224, 225, 226, 227, 228, 229] (by decide +kernel) (by decide +kernel)
set_option maxRecDepth 20000 in
theorem gX12_both0_X12_next : GoodIn wsX12_both0 (wsV RX12 171 RX12 yX12_next wsX12_next) := goodIn_app (goodIn_of _ (by decide +kernel)) ggX12_both0_X12_next
theorem dX12_both0_0 : decode cX12_both0 0 = .ok (.aload_n 0, 1) := by decide +kernel
theorem dX12_both0_1 : decode cX12_both0 1 = .ok (.invokevirtual 310, 3) := by decide +kernel
theorem dX12_both0_4 : decode cX12_both0 4 = .ok (.istore_n 1, 1) := by decide +kernel
theorem dX12_both0_5 : decode cX12_both0 5 = .ok (.aload_n 0, 1) := by decide +kernel
theorem dX12_both0_6 : decode cX12_both0 6 = .ok (.bipush 97, 2) := by decide +kernel
theorem dX12_both0_8 : decode cX12_both0 8 = .ok (.bipush 110, 2) := by decide +kernel
theorem dX12_both0_10 : decode cX12_both0 10 = .ok (.bipush 100, 2) := by decide +kernel
theorem dX12_both0_12 : decode cX12_both0 12 = .ok (.iconst 0, 1) := by decide +kernel
theorem dX12_both0_13 : decode cX12_both0 13 = .ok (.iconst 0, 1) := by decide +kernel
theorem dX12_both0_14 : decode cX12_both0 14 = .ok (.iconst 0, 1) := by decide +kernel
theorem dX12_both0_15 : decode cX12_both0 15 = .ok (.iconst 0, 1) := by decide +kernel
theorem dX12_both0_16 : decode cX12_both0 16 = .ok (.iconst 0, 1) := by decide +kernel
theorem dX12_both0_17 : decode cX12_both0 17 = .ok (.invokevirtual 174, 3) := by decide +kernel
theorem dX12_both0_20 : decode cX12_both0 20 = .ok (.ifCond .eq 29, 3) := by decide +kernel
theorem dX12_both0_23 : decode cX12_both0 23 = .ok (.aload_n 0, 1) := by decide +kernel
theorem dX12_both0_24 : decode cX12_both0 24 = .ok (.invokevirtual 171, 3) := by decide +kernel
theorem dX12_both0_27 : decode cX12_both0 27 = .ok (.aload_n 0, 1) := by decide +kernel
theorem dX12_both0_28 : decode cX12_both0 28 = .ok (.invokevirtual 310, 3) := by decide +kernel
theorem dX12_both0_31 : decode cX12_both0 31 = .ok (.istore_n 2, 1) := by decide +kernel
theorem dX12_both0_32 : decode cX12_both0 32 = .ok (.iload_n 1, 1) := by decide +kernel
theorem dX12_both0_33 : decode cX12_both0 33 = .ok (.ifCond .eq 11, 3) := by decide +kernel
theorem dX12_both0_36 : decode cX12_both0 36 = .ok (.iload_n 2, 1) := by decide +kernel
theorem dX12_both0_37 : decode cX12_both0 37 = .ok (.ifCond .eq 7, 3) := by decide +kernel
theorem dX12_both0_40 : decode cX12_both0 40 = .ok (.iconst 1, 1) := by decide +kernel
theorem dX12_both0_41 : decode cX12_both0 41 = .ok (.goto 4, 3) := by decide +kernel
theorem dX12_both0_44 : decode cX12_both0 44 = .ok (.iconst 0, 1) := by decide +kernel
theorem dX12_both0_45 : decode cX12_both0 45 = .ok (.istore_n 1, 1) := by decide +kernel
theorem dX12_both0_46 : decode cX12_both0 46 = .ok (.goto (-41), 3) := by decide +kernel
theorem dX12_both0_49 : decode cX12_both0 49 = .ok (.iload_n 1, 1) := by decide +kernel
theorem dX12_both0_50 : decode cX12_both0 50 = .ok (.ireturn, 1) := by decide +kernel
set_option maxRecDepth 20000 in
theorem ggX12_either0_X12_both0 : GoodIn wsX12_either0 wsX12_both0 := goodIn_r _ [5, 6, 7, 8, 4, 9, 10, 11, 12, 13, 14, 15, 16, 17, 18, 19, 20, 21, 22, 23, 24, 25, 26, 27, 28, 29, 30, 31, 32, 33, 34, 35, 36, 37, 38, 39, 40, 41, 42, 43, 44, 45, 46, 47, 48, 49, 50, 51, 52, 53, 54, 55, 56, 57, 58, 59, 60, 61, 62, 63, 64, 65, 66, 67, 68, 69, 70, 71, 72, 73, 74, 75, 76, 77, 78, 79, 80, 81, 82, 83, 84, 85, 86, 87, 88, 89, 90, 91, 92, 93, 94, 95, 96, 97, 98, 99, 100, 101, 102, 103, 104, 105, 106, 107, 108, 109, 110, 111, 112, 113, 114, 115, 116, 117, 118, 119, 120, 121, 122, 123, 124, 125, 126, 127, 128, 129, 130, 131, 132, 133, 134, 135, 136, 137, 138, 139, 140, 141, 142, 143, 144, 145, 146, 147, 148, 149, 150, 151, 152, 153, 154, 155, 156, 157, 158, 159, 160, 161, 162, 163, 164, 165, 166, 167, 168, 169, 170, 171, 172, 173, 174, 175, 176, 177, 178, 179, 180, 181, 182, 183, 184, 185, 186, 187, 188, 189, 190, 191, 192, 193, 194, 195, 196, 197, 198, 199, 200, 201, 202, 203, 204, 205, 206, 207, 208, 209, 210, 211, 212, 213, 214, 215, 216, 217, 218, 219, 220, 221, 222, 223, 224, 225, 226, 227, 228, 229, 230, 231, 232, 233] (by decide +kernel) (by decide +kernel)
set_option maxRecDepth 20000 in
theorem gX12_either0_X12_both0 : GoodIn wsX12_either0 (wsV RX12 313 RX12 yX12_both0 wsX12_both0) := goodIn_app (goodIn_of _ (by decide +kernel)) ggX12_either0_X12_both0
set_option maxRecDepth 20000 in
theorem ggX12_either0_X12_isWord : GoodIn wsX12_either0 wsX12_isWord := goodIn_r _ [16, 17, 18, 19, 20, 21, 22, 23, 4, 24, 25, 26, 27, 28, 29, 30, 31, 200, 201, 202, 203, 204, 205, 206, 207, 208, 209, 210, 211, 212, 213, 214, 215, 216, 217, 218, 219, 220, 221, 222, 223, 224, 225, 226, 227, 228, 229, 230, 231, 232, 233] (by decide +kernel) (by decide +kernel)
set_option maxRecDepth 20000 in
theorem gX12_either0_X12_isWord : GoodIn wsX12_either0 (wsV RX12 174 RX12 yX12_isWord wsX12_isWord) := goodIn_app (goodIn_of _ (by decide +kernel)) ggX12_either0_X12_isWord
set_option maxRecDepth 20000 in
theorem ggX12_either0_X12_next : GoodIn wsX12_either0 wsX12_next := goodIn_r _ [44, 19, 20, 18, 29, 45, 46, 47, 48, 11, 49, 25, 26, 27, 4, 28, 30, 31, 50, 51, 52, 200, 201, 202, 203, 204, 205, 206, 207, 208, 209, 210, 211, 212, 213, 214, 215, 216, 217, 218, 219, 220, 221, 222, 223, 224, 225, 226, 227, 228, 229, 230, 231, 232, 233] (by decide +kernel) (by decide +kernel)
set_option maxRecDepth 20000 in
theorem gX12_either0_X12_next : GoodIn wsX12_either0 (wsV RX12 171 RX12 yX12_next wsX12_next) := goodIn_app (goodIn_of _ (by decide +kernel)) ggX12_either0_X12_next
theorem dX12_either0_0 : decode cX12_either0 0 = .ok (.aload_n 0, 1) := by decide +kernel
theorem dX12_either0_1 : decode cX12_either0 1 = .ok (.invokevirtual 313, 3) := by decide +kernel
theorem dX12_either0_4 : decode cX12_either0 4 = .ok (.istore_n 1, 1) := by decide +kernel
theorem dX12_either0_5 : decode cX12_either0 5 = .ok (.aload_n 0, 1) := by decide +kernel
theorem dX12_either0_6 : decode cX12_either0 6 = .ok (.bipush 111, 2) := by decide +kernel
theorem dX12_either0_8 : decode cX12_either0 8 = .ok (.bipush 114, 2) := by decide +kernel
theorem dX12_either0_10 : decode cX12_either0 10 = .ok (.iconst 0, 1) := by decide +kernel
theorem dX12_either0_11 : decode cX12_either0 11 = .ok (.iconst 0, 1) := by decide +kernel
theorem dX12_either0_12 : decode cX12_either0 12 = .ok (.iconst 0, 1) := by decide +kernel
theorem dX12_either0_13 : decode cX12_either0 13 = .ok (.iconst 0, 1) := by decide +kernel
theorem dX12_either0_14 : decode cX12_either0 14 = .ok (.iconst 0, 1) := by decide +kernel
theorem dX12_either0_15 : decode cX12_either0 15 = .ok (.iconst 0, 1) := by decide +kernel
theorem dX12_either0_16 : decode cX12_either0 16 = .ok (.invokevirtual 174, 3) := by decide +kernel
theorem dX12_either0_19 : decode cX12_either0 19 = .ok (.ifCond .eq 29, 3) := by decide +kernel
theorem dX12_either0_22 : decode cX12_either0 22 = .ok (.aload_n 0, 1) := by decide +kernel
theorem dX12_either0_23 : decode cX12_either0 23 = .ok (.invokevirtual 171, 3) := by decide +kernel
theorem dX12_either0_26 : decode cX12_either0 26 = .ok (.aload_n 0, 1) := by decide +kernel
theorem dX12_either0_27 : decode cX12_either0 27 = .ok (.invokevirtual 313, 3) := by decide +kernel
theorem dX12_either0_30 : decode cX12_either0 30 = .ok (.istore_n 2, 1) := by decide +kernel
theorem dX12_either0_31 : decode cX12_either0 31 = .ok (.iload_n 1, 1) := by decide +kernel
theorem dX12_either0_32 : decode cX12_either0 32 = .ok (.ifCond .ne 7, 3) := by decide +kernel
theorem dX12_either0_35 : decode cX12_either0 35 = .ok (.iload_n 2, 1) := by decide +kernel
theorem dX12_either0_36 : decode cX12_either0 36 = .ok (.ifCond .eq 7, 3) := by decide +kernel
theorem dX12_either0_39 : decode cX12_either0 39 = .ok (.iconst 1, 1) := by decide +kernel
theorem dX12_either0_40 : decode cX12_either0 40 = .ok (.goto 4, 3) := by decide +kernel
theorem dX12_either0_43 : decode cX12_either0 43 = .ok (.iconst 0, 1) := by decide +kernel
theorem dX12_either0_44 : decode cX12_either0 44 = .ok (.istore_n 1, 1) := by decide +kernel
theorem dX12_either0_45 : decode cX12_either0 45 = .ok (.goto (-40), 3) := by decide +kernel
theorem dX12_either0_48 : decode cX12_either0 48 = .ok (.iload_n 1, 1) := by decide +kernel
theorem dX12_either0_49 : decode cX12_either0 49 = .ok (.ireturn, 1) := by decide +kernel
set_option maxRecDepth 20000 in
theorem ggX12_part_X12_fail : GoodIn wsX12_part wsX12_fail := goodIn_r _ [6, 1, 7, 8, 204, 205, 206, 207, 208, 209, 210, 211, 212, 213, 214, 215, 216, 217, 218, 219, 220, 221, 222, 223, 224, 225, 226, 227, 228, 229, 230, 231, 232, 233, 234, 235, 236, 237] (by decide +kernel) (by decide +kernel)
set_option maxRecDepth 20000 in
theorem gX12_part_X12_fail : GoodIn wsX12_part (wsV RX12 168 RX12 yX12_fail wsX12_fail) := goodIn_app (goodIn_of _ (by decide +kernel)) ggX12_part_X12_fail
set_option maxRecDepth 20000 in
theorem ggX12_part_X12_next : GoodIn wsX12_part wsX12_next := goodIn_r _ [12, 13, 7, 14, 15, 16, 17, 18, 19, 20, 21, 22, 23, 24, 5, 25, 26, 27, 28, 29, 30, 204, 205, 206, 207, 208, 209, 210, 211, 212, 213, 214, 215, 216, 217, 218, 219, 220, 221, 222, 223, 224, 225, 226, 227, 228, 229, 230, 231, 232, 233, 234, 235, 236, 237] (by decide +kernel) (by decide +kernel)
set_option maxRecDepth 20000 in
theorem gX12_part_X12_next : GoodIn wsX12_part (wsV RX12 171 RX12 yX12_next wsX12_next) := goodIn_app (goodIn_of _ (by decide +kernel)) ggX12_part_X12_next
set_option maxRecDepth 20000 in
theorem ggX12_part_X12_either0 : GoodIn wsX12_part wsX12_either0 := goodIn_r _ [34, 35, 36, 37, 5, 38, 39, 40, 41, 42, 43, 20, 44, 45, 46, 47, 48, 1, 14, 13, 7, 49, 50, 51, 52, 22, 23, 24, 25, 15, 26, 27, 53, 54, 55, 56, 2, 3, 4, 6, 8, 9, 10, 11, 12, 16, 17, 18, 19, 21, 28, 29, 30, 57, 58, 59, 60, 61, 62, 63, 64, 65, 66, 67, 68, 69, 70, 71, 72, 73, 74, 75, 76, 77, 78, 79, 80, 81, 82, 83, 84, 85, 86, 87, 88, 89, 90, 91, 92, 93, 94, 95, 96, 97, 98, 99, 100, 101, 102, 103, 104, 105, 106, 107, 108, 109, 110, 111, 112, 113, 114, 115, 116, 117, 118, 119, 120, 121, 122, 123, 124, 125, 126, 127, 128, 129, 130, 131, 132, 133, 134, 135, 136, 137, 138, 139, 140, 141, 142, 143, 144, 145, 146, 147, 148, 149, 150, 151, 152, 153, 154, 155, 156, 157, 158, 159, 160, 161, 162, 163, 164, 165, 166, 167, 168, 169, 170, 171, 172, 173, 174, 175, 176, 177, 178, 179, 180, 181, 182, 183, 184, 185, 186, 187, 188, 189, 190, 191, 192, 193, 194, 195, 196, 197, 198, 199, 200, 201, 202, 203, 204, 205, 206, 207, 208, 209, 210, 211, 212, 213, 214, 215, 216, 217, 218, 219, 220, 221, 222, 223, 224, 225, 226, 227, 228, 229, 230, 231, 232, 233, 234, 235, 236, 237] (by decide +kernel) (by decide +kernel)
set_option maxRecDepth 20000 in
theorem gX12_part_X12_either0 : GoodIn wsX12_part (wsV RX12 316 RX12 yX12_either0 wsX12_either0) := goodIn_app (goodIn_of _ (by decide +kernel)) ggX12_part_X12_either0
set_option maxRecDepth 20000 in
theorem ggX12_part_X12_isSign : GoodIn wsX12_part wsX12_isSign := goodIn_r _ [93, 1, 14, 20, 204, 205, 206, 207, 208, 209, 210, 211, 212, 213, 214, 215, 216, 217, 218, 219, 220, 221, 222, 223, 224, 225, 226, 227, 228, 229, 230, 231, 232, 233, 234, 235, 236, 237] (by decide +kernel) (by decide +kernel)
set_option maxRecDepth 20000 in
theorem gX12_part_X12_isSign : GoodIn wsX12_part (wsV RX12 196 RX12 yX12_isSign wsX12_isSign) := goodIn_app (goodIn_of _ (by decide +kernel)) ggX12_part_X12_isSign
theorem dX12_part_0 : decode cX12_part 0 = .ok (.iload_n 1, 1) := by decide +kernel
theorem dX12_part_1 : decode cX12_part 1 = .ok (.ifCond .ne 7, 3) := by decide +kernel
theorem dX12_part_4 : decode cX12_part 4 = .ok (.aload_n 0, 1) := by decide +kernel
theorem dX12_part_5 : decode cX12_part 5 = .ok (.invokevirtual 168, 3) := by decide +kernel
theorem dX12_part_8 : decode cX12_part 8 = .ok (.aload_n 0, 1) := by decide +kernel
theorem dX12_part_9 : decode cX12_part 9 = .ok (.getfield 154, 3) := by decide +kernel
theorem dX12_part_12 : decode cX12_part 12 = .ok (.ifCond .ne 7, 3) := by decide +kernel
theorem dX12_part_15 : decode cX12_part 15 = .ok (.aload_n 0, 1) := by decide +kernel
theorem dX12_part_16 : decode cX12_part 16 = .ok (.invokevirtual 171, 3) := by decide +kernel
theorem dX12_part_19 : decode cX12_part 19 = .ok (.aload_n 0, 1) := by decide +kernel
theorem dX12_part_20 : decode cX12_part 20 = .ok (.getfield 154, 3) := by decide +kernel
theorem dX12_part_23 : decode cX12_part 23 = .ok (.ifCond .eq 7, 3) := by decide +kernel
theorem dX12_part_26 : decode cX12_part 26 = .ok (.iconst 0, 1) := by decide +kernel
theorem dX12_part_27 : decode cX12_part 27 = .ok (.goto 7, 3) := by decide +kernel
theorem dX12_part_30 : decode cX12_part 30 = .ok (.aload_n 0, 1) := by decide +kernel
theorem dX12_part_31 : decode cX12_part 31 = .ok (.invokevirtual 316, 3) := by decide +kernel
theorem dX12_part_34 : decode cX12_part 34 = .ok (.istore_n 2, 1) := by decide +kernel
theorem dX12_part_35 : decode cX12_part 35 = .ok (.aload_n 0, 1) := by decide +kernel
theorem dX12_part_36 : decode cX12_part 36 = .ok (.bipush 59, 2) := by decide +kernel
theorem dX12_part_38 : decode cX12_part 38 = .ok (.invokevirtual 196, 3) := by decide +kernel
theorem dX12_part_41 : decode cX12_part 41 = .ok (.ifCond .ne 7, 3) := by decide +kernel
theorem dX12_part_44 : decode cX12_part 44 = .ok (.aload_n 0, 1) := by decide +kernel
theorem dX12_part_45 : decode cX12_part 45 = .ok (.invokevirtual 168, 3) := by decide +kernel
theorem dX12_part_48 : decode cX12_part 48 = .ok (.aload_n 0, 1) := by decide +kernel
theorem dX12_part_49 : decode cX12_part 49 = .ok (.getfield 154, 3) := by decide +kernel
theorem dX12_part_52 : decode cX12_part 52 = .ok (.ifCond .ne 7, 3) := by decide +kernel
theorem dX12_part_55 : decode cX12_part 55 = .ok (.aload_n 0, 1) := by decide +kernel
theorem dX12_part_56 : decode cX12_part 56 = .ok (.invokevirtual 171, 3) := by decide +kernel
theorem dX12_part_59 : decode cX12_part 59 = .ok (.iload_n 2, 1) := by decide +kernel
theorem dX12_part_60 : decode cX12_part 60 = .ok (.ireturn, 1) := by decide +kernel
set_option maxRecDepth 20000 in
theorem ggX12_read_X12_next : GoodIn wsX12_read wsX12_next := goodIn_r _ [12, 4, 13, 7, 3, 14, 15, 16, 17, 18, 19, 20, 21, 22, 11, 23, 24, 1, 25, 26, 27, 209, 210, 211, 212, 213, 214, 215, 216, 217, 218, 219, 220, 221, 222, 223, 224, 225, 226, 227, 228, 229, 230, 231, 232, 233, 234, 235, 236, 237, 238, 239, 240, 241, 242] (by decide +kernel) (by decide +kernel)
set_option maxRecDepth 20000 in
theorem gX12_read_X12_next : GoodIn wsX12_read (wsV RX12 171 RX12 yX12_next wsX12_next) := goodIn_app (goodIn_of _ (by decide +kernel)) ggX12_read_X12_next
set_option maxRecDepth 20000 in
theorem ggX12_read_X12_isWord : GoodIn wsX12_read wsX12_isWord := goodIn_r _ [31, 6, 7, 4, 13, 32, 33, 34, 11, 35, 20, 21, 22, 23, 3, 24, 1, 209, 210, 211, 212, 213, 214, 215, 216, 217, 218, 219, 220, 221, 222, 223, 224, 225, 226, 227, 228, 229, 230, 231, 232, 233, 234, 235, 236, 237, 238, 239, 240, 241, 242] (by decide +kernel) (by decide +kernel)
set_option maxRecDepth 20000 in
theorem gX12_read_X12_isWord : GoodIn wsX12_read (wsV RX12 174 RX12 yX12_isWord wsX12_isWord) := goodIn_app (goodIn_of _ (by decide +kernel)) ggX12_read_X12_isWord
set_option maxRecDepth 20000 in
theorem ggX12_read_X12_part : GoodIn wsX12_read wsX12_part := goodIn_r _ [39, 6, 40, 41, 42, 11, 43, 13, 44, 8, 9, 10, 12, 4, 7, 3, 14, 15, 16, 17, 18, 19, 20, 21, 22, 23, 24, 1, 25, 26, 27, 45, 46, 47, 48, 49, 50, 51, 52, 53, 54, 55, 56, 5, 57, 28, 29, 30, 31, 32, 33, 34, 35, 58, 59, 60, 61, 62, 63, 64, 65, 66, 67, 68, 69, 70, 71, 72, 73, 74, 75, 76, 77, 78, 79, 80, 81, 82, 83, 84, 85, 86, 87, 88, 89, 90, 91, 92, 93, 94, 95, 96, 97, 98, 99, 100, 101, 102, 103, 104, 105, 106, 107, 108, 109, 110, 111, 112, 113, 114, 115, 116, 117, 118, 119, 120, 121, 122, 123, 124, 125, 126, 127, 128, 129, 130, 131, 132, 133, 134, 135, 136, 137, 138, 139, 140, 141, 142, 143, 144, 145, 146, 147, 148, 149, 150, 151, 152, 153, 154, 155, 156, 157, 158, 159, 160, 161, 162, 163, 164, 165, 166, 167, 168, 169, 170, 171, 172, 173, 174, 175, 176, 177, 178, 179, 180, 181, 182, 183, 184, 185, 186, 187, 188, 189, 190, 191, 192, 193, 194, 195, 196, 197, 198, 199, 200, 201, 202, 203, 204, 205, 206, 207, 208, 209, 210, 211, 212, 213, 214, 215, 216, 217, 218, 219, 220, 221, 222, 223, 224, 225, 226, 227, 228, 229, 230, 231, 232, 233, 234, 235, 236, 237, 238, 239, 240, 241, 242] (by decide +kernel) (by decide +kernel)
set_option maxRecDepth 20000 in
theorem gX12_read_X12_part : GoodIn wsX12_read (wsV RX12 319 RX12 yX12_part wsX12_part) := goodIn_app (goodIn_of _ (by decide +kernel)) ggX12_read_X12_part
set_option maxRecDepth 20000 in
theorem ggX12_read_X12_fail : GoodIn wsX12_read wsX12_fail := goodIn_r _ [43, 6, 13, 44, 209, 210, 211, 212, 213, 214, 215, 216, 217, 218, 219, 220, 221, 222, 223, 224, 225, 226, 227, 228, 229, 230, 231, 232, 233, 234, 235, 236, 237, 238, 239, 240, 241, 242] (by decide +kernel) (by decide +kernel)
set_option maxRecDepth 20000 in
theorem gX12_read_X12_fail : GoodIn wsX12_read (wsV RX12 168 RX12 yX12_fail wsX12_fail) := goodIn_app (goodIn_of _ (by decide +kernel)) ggX12_read_X12_fail
theorem dX12_read_0 : decode cX12_read 0 = .ok (.aload_n 0, 1) := by decide +kernel
theorem dX12_read_1 : decode cX12_read 1 = .ok (.sipush 160, 3) := by decide +kernel
theorem dX12_read_4 : decode cX12_read 4 = .ok (.iload_n 1, 1) := by decide +kernel
theorem dX12_read_5 : decode cX12_read 5 = .ok (.imul, 1) := by decide +kernel
theorem dX12_read_6 : decode cX12_read 6 = .ok (.putfield 125, 3) := by decide +kernel
theorem dX12_read_9 : decode cX12_read 9 = .ok (.aload_n 0, 1) := by decide +kernel
theorem dX12_read_10 : decode cX12_read 10 = .ok (.aload_n 0, 1) := by decide +kernel
theorem dX12_read_11 : decode cX12_read 11 = .ok (.getfield 17, 3) := by decide +kernel
theorem dX12_read_14 : decode cX12_read 14 = .ok (.iload_n 1, 1) := by decide +kernel
theorem dX12_read_15 : decode cX12_read 15 = .ok (.iaload, 1) := by decide +kernel
theorem dX12_read_16 : decode cX12_read 16 = .ok (.putfield 122, 3) := by decide +kernel
theorem dX12_read_19 : decode cX12_read 19 = .ok (.aload_n 0, 1) := by decide +kernel
theorem dX12_read_20 : decode cX12_read 20 = .ok (.iconst 0, 1) := by decide +kernel
theorem dX12_read_21 : decode cX12_read 21 = .ok (.putfield 128, 3) := by decide +kernel
theorem dX12_read_24 : decode cX12_read 24 = .ok (.aload_n 0, 1) := by decide +kernel
theorem dX12_read_25 : decode cX12_read 25 = .ok (.iconst 0, 1) := by decide +kernel
theorem dX12_read_26 : decode cX12_read 26 = .ok (.putfield 165, 3) := by decide +kernel
theorem dX12_read_29 : decode cX12_read 29 = .ok (.aload_n 0, 1) := by decide +kernel
theorem dX12_read_30 : decode cX12_read 30 = .ok (.iconst 0, 1) := by decide +kernel
theorem dX12_read_31 : decode cX12_read 31 = .ok (.putfield 154, 3) := by decide +kernel
theorem dX12_read_34 : decode cX12_read 34 = .ok (.aload_n 0, 1) := by decide +kernel
theorem dX12_read_35 : decode cX12_read 35 = .ok (.invokevirtual 171, 3) := by decide +kernel
theorem dX12_read_38 : decode cX12_read 38 = .ok (.aload_n 0, 1) := by decide +kernel
theorem dX12_read_39 : decode cX12_read 39 = .ok (.aload_n 0, 1) := by decide +kernel
theorem dX12_read_40 : decode cX12_read 40 = .ok (.bipush 101, 2) := by decide +kernel
theorem dX12_read_42 : decode cX12_read 42 = .ok (.bipush 97, 2) := by decide +kernel
theorem dX12_read_44 : decode cX12_read 44 = .ok (.bipush 116, 2) := by decide +kernel
theorem dX12_read_46 : decode cX12_read 46 = .ok (.bipush 115, 2) := by decide +kernel
theorem dX12_read_48 : decode cX12_read 48 = .ok (.iconst 0, 1) := by decide +kernel
theorem dX12_read_49 : decode cX12_read 49 = .ok (.iconst 0, 1) := by decide +kernel
theorem dX12_read_50 : decode cX12_read 50 = .ok (.iconst 0, 1) := by decide +kernel
theorem dX12_read_51 : decode cX12_read 51 = .ok (.iconst 0, 1) := by decide +kernel
theorem dX12_read_52 : decode cX12_read 52 = .ok (.invokevirtual 174, 3) := by decide +kernel
theorem dX12_read_55 : decode cX12_read 55 = .ok (.invokevirtual 319, 3) := by decide +kernel
theorem dX12_read_58 : decode cX12_read 58 = .ok (.istore_n 3, 1) := by decide +kernel
theorem dX12_read_59 : decode cX12_read 59 = .ok (.aload_n 0, 1) := by decide +kernel
theorem dX12_read_60 : decode cX12_read 60 = .ok (.getfield 154, 3) := by decide +kernel
theorem dX12_read_63 : decode cX12_read 63 = .ok (.ifCond .eq 7, 3) := by decide +kernel
theorem dX12_read_66 : decode cX12_read 66 = .ok (.iconst 0, 1) := by decide +kernel
theorem dX12_read_67 : decode cX12_read 67 = .ok (.goto 23, 3) := by decide +kernel
theorem dX12_read_70 : decode cX12_read 70 = .ok (.aload_n 0, 1) := by decide +kernel
theorem dX12_read_71 : decode cX12_read 71 = .ok (.aload_n 0, 1) := by decide +kernel
theorem dX12_read_72 : decode cX12_read 72 = .ok (.bipush 111, 2) := by decide +kernel
theorem dX12_read_74 : decode cX12_read 74 = .ok (.bipush 100, 2) := by decide +kernel
theorem dX12_read_76 : decode cX12_read 76 = .ok (.bipush 100, 2) := by decide +kernel
theorem dX12_read_78 : decode cX12_read 78 = .ok (.bipush 115, 2) := by decide +kernel
theorem dX12_read_80 : decode cX12_read 80 = .ok (.iconst 0, 1) := by decide +kernel
theorem dX12_read_81 : decode cX12_read 81 = .ok (.iconst 0, 1) := by decide +kernel
theorem dX12_read_82 : decode cX12_read 82 = .ok (.iconst 0, 1) := by decide +kernel
theorem dX12_read_83 : decode cX12_read 83 = .ok (.iconst 0, 1) := by decide +kernel
theorem dX12_read_84 : decode cX12_read 84 = .ok (.invokevirtual 174, 3) := by decide +kernel
theorem dX12_read_87 : decode cX12_read 87 = .ok (.invokevirtual 319, 3) := by decide +kernel
theorem dX12_read_90 : decode cX12_read 90 = .ok (.istore 4, 2) := by decide +kernel
theorem dX12_read_92 : decode cX12_read 92 = .ok (.aload_n 0, 1) := by decide +kernel
theorem dX12_read_93 : decode cX12_read 93 = .ok (.getfield 154, 3) := by decide +kernel
theorem dX12_read_96 : decode cX12_read 96 = .ok (.ifCond .eq 7, 3) := by decide +kernel
theorem dX12_read_99 : decode cX12_read 99 = .ok (.iconst 0, 1) := by decide +kernel
theorem dX12_read_100 : decode cX12_read 100 = .ok (.goto 25, 3) := by decide +kernel
theorem dX12_read_103 : decode cX12_read 103 = .ok (.aload_n 0, 1) := by decide +kernel
theorem dX12_read_104 : decode cX12_read 104 = .ok (.aload_n 0, 1) := by decide +kernel
theorem dX12_read_105 : decode cX12_read 105 = .ok (.bipush 115, 2) := by decide +kernel
theorem dX12_read_107 : decode cX12_read 107 = .ok (.bipush 112, 2) := by decide +kernel
theorem dX12_read_109 : decode cX12_read 109 = .ok (.bipush 101, 2) := by decide +kernel
theorem dX12_read_111 : decode cX12_read 111 = .ok (.bipush 110, 2) := by decide +kernel
theorem dX12_read_113 : decode cX12_read 113 = .ok (.bipush 100, 2) := by decide +kernel
theorem dX12_read_115 : decode cX12_read 115 = .ok (.bipush 115, 2) := by decide +kernel
theorem dX12_read_117 : decode cX12_read 117 = .ok (.iconst 0, 1) := by decide +kernel
theorem dX12_read_118 : decode cX12_read 118 = .ok (.iconst 0, 1) := by decide +kernel
theorem dX12_read_119 : decode cX12_read 119 = .ok (.invokevirtual 174, 3) := by decide +kernel
theorem dX12_read_122 : decode cX12_read 122 = .ok (.invokevirtual 319, 3) := by decide +kernel
theorem dX12_read_125 : decode cX12_read 125 = .ok (.istore 5, 2) := by decide +kernel
theorem dX12_read_127 : decode cX12_read 127 = .ok (.aload_n 0, 1) := by decide +kernel
theorem dX12_read_128 : decode cX12_read 128 = .ok (.getfield 154, 3) := by decide +kernel
theorem dX12_read_131 : decode cX12_read 131 = .ok (.ifCond .ne 14, 3) := by decide +kernel
theorem dX12_read_134 : decode cX12_read 134 = .ok (.aload_n 0, 1) := by decide +kernel
theorem dX12_read_135 : decode cX12_read 135 = .ok (.getfield 137, 3) := by decide +kernel
theorem dX12_read_138 : decode cX12_read 138 = .ok (.ifCond .eq 7, 3) := by decide +kernel
theorem dX12_read_141 : decode cX12_read 141 = .ok (.aload_n 0, 1) := by decide +kernel
theorem dX12_read_142 : decode cX12_read 142 = .ok (.invokevirtual 168, 3) := by decide +kernel
theorem dX12_read_145 : decode cX12_read 145 = .ok (.iload_n 2, 1) := by decide +kernel
theorem dX12_read_146 : decode cX12_read 146 = .ok (.ifCond .ne 7, 3) := by decide +kernel
theorem dX12_read_149 : decode cX12_read 149 = .ok (.iload_n 3, 1) := by decide +kernel
theorem dX12_read_150 : decode cX12_read 150 = .ok (.goto 15, 3) := by decide +kernel
theorem dX12_read_153 : decode cX12_read 153 = .ok (.iload_n 2, 1) := by decide +kernel
theorem dX12_read_154 : decode cX12_read 154 = .ok (.iconst 1, 1) := by decide +kernel
theorem dX12_read_155 : decode cX12_read 155 = .ok (.if_icmp .ne 8, 3) := by decide +kernel
theorem dX12_read_158 : decode cX12_read 158 = .ok (.iload 4, 2) := by decide +kernel
theorem dX12_read_160 : decode cX12_read 160 = .ok (.goto 5, 3) := by decide +kernel
theorem dX12_read_163 : decode cX12_read 163 = .ok (.iload 5, 2) := by decide +kernel
theorem dX12_read_165 : decode cX12_read 165 = .ok (.ireturn, 1) := by decide +kernel
set_option maxRecDepth 20000 in
theorem ggX12_text_X12_read : GoodIn wsX12_text wsX12_read := goodIn_r _ [12, 13, 5, 14, 15, 16, 6, 17, 18, 19, 20, 11, 21, 22, 23, 24, 25, 26, 27, 28, 29, 30, 31, 32, 3, 33, 34, 35, 36, 37, 38, 39, 40, 41, 42, 43, 44, 45, 46, 47, 48, 49, 50, 51, 7, 52, 53, 54, 55, 56, 57, 58, 59, 60, 61, 62, 63, 64, 65, 66, 67, 68, 69, 70, 71, 72, 73, 74, 75, 76, 77, 78, 79, 80, 81, 82, 83, 84, 85, 86, 87, 88, 89, 90, 91, 92, 93, 94, 95, 96, 97, 98, 99, 100, 101, 102, 103, 104, 105, 106, 107, 108, 109, 110, 111, 112, 113, 114, 115, 116, 117, 118, 119, 120, 121, 122, 123, 124, 125, 126, 127, 128, 129, 130, 131, 132, 133, 134, 135, 136, 137, 138, 139, 140, 141, 142, 143, 144, 145, 146, 147, 148, 149, 150, 151, 152, 153, 154, 155, 156, 157, 158, 159, 160, 161, 162, 163, 164, 165, 166, 167, 168, 169, 170, 171, 172, 173, 174, 175, 176, 177, 178, 179, 180, 181, 182, 183, 184, 185, 186, 187, 188, 189, 190, 191, 192, 193, 194, 195, 196, 197, 198, 199, 200, 201, 202, 203, 204, 205, 206, 207, 208, 209, 210, 211, 212, 213, 214, 215, 216, 217, 218, 219, 220, 221, 222, 223, 224, 225, 226, 227, 228, 229, 230, 231, 232, 233, 234, 235, 236, 237, 238, 239, 240, 241, 242, 243, 244, 245, 246, 247, 248, 249] (by decide +kernel) (by decide +kernel)
set_option maxRecDepth 20000 in
theorem gX12_text_X12_read : GoodIn wsX12_text (wsV RX12 323 RX12 yX12_read wsX12_read) := goodIn_app (goodIn_of _ (by decide +kernel)) ggX12_text_X12_read
theorem dX12_text_0 : decode cX12_text 0 = .ok (.aload_n 0, 1) := by decide +kernel
theorem dX12_text_1 : decode cX12_text 1 = .ok (.getfield 58, 3) := by decide +kernel
theorem dX12_text_4 : decode cX12_text 4 = .ok (.bipush 6, 2) := by decide +kernel
theorem dX12_text_6 : decode cX12_text 6 = .ok (.if_icmp .ne 6, 3) := by decide +kernel
theorem dX12_text_9 : decode cX12_text 9 = .ok (.bipush (-4), 2) := by decide +kernel
theorem dX12_text_11 : decode cX12_text 11 = .ok (.ireturn, 1) := by decide +kernel
theorem dX12_text_12 : decode cX12_text 12 = .ok (.iconst 0, 1) := by decide +kernel
theorem dX12_text_13 : decode cX12_text 13 = .ok (.istore_n 1, 1) := by decide +kernel
theorem dX12_text_14 : decode cX12_text 14 = .ok (.iload_n 1, 1) := by decide +kernel
theorem dX12_text_15 : decode cX12_text 15 = .ok (.aload_n 0, 1) := by decide +kernel
theorem dX12_text_16 : decode cX12_text 16 = .ok (.getfield 119, 3) := by decide +kernel
theorem dX12_text_19 : decode cX12_text 19 = .ok (.if_icmp .ge 30, 3) := by decide +kernel
theorem dX12_text_22 : decode cX12_text 22 = .ok (.aload_n 0, 1) := by decide +kernel
theorem dX12_text_23 : decode cX12_text 23 = .ok (.getfield 13, 3) := by decide +kernel
theorem dX12_text_26 : decode cX12_text 26 = .ok (.sipush 160, 3) := by decide +kernel
theorem dX12_text_29 : decode cX12_text 29 = .ok (.aload_n 0, 1) := by decide +kernel
theorem dX12_text_30 : decode cX12_text 30 = .ok (.getfield 58, 3) := by decide +kernel
theorem dX12_text_33 : decode cX12_text 33 = .ok (.imul, 1) := by decide +kernel
theorem dX12_text_34 : decode cX12_text 34 = .ok (.iload_n 1, 1) := by decide +kernel
theorem dX12_text_35 : decode cX12_text 35 = .ok (.iadd, 1) := by decide +kernel
theorem dX12_text_36 : decode cX12_text 36 = .ok (.aload_n 0, 1) := by decide +kernel
theorem dX12_text_37 : decode cX12_text 37 = .ok (.getfield 20, 3) := by decide +kernel
theorem dX12_text_40 : decode cX12_text 40 = .ok (.iload_n 1, 1) := by decide +kernel
theorem dX12_text_41 : decode cX12_text 41 = .ok (.iaload, 1) := by decide +kernel
theorem dX12_text_42 : decode cX12_text 42 = .ok (.iastore, 1) := by decide +kernel
theorem dX12_text_43 : decode cX12_text 43 = .ok (.iinc 1 1, 3) := by decide +kernel
theorem dX12_text_46 : decode cX12_text 46 = .ok (.goto (-32), 3) := by decide +kernel
theorem dX12_text_49 : decode cX12_text 49 = .ok (.aload_n 0, 1) := by decide +kernel
theorem dX12_text_50 : decode cX12_text 50 = .ok (.getfield 17, 3) := by decide +kernel
theorem dX12_text_53 : decode cX12_text 53 = .ok (.aload_n 0, 1) := by decide +kernel
theorem dX12_text_54 : decode cX12_text 54 = .ok (.getfield 58, 3) := by decide +kernel
theorem dX12_text_57 : decode cX12_text 57 = .ok (.aload_n 0, 1) := by decide +kernel
theorem dX12_text_58 : decode cX12_text 58 = .ok (.getfield 119, 3) := by decide +kernel
theorem dX12_text_61 : decode cX12_text 61 = .ok (.iastore, 1) := by decide +kernel
theorem dX12_text_62 : decode cX12_text 62 = .ok (.aload_n 0, 1) := by decide +kernel
theorem dX12_text_63 : decode cX12_text 63 = .ok (.iconst 0, 1) := by decide +kernel
theorem dX12_text_64 : decode cX12_text 64 = .ok (.putfield 119, 3) := by decide +kernel
theorem dX12_text_67 : decode cX12_text 67 = .ok (.aload_n 0, 1) := by decide +kernel
theorem dX12_text_68 : decode cX12_text 68 = .ok (.aload_n 0, 1) := by decide +kernel
theorem dX12_text_69 : decode cX12_text 69 = .ok (.getfield 58, 3) := by decide +kernel
theorem dX12_text_72 : decode cX12_text 72 = .ok (.iconst 0, 1) := by decide +kernel
theorem dX12_text_73 : decode cX12_text 73 = .ok (.invokevirtual 323, 3) := by decide +kernel
theorem dX12_text_76 : decode cX12_text 76 = .ok (.istore_n 1, 1) := by decide +kernel
theorem dX12_text_77 : decode cX12_text 77 = .ok (.aload_n 0, 1) := by decide +kernel
theorem dX12_text_78 : decode cX12_text 78 = .ok (.getfield 154, 3) := by decide +kernel
theorem dX12_text_81 : decode cX12_text 81 = .ok (.ifCond .eq 11, 3) := by decide +kernel
theorem dX12_text_84 : decode cX12_text 84 = .ok (.bipush (-100), 2) := by decide +kernel
theorem dX12_text_86 : decode cX12_text 86 = .ok (.aload_n 0, 1) := by decide +kernel
theorem dX12_text_87 : decode cX12_text 87 = .ok (.getfield 158, 3) := by decide +kernel
theorem dX12_text_90 : decode cX12_text 90 = .ok (.isub, 1) := by decide +kernel
theorem dX12_text_91 : decode cX12_text 91 = .ok (.ireturn, 1) := by decide +kernel
theorem dX12_text_92 : decode cX12_text 92 = .ok (.aload_n 0, 1) := by decide +kernel
theorem dX12_text_93 : decode cX12_text 93 = .ok (.dup, 1) := by decide +kernel
theorem dX12_text_94 : decode cX12_text 94 = .ok (.getfield 58, 3) := by decide +kernel
theorem dX12_text_97 : decode cX12_text 97 = .ok (.iconst 1, 1) := by decide +kernel
theorem dX12_text_98 : decode cX12_text 98 = .ok (.iadd, 1) := by decide +kernel
theorem dX12_text_99 : decode cX12_text 99 = .ok (.putfield 58, 3) := by decide +kernel
theorem dX12_text_102 : decode cX12_text 102 = .ok (.aload_n 0, 1) := by decide +kernel
theorem dX12_text_103 : decode cX12_text 103 = .ok (.getfield 58, 3) := by decide +kernel
theorem dX12_text_106 : decode cX12_text 106 = .ok (.iconst 1, 1) := by decide +kernel
theorem dX12_text_107 : decode cX12_text 107 = .ok (.isub, 1) := by decide +kernel
theorem dX12_text_108 : decode cX12_text 108 = .ok (.ireturn, 1) := by decide +kernel
set_option maxRecDepth 20000 in
theorem ggX12_force_X12_in : GoodIn wsX12_force wsX12_in := goodIn_r _ [6] (by decide +kernel) (by decide +kernel)
set_option maxRecDepth 20000 in
theorem gX12_force_X12_in : GoodIn wsX12_force (va_wsS RX12 64 yX12_in wsX12_in) := goodIn_app (goodIn_of _ (by decide +kernel)) ggX12_force_X12_in
theorem dX12_force_0 : decode cX12_force 0 = .ok (.iload_n 1, 1) := by decide +kernel
theorem dX12_force_1 : decode cX12_force 1 = .ok (.i2l, 1) := by decide +kernel
theorem dX12_force_2 : decode cX12_force 2 = .ok (.lconst 0, 1) := by decide +kernel
theorem dX12_force_3 : decode cX12_force 3 = .ok (.aload_n 0, 1) := by decide +kernel
theorem dX12_force_4 : decode cX12_force 4 = .ok (.getfield 58, 3) := by decide +kernel
theorem dX12_force_7 : decode cX12_force 7 = .ok (.iconst 1, 1) := by decide +kernel
theorem dX12_force_8 : decode cX12_force 8 = .ok (.isub, 1) := by decide +kernel
theorem dX12_force_9 : decode cX12_force 9 = .ok (.i2l, 1) := by decide +kernel
theorem dX12_force_10 : decode cX12_force 10 = .ok (.invokestatic 64, 3) := by decide +kernel
theorem dX12_force_13 : decode cX12_force 13 = .ok (.ifCond .ne 6, 3) := by decide +kernel
theorem dX12_force_16 : decode cX12_force 16 = .ok (.bipush (-2), 2) := by decide +kernel
theorem dX12_force_18 : decode cX12_force 18 = .ok (.ireturn, 1) := by decide +kernel
theorem dX12_force_19 : decode cX12_force 19 = .ok (.aload_n 0, 1) := by decide +kernel
theorem dX12_force_20 : decode cX12_force 20 = .ok (.getfield 89, 3) := by decide +kernel
theorem dX12_force_23 : decode cX12_force 23 = .ok (.istore_n 2, 1) := by decide +kernel
theorem dX12_force_24 : decode cX12_force 24 = .ok (.aload_n 0, 1) := by decide +kernel
theorem dX12_force_25 : decode cX12_force 25 = .ok (.iload_n 1, 1) := by decide +kernel
theorem dX12_force_26 : decode cX12_force 26 = .ok (.putfield 89, 3) := by decide +kernel
theorem dX12_force_29 : decode cX12_force 29 = .ok (.iload_n 2, 1) := by decide +kernel
theorem dX12_force_30 : decode cX12_force 30 = .ok (.ireturn, 1) := by decide +kernel
set_option maxRecDepth 20000 in
theorem ggX12_asks_X12_read : GoodIn wsX12_asks wsX12_read := goodIn_r _ [14, 15, 16, 17, 18, 19, 20, 21, 22, 23, 24, 13, 25, 26, 27, 28, 29, 30, 31, 32, 33, 34, 35, 36, 37, 38, 39, 40, 41, 42, 43, 44, 45, 46, 47, 48, 49, 50, 51, 52, 53, 54, 55, 56, 57, 58, 59, 60, 61, 62, 63, 64, 65, 66, 67, 68, 69, 70, 71, 72, 73, 74, 75, 76, 77, 78, 79, 80, 81, 82, 83, 84, 85, 86, 87, 88, 89, 90, 91, 92, 93, 94, 95, 96, 97, 98, 99, 100, 101, 102, 103, 104, 105, 106, 107, 108, 109, 110, 111, 112, 113, 114, 115, 2, 3, 4, 6, 7, 8, 116, 117, 118, 119, 120, 121, 122, 123, 124, 125, 126, 127, 128, 129, 130, 131, 132, 133, 134, 135, 136, 137, 138, 139, 140, 141, 142, 143, 144, 145, 146, 147, 148, 149, 150, 151, 152, 153, 154, 155, 156, 157, 158, 159, 160, 161, 162, 163, 164, 165, 166, 167, 168, 169, 170, 171, 172, 173, 174, 175, 176, 177, 178, 179, 180, 181, 182, 183, 184, 185, 186, 187, 188, 189, 190, 191, 192, 193, 194, 195, 196, 197, 198, 199, 200, 201, 202, 203, 204, 205, 206, 207, 208, 209, 210, 211, 212, 213, 214, 215, 219, 220, 221, 222, 223, 224, 225, 226, 227, 228, 229, 230, 231, 232, 233, 234, 235, 236, 237, 238, 239, 240, 241, 242, 243, 244, 245, 246, 247, 248, 249, 250, 251, 252] (by decide +kernel) (by decide +kernel)
set_option maxRecDepth 20000 in
theorem gX12_asks_X12_read : GoodIn wsX12_asks (wsV RX12 323 RX12 yX12_read wsX12_read) := goodIn_app (goodIn_of _ (by decide +kernel)) ggX12_asks_X12_read
set_option maxRecDepth 20000 in
theorem ggX12_asks_X12_within : GoodIn wsX12_asks wsX12_within := goodIn_r _ [218] (by decide +kernel) (by decide +kernel)
set_option maxRecDepth 20000 in
theorem gX12_asks_X12_within : GoodIn wsX12_asks (va_wsS RX12 326 yX12_within wsX12_within) := goodIn_app (goodIn_of _ (by decide +kernel)) ggX12_asks_X12_within
theorem dX12_asks_0 : decode cX12_asks 0 = .ok (.aload_n 0, 1) := by decide +kernel
theorem dX12_asks_1 : decode cX12_asks 1 = .ok (.aload_n 0, 1) := by decide +kernel
theorem dX12_asks_2 : decode cX12_asks 2 = .ok (.getfield 29, 3) := by decide +kernel
theorem dX12_asks_5 : decode cX12_asks 5 = .ok (.iconst 4, 1) := by decide +kernel
theorem dX12_asks_6 : decode cX12_asks 6 = .ok (.iload_n 2, 1) := by decide +kernel
theorem dX12_asks_7 : decode cX12_asks 7 = .ok (.imul, 1) := by decide +kernel
theorem dX12_asks_8 : decode cX12_asks 8 = .ok (.iconst 1, 1) := by decide +kernel
theorem dX12_asks_9 : decode cX12_asks 9 = .ok (.iadd, 1) := by decide +kernel
theorem dX12_asks_10 : decode cX12_asks 10 = .ok (.iaload, 1) := by decide +kernel
theorem dX12_asks_11 : decode cX12_asks 11 = .ok (.putfield 178, 3) := by decide +kernel
theorem dX12_asks_14 : decode cX12_asks 14 = .ok (.aload_n 0, 1) := by decide +kernel
theorem dX12_asks_15 : decode cX12_asks 15 = .ok (.aload_n 0, 1) := by decide +kernel
theorem dX12_asks_16 : decode cX12_asks 16 = .ok (.getfield 29, 3) := by decide +kernel
theorem dX12_asks_19 : decode cX12_asks 19 = .ok (.iconst 4, 1) := by decide +kernel
theorem dX12_asks_20 : decode cX12_asks 20 = .ok (.iload_n 2, 1) := by decide +kernel
theorem dX12_asks_21 : decode cX12_asks 21 = .ok (.imul, 1) := by decide +kernel
theorem dX12_asks_22 : decode cX12_asks 22 = .ok (.iconst 2, 1) := by decide +kernel
theorem dX12_asks_23 : decode cX12_asks 23 = .ok (.iadd, 1) := by decide +kernel
theorem dX12_asks_24 : decode cX12_asks 24 = .ok (.iaload, 1) := by decide +kernel
theorem dX12_asks_25 : decode cX12_asks 25 = .ok (.putfield 181, 3) := by decide +kernel
theorem dX12_asks_28 : decode cX12_asks 28 = .ok (.aload_n 0, 1) := by decide +kernel
theorem dX12_asks_29 : decode cX12_asks 29 = .ok (.aload_n 0, 1) := by decide +kernel
theorem dX12_asks_30 : decode cX12_asks 30 = .ok (.getfield 29, 3) := by decide +kernel
theorem dX12_asks_33 : decode cX12_asks 33 = .ok (.iconst 4, 1) := by decide +kernel
theorem dX12_asks_34 : decode cX12_asks 34 = .ok (.iload_n 2, 1) := by decide +kernel
theorem dX12_asks_35 : decode cX12_asks 35 = .ok (.imul, 1) := by decide +kernel
theorem dX12_asks_36 : decode cX12_asks 36 = .ok (.iaload, 1) := by decide +kernel
theorem dX12_asks_37 : decode cX12_asks 37 = .ok (.putfield 184, 3) := by decide +kernel
theorem dX12_asks_40 : decode cX12_asks 40 = .ok (.aload_n 0, 1) := by decide +kernel
theorem dX12_asks_41 : decode cX12_asks 41 = .ok (.aload_n 0, 1) := by decide +kernel
theorem dX12_asks_42 : decode cX12_asks 42 = .ok (.getfield 23, 3) := by decide +kernel
theorem dX12_asks_45 : decode cX12_asks 45 = .ok (.iconst 2, 1) := by decide +kernel
theorem dX12_asks_46 : decode cX12_asks 46 = .ok (.iaload, 1) := by decide +kernel
theorem dX12_asks_47 : decode cX12_asks 47 = .ok (.putfield 187, 3) := by decide +kernel
theorem dX12_asks_50 : decode cX12_asks 50 = .ok (.aload_n 0, 1) := by decide +kernel
theorem dX12_asks_51 : decode cX12_asks 51 = .ok (.aload_n 0, 1) := by decide +kernel
theorem dX12_asks_52 : decode cX12_asks 52 = .ok (.getfield 23, 3) := by decide +kernel
theorem dX12_asks_55 : decode cX12_asks 55 = .ok (.iconst 0, 1) := by decide +kernel
theorem dX12_asks_56 : decode cX12_asks 56 = .ok (.iaload, 1) := by decide +kernel
theorem dX12_asks_57 : decode cX12_asks 57 = .ok (.putfield 190, 3) := by decide +kernel
theorem dX12_asks_60 : decode cX12_asks 60 = .ok (.aload_n 0, 1) := by decide +kernel
theorem dX12_asks_61 : decode cX12_asks 61 = .ok (.aload_n 0, 1) := by decide +kernel
theorem dX12_asks_62 : decode cX12_asks 62 = .ok (.getfield 23, 3) := by decide +kernel
theorem dX12_asks_65 : decode cX12_asks 65 = .ok (.iconst 1, 1) := by decide +kernel
theorem dX12_asks_66 : decode cX12_asks 66 = .ok (.iaload, 1) := by decide +kernel
theorem dX12_asks_67 : decode cX12_asks 67 = .ok (.putfield 193, 3) := by decide +kernel
theorem dX12_asks_70 : decode cX12_asks 70 = .ok (.aload_n 0, 1) := by decide +kernel
theorem dX12_asks_71 : decode cX12_asks 71 = .ok (.aload_n 0, 1) := by decide +kernel
theorem dX12_asks_72 : decode cX12_asks 72 = .ok (.getfield 89, 3) := by decide +kernel
theorem dX12_asks_75 : decode cX12_asks 75 = .ok (.iload_n 1, 1) := by decide +kernel
theorem dX12_asks_76 : decode cX12_asks 76 = .ok (.invokevirtual 323, 3) := by decide +kernel
theorem dX12_asks_79 : decode cX12_asks 79 = .ok (.iconst 0, 1) := by decide +kernel
theorem dX12_asks_80 : decode cX12_asks 80 = .ok (.bipush 99, 2) := by decide +kernel
theorem dX12_asks_82 : decode cX12_asks 82 = .ok (.invokestatic 326, 3) := by decide +kernel
theorem dX12_asks_85 : decode cX12_asks 85 = .ok (.ireturn, 1) := by decide +kernel
set_option maxRecDepth 20000 in
theorem ggX12_eatsOf_X12_asks : GoodIn wsX12_eatsOf wsX12_asks := goodIn_r _ [8, 3, 9, 10, 11, 2, 12, 13, 14, 15, 16, 17, 18, 7, 19, 20, 21, 22, 23, 24, 25, 26, 27, 28, 29, 30, 31, 32, 33, 34, 35, 36, 37, 38, 39, 40, 41, 42, 43, 44, 45, 46, 47, 48, 49, 50, 51, 52, 53, 54, 55, 56, 57, 58, 59, 60, 61, 62, 63, 64, 65, 66, 67, 68, 69, 70, 71, 72, 73, 74, 75, 76, 77, 78, 79, 80, 81, 82, 83, 84, 85, 86, 87, 88, 89, 90, 91, 92, 93, 94, 95, 96, 97, 98, 99, 100, 101, 102, 103, 104, 105, 106, 107, 108, 109, 110, 111, 112, 113, 114, 115, 116, 117, 118, 119, 120, 121, 122, 123, 124, 125, 126, 127, 128, 129, 130, 131, 132, 133, 134, 135, 136, 137, 138, 139, 140, 141, 142, 143, 144, 145, 146, 147, 148, 149, 150, 151, 152, 153, 154, 155, 156, 157, 158, 159, 160, 161, 162, 163, 164, 165, 166, 167, 168, 169, 170, 171, 172, 173, 174, 175, 176, 177, 178, 179, 180, 181, 182, 183, 184, 185, 186, 187, 188, 189, 190, 191, 192, 193, 194, 195, 196, 197, 198, 199, 200, 201, 202, 203, 204, 205, 206, 207, 208, 209, 210, 211, 212, 213, 214, 215, 216, 217, 218, 219, 220, 221, 222, 223, 224, 225, 226, 227, 228, 229, 230, 231, 232, 233, 234, 235, 236, 237, 238, 239, 240, 241, 242, 243, 244, 245, 246, 247, 248, 249, 250, 251, 252, 253, 254, 255, 256, 257] (by decide +kernel) (by decide +kernel)
set_option maxRecDepth 20000 in
theorem gX12_eatsOf_X12_asks : GoodIn wsX12_eatsOf (wsV RX12 330 RX12 yX12_asks wsX12_asks) := goodIn_app (goodIn_of _ (by decide +kernel)) ggX12_eatsOf_X12_asks
set_option maxRecDepth 20000 in
theorem ggX12_eatsOf_X12_within : GoodIn wsX12_eatsOf wsX12_within := goodIn_r _ [223] (by decide +kernel) (by decide +kernel)
set_option maxRecDepth 20000 in
theorem gX12_eatsOf_X12_within : GoodIn wsX12_eatsOf (va_wsS RX12 326 yX12_within wsX12_within) := goodIn_app (goodIn_of _ (by decide +kernel)) ggX12_eatsOf_X12_within
theorem dX12_eatsOf_0 : decode cX12_eatsOf 0 = .ok (.aload_n 0, 1) := by decide +kernel
theorem dX12_eatsOf_1 : decode cX12_eatsOf 1 = .ok (.getfield 26, 3) := by decide +kernel
theorem dX12_eatsOf_4 : decode cX12_eatsOf 4 = .ok (.iload_n 1, 1) := by decide +kernel
theorem dX12_eatsOf_5 : decode cX12_eatsOf 5 = .ok (.iaload, 1) := by decide +kernel
theorem dX12_eatsOf_6 : decode cX12_eatsOf 6 = .ok (.istore_n 2, 1) := by decide +kernel
theorem dX12_eatsOf_7 : decode cX12_eatsOf 7 = .ok (.iload_n 2, 1) := by decide +kernel
theorem dX12_eatsOf_8 : decode cX12_eatsOf 8 = .ok (.iconst 4, 1) := by decide +kernel
theorem dX12_eatsOf_9 : decode cX12_eatsOf 9 = .ok (.if_icmp .ne 15, 3) := by decide +kernel
theorem dX12_eatsOf_12 : decode cX12_eatsOf 12 = .ok (.aload_n 0, 1) := by decide +kernel
theorem dX12_eatsOf_13 : decode cX12_eatsOf 13 = .ok (.getfield 23, 3) := by decide +kernel
theorem dX12_eatsOf_16 : decode cX12_eatsOf 16 = .ok (.iconst 2, 1) := by decide +kernel
theorem dX12_eatsOf_17 : decode cX12_eatsOf 17 = .ok (.iaload, 1) := by decide +kernel
theorem dX12_eatsOf_18 : decode cX12_eatsOf 18 = .ok (.iconst 1, 1) := by decide +kernel
theorem dX12_eatsOf_19 : decode cX12_eatsOf 19 = .ok (.if_icmp .ne 5, 3) := by decide +kernel
theorem dX12_eatsOf_22 : decode cX12_eatsOf 22 = .ok (.iconst 1, 1) := by decide +kernel
theorem dX12_eatsOf_23 : decode cX12_eatsOf 23 = .ok (.ireturn, 1) := by decide +kernel
theorem dX12_eatsOf_24 : decode cX12_eatsOf 24 = .ok (.aload_n 0, 1) := by decide +kernel
theorem dX12_eatsOf_25 : decode cX12_eatsOf 25 = .ok (.iconst 0, 1) := by decide +kernel
theorem dX12_eatsOf_26 : decode cX12_eatsOf 26 = .ok (.iload_n 1, 1) := by decide +kernel
theorem dX12_eatsOf_27 : decode cX12_eatsOf 27 = .ok (.invokevirtual 330, 3) := by decide +kernel
theorem dX12_eatsOf_30 : decode cX12_eatsOf 30 = .ok (.istore_n 3, 1) := by decide +kernel
theorem dX12_eatsOf_31 : decode cX12_eatsOf 31 = .ok (.iload_n 2, 1) := by decide +kernel
theorem dX12_eatsOf_32 : decode cX12_eatsOf 32 = .ok (.iconst 1, 1) := by decide +kernel
theorem dX12_eatsOf_33 : decode cX12_eatsOf 33 = .ok (.if_icmp .ne 9, 3) := by decide +kernel
theorem dX12_eatsOf_36 : decode cX12_eatsOf 36 = .ok (.iconst 2, 1) := by decide +kernel
theorem dX12_eatsOf_37 : decode cX12_eatsOf 37 = .ok (.iload_n 3, 1) := by decide +kernel
theorem dX12_eatsOf_38 : decode cX12_eatsOf 38 = .ok (.imul, 1) := by decide +kernel
theorem dX12_eatsOf_39 : decode cX12_eatsOf 39 = .ok (.goto 67, 3) := by decide +kernel
theorem dX12_eatsOf_42 : decode cX12_eatsOf 42 = .ok (.iload_n 2, 1) := by decide +kernel
theorem dX12_eatsOf_43 : decode cX12_eatsOf 43 = .ok (.iconst 3, 1) := by decide +kernel
theorem dX12_eatsOf_44 : decode cX12_eatsOf 44 = .ok (.if_icmp .ne 23, 3) := by decide +kernel
theorem dX12_eatsOf_47 : decode cX12_eatsOf 47 = .ok (.iconst 2, 1) := by decide +kernel
theorem dX12_eatsOf_48 : decode cX12_eatsOf 48 = .ok (.iload_n 3, 1) := by decide +kernel
theorem dX12_eatsOf_49 : decode cX12_eatsOf 49 = .ok (.imul, 1) := by decide +kernel
theorem dX12_eatsOf_50 : decode cX12_eatsOf 50 = .ok (.aload_n 0, 1) := by decide +kernel
theorem dX12_eatsOf_51 : decode cX12_eatsOf 51 = .ok (.getfield 29, 3) := by decide +kernel
theorem dX12_eatsOf_54 : decode cX12_eatsOf 54 = .ok (.iconst 4, 1) := by decide +kernel
theorem dX12_eatsOf_55 : decode cX12_eatsOf 55 = .ok (.iload_n 1, 1) := by decide +kernel
theorem dX12_eatsOf_56 : decode cX12_eatsOf 56 = .ok (.imul, 1) := by decide +kernel
theorem dX12_eatsOf_57 : decode cX12_eatsOf 57 = .ok (.iconst 2, 1) := by decide +kernel
theorem dX12_eatsOf_58 : decode cX12_eatsOf 58 = .ok (.iadd, 1) := by decide +kernel
theorem dX12_eatsOf_59 : decode cX12_eatsOf 59 = .ok (.iaload, 1) := by decide +kernel
theorem dX12_eatsOf_60 : decode cX12_eatsOf 60 = .ok (.bipush 10, 2) := by decide +kernel
