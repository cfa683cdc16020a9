theorem dX12_term0_20 : decode cX12_term0 20 = .ok (.invokevirtual 301, 3) := by decide +kernel
theorem dX12_term0_23 : decode cX12_term0 23 = .ok (.imul, 1) := by decide +kernel
theorem dX12_term0_24 : decode cX12_term0 24 = .ok (.istore_n 1, 1) := by decide +kernel
theorem dX12_term0_25 : decode cX12_term0 25 = .ok (.goto (-20), 3) := by decide +kernel
theorem dX12_term0_28 : decode cX12_term0 28 = .ok (.iload_n 1, 1) := by decide +kernel
theorem dX12_term0_29 : decode cX12_term0 29 = .ok (.ireturn, 1) := by decide +kernel
theorem dX12_added0_0 : decode cX12_added0 0 = .ok (.aload_n 0, 1) := by decide +kernel
theorem dX12_added0_1 : decode cX12_added0 1 = .ok (.invokevirtual 304, 3) := by decide +kernel
theorem dX12_added0_4 : decode cX12_added0 4 = .ok (.istore_n 1, 1) := by decide +kernel
theorem dX12_added0_5 : decode cX12_added0 5 = .ok (.aload_n 0, 1) := by decide +kernel
theorem dX12_added0_6 : decode cX12_added0 6 = .ok (.bipush 43, 2) := by decide +kernel
theorem dX12_added0_8 : decode cX12_added0 8 = .ok (.invokevirtual 196, 3) := by decide +kernel
theorem dX12_added0_11 : decode cX12_added0 11 = .ok (.ifCond .ne 12, 3) := by decide +kernel
theorem dX12_added0_14 : decode cX12_added0 14 = .ok (.aload_n 0, 1) := by decide +kernel
theorem dX12_added0_15 : decode cX12_added0 15 = .ok (.bipush 45, 2) := by decide +kernel
theorem dX12_added0_17 : decode cX12_added0 17 = .ok (.invokevirtual 196, 3) := by decide +kernel
theorem dX12_added0_20 : decode cX12_added0 20 = .ok (.ifCond .eq 46, 3) := by decide +kernel
theorem dX12_added0_23 : decode cX12_added0 23 = .ok (.aload_n 0, 1) := by decide +kernel
theorem dX12_added0_24 : decode cX12_added0 24 = .ok (.getfield 148, 3) := by decide +kernel
theorem dX12_added0_27 : decode cX12_added0 27 = .ok (.ldc2_w 213, 3) := by decide +kernel
theorem dX12_added0_30 : decode cX12_added0 30 = .ok (.lcmp, 1) := by decide +kernel
theorem dX12_added0_31 : decode cX12_added0 31 = .ok (.ifCond .ne 7, 3) := by decide +kernel
theorem dX12_added0_34 : decode cX12_added0 34 = .ok (.iconst 1, 1) := by decide +kernel
theorem dX12_added0_35 : decode cX12_added0 35 = .ok (.goto 4, 3) := by decide +kernel
theorem dX12_added0_38 : decode cX12_added0 38 = .ok (.iconst 0, 1) := by decide +kernel
theorem dX12_added0_39 : decode cX12_added0 39 = .ok (.istore_n 2, 1) := by decide +kernel
theorem dX12_added0_40 : decode cX12_added0 40 = .ok (.aload_n 0, 1) := by decide +kernel
theorem dX12_added0_41 : decode cX12_added0 41 = .ok (.invokevirtual 171, 3) := by decide +kernel
theorem dX12_added0_44 : decode cX12_added0 44 = .ok (.aload_n 0, 1) := by decide +kernel
theorem dX12_added0_45 : decode cX12_added0 45 = .ok (.invokevirtual 304, 3) := by decide +kernel
theorem dX12_added0_48 : decode cX12_added0 48 = .ok (.istore_n 3, 1) := by decide +kernel
theorem dX12_added0_49 : decode cX12_added0 49 = .ok (.iload_n 2, 1) := by decide +kernel
theorem dX12_added0_50 : decode cX12_added0 50 = .ok (.ifCond .eq 9, 3) := by decide +kernel
theorem dX12_added0_53 : decode cX12_added0 53 = .ok (.iload_n 1, 1) := by decide +kernel
theorem dX12_added0_54 : decode cX12_added0 54 = .ok (.iload_n 3, 1) := by decide +kernel
theorem dX12_added0_55 : decode cX12_added0 55 = .ok (.iadd, 1) := by decide +kernel
theorem dX12_added0_56 : decode cX12_added0 56 = .ok (.goto 6, 3) := by decide +kernel
theorem dX12_added0_59 : decode cX12_added0 59 = .ok (.iload_n 1, 1) := by decide +kernel
theorem dX12_added0_60 : decode cX12_added0 60 = .ok (.iload_n 3, 1) := by decide +kernel
theorem dX12_added0_61 : decode cX12_added0 61 = .ok (.isub, 1) := by decide +kernel
theorem dX12_added0_62 : decode cX12_added0 62 = .ok (.istore_n 1, 1) := by decide +kernel
theorem dX12_added0_63 : decode cX12_added0 63 = .ok (.goto (-58), 3) := by decide +kernel
theorem dX12_added0_66 : decode cX12_added0 66 = .ok (.iload_n 1, 1) := by decide +kernel
theorem dX12_added0_67 : decode cX12_added0 67 = .ok (.ireturn, 1) := by decide +kernel
theorem dX12_not0_0 : decode cX12_not0 0 = .ok (.aload_n 0, 1) := by decide +kernel
theorem dX12_not0_1 : decode cX12_not0 1 = .ok (.bipush 110, 2) := by decide +kernel
theorem dX12_not0_3 : decode cX12_not0 3 = .ok (.bipush 111, 2) := by decide +kernel
theorem dX12_not0_5 : decode cX12_not0 5 = .ok (.bipush 116, 2) := by decide +kernel
theorem dX12_not0_7 : decode cX12_not0 7 = .ok (.iconst 0, 1) := by decide +kernel
theorem dX12_not0_8 : decode cX12_not0 8 = .ok (.iconst 0, 1) := by decide +kernel
theorem dX12_not0_9 : decode cX12_not0 9 = .ok (.iconst 0, 1) := by decide +kernel
theorem dX12_not0_10 : decode cX12_not0 10 = .ok (.iconst 0, 1) := by decide +kernel
theorem dX12_not0_11 : decode cX12_not0 11 = .ok (.iconst 0, 1) := by decide +kernel
theorem dX12_not0_12 : decode cX12_not0 12 = .ok (.invokevirtual 174, 3) := by decide +kernel
theorem dX12_not0_15 : decode cX12_not0 15 = .ok (.ifCond .eq 37, 3) := by decide +kernel
theorem dX12_not0_18 : decode cX12_not0 18 = .ok (.aload_n 0, 1) := by decide +kernel
theorem dX12_not0_19 : decode cX12_not0 19 = .ok (.invokevirtual 199, 3) := by decide +kernel
theorem dX12_not0_22 : decode cX12_not0 22 = .ok (.ifCond .ne 5, 3) := by decide +kernel
theorem dX12_not0_25 : decode cX12_not0 25 = .ok (.iconst 0, 1) := by decide +kernel
theorem dX12_not0_26 : decode cX12_not0 26 = .ok (.ireturn, 1) := by decide +kernel
theorem dX12_not0_27 : decode cX12_not0 27 = .ok (.aload_n 0, 1) := by decide +kernel
theorem dX12_not0_28 : decode cX12_not0 28 = .ok (.invokevirtual 292, 3) := by decide +kernel
theorem dX12_not0_31 : decode cX12_not0 31 = .ok (.istore_n 1, 1) := by decide +kernel
theorem dX12_not0_32 : decode cX12_not0 32 = .ok (.aload_n 0, 1) := by decide +kernel
theorem dX12_not0_33 : decode cX12_not0 33 = .ok (.dup, 1) := by decide +kernel
theorem dX12_not0_34 : decode cX12_not0 34 = .ok (.getfield 165, 3) := by decide +kernel
theorem dX12_not0_37 : decode cX12_not0 37 = .ok (.iconst 1, 1) := by decide +kernel
theorem dX12_not0_38 : decode cX12_not0 38 = .ok (.isub, 1) := by decide +kernel
theorem dX12_not0_39 : decode cX12_not0 39 = .ok (.putfield 165, 3) := by decide +kernel
theorem dX12_not0_42 : decode cX12_not0 42 = .ok (.iload_n 1, 1) := by decide +kernel
theorem dX12_not0_43 : decode cX12_not0 43 = .ok (.ifCond .ne 7, 3) := by decide +kernel
theorem dX12_not0_46 : decode cX12_not0 46 = .ok (.iconst 1, 1) := by decide +kernel
theorem dX12_not0_47 : decode cX12_not0 47 = .ok (.goto 4, 3) := by decide +kernel
theorem dX12_not0_50 : decode cX12_not0 50 = .ok (.iconst 0, 1) := by decide +kernel
theorem dX12_not0_51 : decode cX12_not0 51 = .ok (.ireturn, 1) := by decide +kernel
theorem dX12_not0_52 : decode cX12_not0 52 = .ok (.aload_n 0, 1) := by decide +kernel
theorem dX12_not0_53 : decode cX12_not0 53 = .ok (.invokevirtual 307, 3) := by decide +kernel
theorem dX12_not0_56 : decode cX12_not0 56 = .ok (.istore_n 1, 1) := by decide +kernel
theorem dX12_not0_57 : decode cX12_not0 57 = .ok (.aload_n 0, 1) := by decide +kernel
theorem dX12_not0_58 : decode cX12_not0 58 = .ok (.bipush 60, 2) := by decide +kernel
theorem dX12_not0_60 : decode cX12_not0 60 = .ok (.invokevirtual 196, 3) := by decide +kernel
theorem dX12_not0_63 : decode cX12_not0 63 = .ok (.ifCond .ne 14, 3) := by decide +kernel
theorem dX12_not0_66 : decode cX12_not0 66 = .ok (.aload_n 0, 1) := by decide +kernel
theorem dX12_not0_67 : decode cX12_not0 67 = .ok (.bipush 61, 2) := by decide +kernel
theorem dX12_not0_69 : decode cX12_not0 69 = .ok (.invokevirtual 196, 3) := by decide +kernel
theorem dX12_not0_72 : decode cX12_not0 72 = .ok (.ifCond .ne 5, 3) := by decide +kernel
theorem dX12_not0_75 : decode cX12_not0 75 = .ok (.iload_n 1, 1) := by decide +kernel
theorem dX12_not0_76 : decode cX12_not0 76 = .ok (.ireturn, 1) := by decide +kernel
theorem dX12_not0_77 : decode cX12_not0 77 = .ok (.aload_n 0, 1) := by decide +kernel
theorem dX12_not0_78 : decode cX12_not0 78 = .ok (.getfield 148, 3) := by decide +kernel
theorem dX12_not0_81 : decode cX12_not0 81 = .ok (.ldc2_w 218, 3) := by decide +kernel
theorem dX12_not0_84 : decode cX12_not0 84 = .ok (.lcmp, 1) := by decide +kernel
theorem dX12_not0_85 : decode cX12_not0 85 = .ok (.ifCond .ne 7, 3) := by decide +kernel
theorem dX12_not0_88 : decode cX12_not0 88 = .ok (.iconst 1, 1) := by decide +kernel
theorem dX12_not0_89 : decode cX12_not0 89 = .ok (.goto 4, 3) := by decide +kernel
theorem dX12_not0_92 : decode cX12_not0 92 = .ok (.iconst 0, 1) := by decide +kernel
theorem dX12_not0_93 : decode cX12_not0 93 = .ok (.istore_n 2, 1) := by decide +kernel
theorem dX12_not0_94 : decode cX12_not0 94 = .ok (.aload_n 0, 1) := by decide +kernel
theorem dX12_not0_95 : decode cX12_not0 95 = .ok (.invokevirtual 171, 3) := by decide +kernel
theorem dX12_not0_98 : decode cX12_not0 98 = .ok (.aload_n 0, 1) := by decide +kernel
theorem dX12_not0_99 : decode cX12_not0 99 = .ok (.invokevirtual 307, 3) := by decide +kernel
theorem dX12_not0_102 : decode cX12_not0 102 = .ok (.istore_n 3, 1) := by decide +kernel
theorem dX12_not0_103 : decode cX12_not0 103 = .ok (.iload_n 2, 1) := by decide +kernel
theorem dX12_not0_104 : decode cX12_not0 104 = .ok (.ifCond .eq 11, 3) := by decide +kernel
theorem dX12_not0_107 : decode cX12_not0 107 = .ok (.iload_n 1, 1) := by decide +kernel
theorem dX12_not0_108 : decode cX12_not0 108 = .ok (.iload_n 3, 1) := by decide +kernel
theorem dX12_not0_109 : decode cX12_not0 109 = .ok (.if_icmp .ge 15, 3) := by decide +kernel
theorem dX12_not0_112 : decode cX12_not0 112 = .ok (.goto 8, 3) := by decide +kernel
theorem dX12_not0_115 : decode cX12_not0 115 = .ok (.iload_n 1, 1) := by decide +kernel
theorem dX12_not0_116 : decode cX12_not0 116 = .ok (.iload_n 3, 1) := by decide +kernel
theorem dX12_not0_117 : decode cX12_not0 117 = .ok (.if_icmp .ne 7, 3) := by decide +kernel
theorem dX12_not0_120 : decode cX12_not0 120 = .ok (.iconst 1, 1) := by decide +kernel
theorem dX12_not0_121 : decode cX12_not0 121 = .ok (.goto 4, 3) := by decide +kernel
theorem dX12_not0_124 : decode cX12_not0 124 = .ok (.iconst 0, 1) := by decide +kernel
theorem dX12_not0_125 : decode cX12_not0 125 = .ok (.ireturn, 1) := by decide +kernel
theorem dX12_both0_0 : decode cX12_both0 0 = .ok (.aload_n 0, 1) := by decide +kernel
theorem dX12_both0_1 : decode cX12_both0 1 = .ok (.invokevirtual 310, 3) := by decide +kernel
theorem dX12_both0_4 : decode cX12_both0 4 = .ok (.istore_n 1, 1) := by decide +kernel
theorem dX12_both0_5 : decode cX12_both0 5 = .ok (.aload_n 0, 1) := by decide +kernel
theorem dX12_both0_6 : decode cX12_both0 6 = .ok (.bipush 97, 2) := by decide +kernel
theorem dX12_both0_8 : decode cX12_both0 8 = .ok (.bipush 110, 2) := by decide +kernel
theorem dX12_both0_10 : decode cX12_both0 10 = .ok (.bipush 100, 2) := by decide +kernel
theorem dX12_both0_12 : decode cX12_both0 12 = .ok (.iconst 0, 1) := by decide +kernel
theorem dX12_both0_13 : decode cX12_both0 13 = .ok (.iconst 0, 1) := by decide +kernel
theorem dX12_both0_14 : decode cX12_both0 14 = .ok (.iconst 0, 1) := by decide +kernel
theorem dX12_both0_15 : decode cX12_both0 15 = .ok (.iconst 0, 1) := by decide +kernel
theorem dX12_both0_16 : decode cX12_both0 16 = .ok (.iconst 0, 1) := by decide +kernel
theorem dX12_both0_17 : decode cX12_both0 17 = .ok (.invokevirtual 174, 3) := by decide +kernel
theorem dX12_both0_20 : decode cX12_both0 20 = .ok (.ifCond .eq 29, 3) := by decide +kernel
theorem dX12_both0_23 : decode cX12_both0 23 = .ok (.aload_n 0, 1) := by decide +kernel
theorem dX12_both0_24 : decode cX12_both0 24 = .ok (.invokevirtual 171, 3) := by decide +kernel
theorem dX12_both0_27 : decode cX12_both0 27 = .ok (.aload_n 0, 1) := by decide +kernel
theorem dX12_both0_28 : decode cX12_both0 28 = .ok (.invokevirtual 310, 3) := by decide +kernel
theorem dX12_both0_31 : decode cX12_both0 31 = .ok (.istore_n 2, 1) := by decide +kernel
theorem dX12_both0_32 : decode cX12_both0 32 = .ok (.iload_n 1, 1) := by decide +kernel
theorem dX12_both0_33 : decode cX12_both0 33 = .ok (.ifCond .eq 11, 3) := by decide +kernel
theorem dX12_both0_36 : decode cX12_both0 36 = .ok (.iload_n 2, 1) := by decide +kernel
theorem dX12_both0_37 : decode cX12_both0 37 = .ok (.ifCond .eq 7, 3) := by decide +kernel
theorem dX12_both0_40 : decode cX12_both0 40 = .ok (.iconst 1, 1) := by decide +kernel
theorem dX12_both0_41 : decode cX12_both0 41 = .ok (.goto 4, 3) := by decide +kernel
theorem dX12_both0_44 : decode cX12_both0 44 = .ok (.iconst 0, 1) := by decide +kernel
theorem dX12_both0_45 : decode cX12_both0 45 = .ok (.istore_n 1, 1) := by decide +kernel
theorem dX12_both0_46 : decode cX12_both0 46 = .ok (.goto (-41), 3) := by decide +kernel
theorem dX12_both0_49 : decode cX12_both0 49 = .ok (.iload_n 1, 1) := by decide +kernel
theorem dX12_both0_50 : decode cX12_both0 50 = .ok (.ireturn, 1) := by decide +kernel
theorem dX12_either0_0 : decode cX12_either0 0 = .ok (.aload_n 0, 1) := by decide +kernel
theorem dX12_either0_1 : decode cX12_either0 1 = .ok (.invokevirtual 313, 3) := by decide +kernel
theorem dX12_either0_4 : decode cX12_either0 4 = .ok (.istore_n 1, 1) := by decide +kernel
theorem dX12_either0_5 : decode cX12_either0 5 = .ok (.aload_n 0, 1) := by decide +kernel
theorem dX12_either0_6 : decode cX12_either0 6 = .ok (.bipush 111, 2) := by decide +kernel
theorem dX12_either0_8 : decode cX12_either0 8 = .ok (.bipush 114, 2) := by decide +kernel
theorem dX12_either0_10 : decode cX12_either0 10 = .ok (.iconst 0, 1) := by decide +kernel
theorem dX12_either0_11 : decode cX12_either0 11 = .ok (.iconst 0, 1) := by decide +kernel
theorem dX12_either0_12 : decode cX12_either0 12 = .ok (.iconst 0, 1) := by decide +kernel
theorem dX12_either0_13 : decode cX12_either0 13 = .ok (.iconst 0, 1) := by decide +kernel
theorem dX12_either0_14 : decode cX12_either0 14 = .ok (.iconst 0, 1) := by decide +kernel
theorem dX12_either0_15 : decode cX12_either0 15 = .ok (.iconst 0, 1) := by decide +kernel
theorem dX12_either0_16 : decode cX12_either0 16 = .ok (.invokevirtual 174, 3) := by decide +kernel
theorem dX12_either0_19 : decode cX12_either0 19 = .ok (.ifCond .eq 29, 3) := by decide +kernel
theorem dX12_either0_22 : decode cX12_either0 22 = .ok (.aload_n 0, 1) := by decide +kernel
theorem dX12_either0_23 : decode cX12_either0 23 = .ok (.invokevirtual 171, 3) := by decide +kernel
theorem dX12_either0_26 : decode cX12_either0 26 = .ok (.aload_n 0, 1) := by decide +kernel
theorem dX12_either0_27 : decode cX12_either0 27 = .ok (.invokevirtual 313, 3) := by decide +kernel
theorem dX12_either0_30 : decode cX12_either0 30 = .ok (.istore_n 2, 1) := by decide +kernel
theorem dX12_either0_31 : decode cX12_either0 31 = .ok (.iload_n 1, 1) := by decide +kernel
theorem dX12_either0_32 : decode cX12_either0 32 = .ok (.ifCond .ne 7, 3) := by decide +kernel
theorem dX12_either0_35 : decode cX12_either0 35 = .ok (.iload_n 2, 1) := by decide +kernel
theorem dX12_either0_36 : decode cX12_either0 36 = .ok (.ifCond .eq 7, 3) := by decide +kernel
theorem dX12_either0_39 : decode cX12_either0 39 = .ok (.iconst 1, 1) := by decide +kernel
theorem dX12_either0_40 : decode cX12_either0 40 = .ok (.goto 4, 3) := by decide +kernel
theorem dX12_either0_43 : decode cX12_either0 43 = .ok (.iconst 0, 1) := by decide +kernel
theorem dX12_either0_44 : decode cX12_either0 44 = .ok (.istore_n 1, 1) := by decide +kernel
theorem dX12_either0_45 : decode cX12_either0 45 = .ok (.goto (-40), 3) := by decide +kernel
theorem dX12_either0_48 : decode cX12_either0 48 = .ok (.iload_n 1, 1) := by decide +kernel
theorem dX12_either0_49 : decode cX12_either0 49 = .ok (.ireturn, 1) := by decide +kernel
theorem dX12_part_0 : decode cX12_part 0 = .ok (.iload_n 1, 1) := by decide +kernel
theorem dX12_part_1 : decode cX12_part 1 = .ok (.ifCond .ne 7, 3) := by decide +kernel
theorem dX12_part_4 : decode cX12_part 4 = .ok (.aload_n 0, 1) := by decide +kernel
theorem dX12_part_5 : decode cX12_part 5 = .ok (.invokevirtual 168, 3) := by decide +kernel
theorem dX12_part_8 : decode cX12_part 8 = .ok (.aload_n 0, 1) := by decide +kernel
theorem dX12_part_9 : decode cX12_part 9 = .ok (.getfield 154, 3) := by decide +kernel
theorem dX12_part_12 : decode cX12_part 12 = .ok (.ifCond .ne 7, 3) := by decide +kernel
theorem dX12_part_15 : decode cX12_part 15 = .ok (.aload_n 0, 1) := by decide +kernel
theorem dX12_part_16 : decode cX12_part 16 = .ok (.invokevirtual 171, 3) := by decide +kernel
theorem dX12_part_19 : decode cX12_part 19 = .ok (.aload_n 0, 1) := by decide +kernel
theorem dX12_part_20 : decode cX12_part 20 = .ok (.getfield 154, 3) := by decide +kernel
theorem dX12_part_23 : decode cX12_part 23 = .ok (.ifCond .eq 7, 3) := by decide +kernel
theorem dX12_part_26 : decode cX12_part 26 = .ok (.iconst 0, 1) := by decide +kernel
theorem dX12_part_27 : decode cX12_part 27 = .ok (.goto 7, 3) := by decide +kernel
theorem dX12_part_30 : decode cX12_part 30 = .ok (.aload_n 0, 1) := by decide +kernel
theorem dX12_part_31 : decode cX12_part 31 = .ok (.invokevirtual 316, 3) := by decide +kernel
theorem dX12_part_34 : decode cX12_part 34 = .ok (.istore_n 2, 1) := by decide +kernel
theorem dX12_part_35 : decode cX12_part 35 = .ok (.aload_n 0, 1) := by decide +kernel
theorem dX12_part_36 : decode cX12_part 36 = .ok (.bipush 59, 2) := by decide +kernel
theorem dX12_part_38 : decode cX12_part 38 = .ok (.invokevirtual 196, 3) := by decide +kernel
theorem dX12_part_41 : decode cX12_part 41 = .ok (.ifCond .ne 7, 3) := by decide +kernel
theorem dX12_part_44 : decode cX12_part 44 = .ok (.aload_n 0, 1) := by decide +kernel
theorem dX12_part_45 : decode cX12_part 45 = .ok (.invokevirtual 168, 3) := by decide +kernel
theorem dX12_part_48 : decode cX12_part 48 = .ok (.aload_n 0, 1) := by decide +kernel
theorem dX12_part_49 : decode cX12_part 49 = .ok (.getfield 154, 3) := by decide +kernel
theorem dX12_part_52 : decode cX12_part 52 = .ok (.ifCond .ne 7, 3) := by decide +kernel
theorem dX12_part_55 : decode cX12_part 55 = .ok (.aload_n 0, 1) := by decide +kernel
theorem dX12_part_56 : decode cX12_part 56 = .ok (.invokevirtual 171, 3) := by decide +kernel
theorem dX12_part_59 : decode cX12_part 59 = .ok (.iload_n 2, 1) := by decide +kernel
theorem dX12_part_60 : decode cX12_part 60 = .ok (.ireturn, 1) := by decide +kernel
theorem dX12_read_0 : decode cX12_read 0 = .ok (.aload_n 0, 1) := by decide +kernel
theorem dX12_read_1 : decode cX12_read 1 = .ok (.sipush 160, 3) := by decide +kernel
theorem dX12_read_4 : decode cX12_read 4 = .ok (.iload_n 1, 1) := by decide +kernel
theorem dX12_read_5 : decode cX12_read 5 = .ok (.imul, 1) := by decide +kernel
theorem dX12_read_6 : decode cX12_read 6 = .ok (.putfield 125, 3) := by decide +kernel
theorem dX12_read_9 : decode cX12_read 9 = .ok (.aload_n 0, 1) := by decide +kernel
theorem dX12_read_10 : decode cX12_read 10 = .ok (.aload_n 0, 1) := by decide +kernel
theorem dX12_read_11 : decode cX12_read 11 = .ok (.getfield 17, 3) := by decide +kernel
theorem dX12_read_14 : decode cX12_read 14 = .ok (.iload_n 1, 1) := by decide +kernel
theorem dX12_read_15 : decode cX12_read 15 = .ok (.iaload, 1) := by decide +kernel
theorem dX12_read_16 : decode cX12_read 16 = .ok (.putfield 122, 3) := by decide +kernel
theorem dX12_read_19 : decode cX12_read 19 = .ok (.aload_n 0, 1) := by decide +kernel
theorem dX12_read_20 : decode cX12_read 20 = .ok (.iconst 0, 1) := by decide +kernel
theorem dX12_read_21 : decode cX12_read 21 = .ok (.putfield 128, 3) := by decide +kernel
theorem dX12_read_24 : decode cX12_read 24 = .ok (.aload_n 0, 1) := by decide +kernel
theorem dX12_read_25 : decode cX12_read 25 = .ok (.iconst 0, 1) := by decide +kernel
theorem dX12_read_26 : decode cX12_read 26 = .ok (.putfield 165, 3) := by decide +kernel
theorem dX12_read_29 : decode cX12_read 29 = .ok (.aload_n 0, 1) := by decide +kernel
theorem dX12_read_30 : decode cX12_read 30 = .ok (.iconst 0, 1) := by decide +kernel
theorem dX12_read_31 : decode cX12_read 31 = .ok (.putfield 154, 3) := by decide +kernel
theorem dX12_read_34 : decode cX12_read 34 = .ok (.aload_n 0, 1) := by decide +kernel
theorem dX12_read_35 : decode cX12_read 35 = .ok (.invokevirtual 171, 3) := by decide +kernel
theorem dX12_read_38 : decode cX12_read 38 = .ok (.aload_n 0, 1) := by decide +kernel
theorem dX12_read_39 : decode cX12_read 39 = .ok (.aload_n 0, 1) := by decide +kernel
theorem dX12_read_40 : decode cX12_read 40 = .ok (.bipush 101, 2) := by decide +kernel
theorem dX12_read_42 : decode cX12_read 42 = .ok (.bipush 97, 2) := by decide +kernel
theorem dX12_read_44 : decode cX12_read 44 = .ok (.bipush 116, 2) := by decide +kernel
theorem dX12_read_46 : decode cX12_read 46 = .ok (.bipush 115, 2) := by decide +kernel
theorem dX12_read_48 : decode cX12_read 48 = .ok (.iconst 0, 1) := by decide +kernel
theorem dX12_read_49 : decode cX12_read 49 = .ok (.iconst 0, 1) := by decide +kernel
theorem dX12_read_50 : decode cX12_read 50 = .ok (.iconst 0, 1) := by decide +kernel
theorem dX12_read_51 : decode cX12_read 51 = .ok (.iconst 0, 1) := by decide +kernel
theorem dX12_read_52 : decode cX12_read 52 = .ok (.invokevirtual 174, 3) := by decide +kernel
theorem dX12_read_55 : decode cX12_read 55 = .ok (.invokevirtual 319, 3) := by decide +kernel
theorem dX12_read_58 : decode cX12_read 58 = .ok (.istore_n 3, 1) := by decide +kernel
theorem dX12_read_59 : decode cX12_read 59 = .ok (.aload_n 0, 1) := by decide +kernel
theorem dX12_read_60 : decode cX12_read 60 = .ok (.getfield 154, 3) := by decide +kernel
theorem dX12_read_63 : decode cX12_read 63 = .ok (.ifCond .eq 7, 3) := by decide +kernel
theorem dX12_read_66 : decode cX12_read 66 = .ok (.iconst 0, 1) := by decide +kernel
theorem dX12_read_67 : decode cX12_read 67 = .ok (.goto 23, 3) := by decide +kernel
theorem dX12_read_70 : decode cX12_read 70 = .ok (.aload_n 0, 1) := by decide +kernel
theorem dX12_read_71 : decode cX12_read 71 = .ok (.aload_n 0, 1) := by decide +kernel
theorem dX12_read_72 : decode cX12_read 72 = .ok (.bipush 111, 2) := by decide +kernel
theorem dX12_read_74 : decode cX12_read 74 = .ok (.bipush 100, 2) := by decide +kernel
theorem dX12_read_76 : decode cX12_read 76 = .ok (.bipush 100, 2) := by decide +kernel
theorem dX12_read_78 : decode cX12_read 78 = .ok (.bipush 115, 2) := by decide +kernel
theorem dX12_read_80 : decode cX12_read 80 = .ok (.iconst 0, 1) := by decide +kernel
theorem dX12_read_81 : decode cX12_read 81 = .ok (.iconst 0, 1) := by decide +kernel
theorem dX12_read_82 : decode cX12_read 82 = .ok (.iconst 0, 1) := by decide +kernel
theorem dX12_read_83 : decode cX12_read 83 = .ok (.iconst 0, 1) := by decide +kernel
theorem dX12_read_84 : decode cX12_read 84 = .ok (.invokevirtual 174, 3) := by decide +kernel
theorem dX12_read_87 : decode cX12_read 87 = .ok (.invokevirtual 319, 3) := by decide +kernel
theorem dX12_read_90 : decode cX12_read 90 = .ok (.istore 4, 2) := by decide +kernel
theorem dX12_read_92 : decode cX12_read 92 = .ok (.aload_n 0, 1) := by decide +kernel
theorem dX12_read_93 : decode cX12_read 93 = .ok (.getfield 154, 3) := by decide +kernel
theorem dX12_read_96 : decode cX12_read 96 = .ok (.ifCond .eq 7, 3) := by decide +kernel
theorem dX12_read_99 : decode cX12_read 99 = .ok (.iconst 0, 1) := by decide +kernel
theorem dX12_read_100 : decode cX12_read 100 = .ok (.goto 25, 3) := by decide +kernel
theorem dX12_read_103 : decode cX12_read 103 = .ok (.aload_n 0, 1) := by decide +kernel
theorem dX12_read_104 : decode cX12_read 104 = .ok (.aload_n 0, 1) := by decide +kernel
theorem dX12_read_105 : decode cX12_read 105 = .ok (.bipush 115, 2) := by decide +kernel
theorem dX12_read_107 : decode cX12_read 107 = .ok (.bipush 112, 2) := by decide +kernel
theorem dX12_read_109 : decode cX12_read 109 = .ok (.bipush 101, 2) := by decide +kernel
theorem dX12_read_111 : decode cX12_read 111 = .ok (.bipush 110, 2) := by decide +kernel
theorem dX12_read_113 : decode cX12_read 113 = .ok (.bipush 100, 2) := by decide +kernel
theorem dX12_read_115 : decode cX12_read 115 = .ok (.bipush 115, 2) := by decide +kernel
theorem dX12_read_117 : decode cX12_read 117 = .ok (.iconst 0, 1) := by decide +kernel
theorem dX12_read_118 : decode cX12_read 118 = .ok (.iconst 0, 1) := by decide +kernel
theorem dX12_read_119 : decode cX12_read 119 = .ok (.invokevirtual 174, 3) := by decide +kernel
theorem dX12_read_122 : decode cX12_read 122 = .ok (.invokevirtual 319, 3) := by decide +kernel
theorem dX12_read_125 : decode cX12_read 125 = .ok (.istore 5, 2) := by decide +kernel
theorem dX12_read_127 : decode cX12_read 127 = .ok (.aload_n 0, 1) := by decide +kernel
theorem dX12_read_128 : decode cX12_read 128 = .ok (.getfield 154, 3) := by decide +kernel
theorem dX12_read_131 : decode cX12_read 131 = .ok (.ifCond .ne 14, 3) := by decide +kernel
theorem dX12_read_134 : decode cX12_read 134 = .ok (.aload_n 0, 1) := by decide +kernel
theorem dX12_read_135 : decode cX12_read 135 = .ok (.getfield 137, 3) := by decide +kernel
theorem dX12_read_138 : decode cX12_read 138 = .ok (.ifCond .eq 7, 3) := by decide +kernel
theorem dX12_read_141 : decode cX12_read 141 = .ok (.aload_n 0, 1) := by decide +kernel
theorem dX12_read_142 : decode cX12_read 142 = .ok (.invokevirtual 168, 3) := by decide +kernel
theorem dX12_read_145 : decode cX12_read 145 = .ok (.iload_n 2, 1) := by decide +kernel
theorem dX12_read_146 : decode cX12_read 146 = .ok (.ifCond .ne 7, 3) := by decide +kernel
theorem dX12_read_149 : decode cX12_read 149 = .ok (.iload_n 3, 1) := by decide +kernel
theorem dX12_read_150 : decode cX12_read 150 = .ok (.goto 15, 3) := by decide +kernel
theorem dX12_read_153 : decode cX12_read 153 = .ok (.iload_n 2, 1) := by decide +kernel
theorem dX12_read_154 : decode cX12_read 154 = .ok (.iconst 1, 1) := by decide +kernel
theorem dX12_read_155 : decode cX12_read 155 = .ok (.if_icmp .ne 8, 3) := by decide +kernel
theorem dX12_read_158 : decode cX12_read 158 = .ok (.iload 4, 2) := by decide +kernel
theorem dX12_read_160 : decode cX12_read 160 = .ok (.goto 5, 3) := by decide +kernel
theorem dX12_read_163 : decode cX12_read 163 = .ok (.iload 5, 2) := by decide +kernel
theorem dX12_read_165 : decode cX12_read 165 = .ok (.ireturn, 1) := by decide +kernel
theorem dX12_text_0 : decode cX12_text 0 = .ok (.aload_n 0, 1) := by decide +kernel
theorem dX12_text_1 : decode cX12_text 1 = .ok (.getfield 58, 3) := by decide +kernel
theorem dX12_text_4 : decode cX12_text 4 = .ok (.bipush 6, 2) := by decide +kernel
theorem dX12_text_6 : decode cX12_text 6 = .ok (.if_icmp .ne 6, 3) := by decide +kernel
theorem dX12_text_9 : decode cX12_text 9 = .ok (.bipush (-4), 2) := by decide +kernel
theorem dX12_text_11 : decode cX12_text 11 = .ok (.ireturn, 1) := by decide +kernel
theorem dX12_text_12 : decode cX12_text 12 = .ok (.iconst 0, 1) := by decide +kernel
theorem dX12_text_13 : decode cX12_text 13 = .ok (.istore_n 1, 1) := by decide +kernel
theorem dX12_text_14 : decode cX12_text 14 = .ok (.iload_n 1, 1) := by decide +kernel
theorem dX12_text_15 : decode cX12_text 15 = .ok (.aload_n 0, 1) := by decide +kernel
theorem dX12_text_16 : decode cX12_text 16 = .ok (.getfield 119, 3) := by decide +kernel
theorem dX12_text_19 : decode cX12_text 19 = .ok (.if_icmp .ge 30, 3) := by decide +kernel
theorem dX12_text_22 : decode cX12_text 22 = .ok (.aload_n 0, 1) := by decide +kernel
theorem dX12_text_23 : decode cX12_text 23 = .ok (.getfield 13, 3) := by decide +kernel
theorem dX12_text_26 : decode cX12_text 26 = .ok (.sipush 160, 3) := by decide +kernel
theorem dX12_text_29 : decode cX12_text 29 = .ok (.aload_n 0, 1) := by decide +kernel
theorem dX12_text_30 : decode cX12_text 30 = .ok (.getfield 58, 3) := by decide +kernel
theorem dX12_text_33 : decode cX12_text 33 = .ok (.imul, 1) := by decide +kernel
theorem dX12_text_34 : decode cX12_text 34 = .ok (.iload_n 1, 1) := by decide +kernel
theorem dX12_text_35 : decode cX12_text 35 = .ok (.iadd, 1) := by decide +kernel
theorem dX12_text_36 : decode cX12_text 36 = .ok (.aload_n 0, 1) := by decide +kernel
theorem dX12_text_37 : decode cX12_text 37 = .ok (.getfield 20, 3) := by decide +kernel
theorem dX12_text_40 : decode cX12_text 40 = .ok (.iload_n 1, 1) := by decide +kernel
theorem dX12_text_41 : decode cX12_text 41 = .ok (.iaload, 1) := by decide +kernel
theorem dX12_text_42 : decode cX12_text 42 = .ok (.iastore, 1) := by decide +kernel
theorem dX12_text_43 : decode cX12_text 43 = .ok (.iinc 1 1, 3) := by decide +kernel
theorem dX12_text_46 : decode cX12_text 46 = .ok (.goto (-32), 3) := by decide +kernel
theorem dX12_text_49 : decode cX12_text 49 = .ok (.aload_n 0, 1) := by decide +kernel
theorem dX12_text_50 : decode cX12_text 50 = .ok (.getfield 17, 3) := by decide +kernel
theorem dX12_text_53 : decode cX12_text 53 = .ok (.aload_n 0, 1) := by decide +kernel
theorem dX12_text_54 : decode cX12_text 54 = .ok (.getfield 58, 3) := by decide +kernel
theorem dX12_text_57 : decode cX12_text 57 = .ok (.aload_n 0, 1) := by decide +kernel
theorem dX12_text_58 : decode cX12_text 58 = .ok (.getfield 119, 3) := by decide +kernel
theorem dX12_text_61 : decode cX12_text 61 = .ok (.iastore, 1) := by decide +kernel
theorem dX12_text_62 : decode cX12_text 62 = .ok (.aload_n 0, 1) := by decide +kernel
theorem dX12_text_63 : decode cX12_text 63 = .ok (.iconst 0, 1) := by decide +kernel
theorem dX12_text_64 : decode cX12_text 64 = .ok (.putfield 119, 3) := by decide +kernel
theorem dX12_text_67 : decode cX12_text 67 = .ok (.aload_n 0, 1) := by decide +kernel
theorem dX12_text_68 : decode cX12_text 68 = .ok (.aload_n 0, 1) := by decide +kernel
theorem dX12_text_69 : decode cX12_text 69 = .ok (.getfield 58, 3) := by decide +kernel
theorem dX12_text_72 : decode cX12_text 72 = .ok (.iconst 0, 1) := by decide +kernel
theorem dX12_text_73 : decode cX12_text 73 = .ok (.invokevirtual 323, 3) := by decide +kernel
theorem dX12_text_76 : decode cX12_text 76 = .ok (.istore_n 1, 1) := by decide +kernel
theorem dX12_text_77 : decode cX12_text 77 = .ok (.aload_n 0, 1) := by decide +kernel
theorem dX12_text_78 : decode cX12_text 78 = .ok (.getfield 154, 3) := by decide +kernel
theorem dX12_text_81 : decode cX12_text 81 = .ok (.ifCond .eq 11, 3) := by decide +kernel
theorem dX12_text_84 : decode cX12_text 84 = .ok (.bipush (-100), 2) := by decide +kernel
theorem dX12_text_86 : decode cX12_text 86 = .ok (.aload_n 0, 1) := by decide +kernel
theorem dX12_text_87 : decode cX12_text 87 = .ok (.getfield 158, 3) := by decide +kernel
theorem dX12_text_90 : decode cX12_text 90 = .ok (.isub, 1) := by decide +kernel
theorem dX12_text_91 : decode cX12_text 91 = .ok (.ireturn, 1) := by decide +kernel
theorem dX12_text_92 : decode cX12_text 92 = .ok (.aload_n 0, 1) := by decide +kernel
theorem dX12_text_93 : decode cX12_text 93 = .ok (.dup, 1) := by decide +kernel
theorem dX12_text_94 : decode cX12_text 94 = .ok (.getfield 58, 3) := by decide +kernel
theorem dX12_text_97 : decode cX12_text 97 = .ok (.iconst 1, 1) := by decide +kernel
theorem dX12_text_98 : decode cX12_text 98 = .ok (.iadd, 1) := by decide +kernel
theorem dX12_text_99 : decode cX12_text 99 = .ok (.putfield 58, 3) := by decide +kernel
theorem dX12_text_102 : decode cX12_text 102 = .ok (.aload_n 0, 1) := by decide +kernel
theorem dX12_text_103 : decode cX12_text 103 = .ok (.getfield 58, 3) := by decide +kernel
theorem dX12_text_106 : decode cX12_text 106 = .ok (.iconst 1, 1) := by decide +kernel
theorem dX12_text_107 : decode cX12_text 107 = .ok (.isub, 1) := by decide +kernel
theorem dX12_text_108 : decode cX12_text 108 = .ok (.ireturn, 1) := by decide +kernel
theorem dX12_force_0 : decode cX12_force 0 = .ok (.iload_n 1, 1) := by decide +kernel
theorem dX12_force_1 : decode cX12_force 1 = .ok (.i2l, 1) := by decide +kernel
theorem dX12_force_2 : decode cX12_force 2 = .ok (.lconst 0, 1) := by decide +kernel
theorem dX12_force_3 : decode cX12_force 3 = .ok (.aload_n 0, 1) := by decide +kernel
theorem dX12_force_4 : decode cX12_force 4 = .ok (.getfield 58, 3) := by decide +kernel
theorem dX12_force_7 : decode cX12_force 7 = .ok (.iconst 1, 1) := by decide +kernel
theorem dX12_force_8 : decode cX12_force 8 = .ok (.isub, 1) := by decide +kernel
theorem dX12_force_9 : decode cX12_force 9 = .ok (.i2l, 1) := by decide +kernel
theorem dX12_force_10 : decode cX12_force 10 = .ok (.invokestatic 64, 3) := by decide +kernel
theorem dX12_force_13 : decode cX12_force 13 = .ok (.ifCond .ne 6, 3) := by decide +kernel
theorem dX12_force_16 : decode cX12_force 16 = .ok (.bipush (-2), 2) := by decide +kernel
theorem dX12_force_18 : decode cX12_force 18 = .ok (.ireturn, 1) := by decide +kernel
theorem dX12_force_19 : decode cX12_force 19 = .ok (.aload_n 0, 1) := by decide +kernel
theorem dX12_force_20 : decode cX12_force 20 = .ok (.getfield 89, 3) := by decide +kernel
theorem dX12_force_23 : decode cX12_force 23 = .ok (.istore_n 2, 1) := by decide +kernel
theorem dX12_force_24 : decode cX12_force 24 = .ok (.aload_n 0, 1) := by decide +kernel
theorem dX12_force_25 : decode cX12_force 25 = .ok (.iload_n 1, 1) := by decide +kernel
theorem dX12_force_26 : decode cX12_force 26 = .ok (.putfield 89, 3) := by decide +kernel
theorem dX12_force_29 : decode cX12_force 29 = .ok (.iload_n 2, 1) := by decide +kernel
theorem dX12_force_30 : decode cX12_force 30 = .ok (.ireturn, 1) := by decide +kernel
theorem dX12_asks_0 : decode cX12_asks 0 = .ok (.aload_n 0, 1) := by decide +kernel
theorem dX12_asks_1 : decode cX12_asks 1 = .ok (.aload_n 0, 1) := by decide +kernel
theorem dX12_asks_2 : decode cX12_asks 2 = .ok (.getfield 29, 3) := by decide +kernel
theorem dX12_asks_5 : decode cX12_asks 5 = .ok (.iconst 4, 1) := by decide +kernel
theorem dX12_asks_6 : decode cX12_asks 6 = .ok (.iload_n 2, 1) := by decide +kernel
theorem dX12_asks_7 : decode cX12_asks 7 = .ok (.imul, 1) := by decide +kernel
theorem dX12_asks_8 : decode cX12_asks 8 = .ok (.iconst 1, 1) := by decide +kernel
theorem dX12_asks_9 : decode cX12_asks 9 = .ok (.iadd, 1) := by decide +kernel
theorem dX12_asks_10 : decode cX12_asks 10 = .ok (.iaload, 1) := by decide +kernel
theorem dX12_asks_11 : decode cX12_asks 11 = .ok (.putfield 178, 3) := by decide +kernel
theorem dX12_asks_14 : decode cX12_asks 14 = .ok (.aload_n 0, 1) := by decide +kernel
theorem dX12_asks_15 : decode cX12_asks 15 = .ok (.aload_n 0, 1) := by decide +kernel
theorem dX12_asks_16 : decode cX12_asks 16 = .ok (.getfield 29, 3) := by decide +kernel
theorem dX12_asks_19 : decode cX12_asks 19 = .ok (.iconst 4, 1) := by decide +kernel
theorem dX12_asks_20 : decode cX12_asks 20 = .ok (.iload_n 2, 1) := by decide +kernel
theorem dX12_asks_21 : decode cX12_asks 21 = .ok (.imul, 1) := by decide +kernel
theorem dX12_asks_22 : decode cX12_asks 22 = .ok (.iconst 2, 1) := by decide +kernel
theorem dX12_asks_23 : decode cX12_asks 23 = .ok (.iadd, 1) := by decide +kernel
theorem dX12_asks_24 : decode cX12_asks 24 = .ok (.iaload, 1) := by decide +kernel
theorem dX12_asks_25 : decode cX12_asks 25 = .ok (.putfield 181, 3) := by decide +kernel
theorem dX12_asks_28 : decode cX12_asks 28 = .ok (.aload_n 0, 1) := by decide +kernel
theorem dX12_asks_29 : decode cX12_asks 29 = .ok (.aload_n 0, 1) := by decide +kernel
theorem dX12_asks_30 : decode cX12_asks 30 = .ok (.getfield 29, 3) := by decide +kernel
theorem dX12_asks_33 : decode cX12_asks 33 = .ok (.iconst 4, 1) := by decide +kernel
theorem dX12_asks_34 : decode cX12_asks 34 = .ok (.iload_n 2, 1) := by decide +kernel
theorem dX12_asks_35 : decode cX12_asks 35 = .ok (.imul, 1) := by decide +kernel
theorem dX12_asks_36 : decode cX12_asks 36 = .ok (.iaload, 1) := by decide +kernel
theorem dX12_asks_37 : decode cX12_asks 37 = .ok (.putfield 184, 3) := by decide +kernel
theorem dX12_asks_40 : decode cX12_asks 40 = .ok (.aload_n 0, 1) := by decide +kernel
theorem dX12_asks_41 : decode cX12_asks 41 = .ok (.aload_n 0, 1) := by decide +kernel
theorem dX12_asks_42 : decode cX12_asks 42 = .ok (.getfield 23, 3) := by decide +kernel
theorem dX12_asks_45 : decode cX12_asks 45 = .ok (.iconst 2, 1) := by decide +kernel
theorem dX12_asks_46 : decode cX12_asks 46 = .ok (.iaload, 1) := by decide +kernel
theorem dX12_asks_47 : decode cX12_asks 47 = .ok (.putfield 187, 3) := by decide +kernel
theorem dX12_asks_50 : decode cX12_asks 50 = .ok (.aload_n 0, 1) := by decide +kernel
theorem dX12_asks_51 : decode cX12_asks 51 = .ok (.aload_n 0, 1) := by decide +kernel
theorem dX12_asks_52 : decode cX12_asks 52 = .ok (.getfield 23, 3) := by decide +kernel
theorem dX12_asks_55 : decode cX12_asks 55 = .ok (.iconst 0, 1) := by decide +kernel
theorem dX12_asks_56 : decode cX12_asks 56 = .ok (.iaload, 1) := by decide +kernel
theorem dX12_asks_57 : decode cX12_asks 57 = .ok (.putfield 190, 3) := by decide +kernel
theorem dX12_asks_60 : decode cX12_asks 60 = .ok (.aload_n 0, 1) := by decide +kernel
theorem dX12_asks_61 : decode cX12_asks 61 = .ok (.aload_n 0, 1) := by decide +kernel
theorem dX12_asks_62 : decode cX12_asks 62 = .ok (.getfield 23, 3) := by decide +kernel
theorem dX12_asks_65 : decode cX12_asks 65 = .ok (.iconst 1, 1) := by decide +kernel
theorem dX12_asks_66 : decode cX12_asks 66 = .ok (.iaload, 1) := by decide +kernel
theorem dX12_asks_67 : decode cX12_asks 67 = .ok (.putfield 193, 3) := by decide +kernel
theorem dX12_asks_70 : decode cX12_asks 70 = .ok (.aload_n 0, 1) := by decide +kernel
theorem dX12_asks_71 : decode cX12_asks 71 = .ok (.aload_n 0, 1) := by decide +kernel
theorem dX12_asks_72 : decode cX12_asks 72 = .ok (.getfield 89, 3) := by decide +kernel
theorem dX12_asks_75 : decode cX12_asks 75 = .ok (.iload_n 1, 1) := by decide +kernel
theorem dX12_asks_76 : decode cX12_asks 76 = .ok (.invokevirtual 323, 3) := by decide +kernel
theorem dX12_asks_79 : decode cX12_asks 79 = .ok (.iconst 0, 1) := by decide +kernel
theorem dX12_asks_80 : decode cX12_asks 80 = .ok (.bipush 99, 2) := by decide +kernel
theorem dX12_asks_82 : decode cX12_asks 82 = .ok (.invokestatic 326, 3) := by decide +kernel
theorem dX12_asks_85 : decode cX12_asks 85 = .ok (.ireturn, 1) := by decide +kernel
theorem dX12_eatsOf_0 : decode cX12_eatsOf 0 = .ok (.aload_n 0, 1) := by decide +kernel
theorem dX12_eatsOf_1 : decode cX12_eatsOf 1 = .ok (.getfield 26, 3) := by decide +kernel
theorem dX12_eatsOf_4 : decode cX12_eatsOf 4 = .ok (.iload_n 1, 1) := by decide +kernel
theorem dX12_eatsOf_5 : decode cX12_eatsOf 5 = .ok (.iaload, 1) := by decide +kernel
theorem dX12_eatsOf_6 : decode cX12_eatsOf 6 = .ok (.istore_n 2, 1) := by decide +kernel
theorem dX12_eatsOf_7 : decode cX12_eatsOf 7 = .ok (.iload_n 2, 1) := by decide +kernel
theorem dX12_eatsOf_8 : decode cX12_eatsOf 8 = .ok (.iconst 4, 1) := by decide +kernel
theorem dX12_eatsOf_9 : decode cX12_eatsOf 9 = .ok (.if_icmp .ne 15, 3) := by decide +kernel
theorem dX12_eatsOf_12 : decode cX12_eatsOf 12 = .ok (.aload_n 0, 1) := by decide +kernel
theorem dX12_eatsOf_13 : decode cX12_eatsOf 13 = .ok (.getfield 23, 3) := by decide +kernel
theorem dX12_eatsOf_16 : decode cX12_eatsOf 16 = .ok (.iconst 2, 1) := by decide +kernel
theorem dX12_eatsOf_17 : decode cX12_eatsOf 17 = .ok (.iaload, 1) := by decide +kernel
theorem dX12_eatsOf_18 : decode cX12_eatsOf 18 = .ok (.iconst 1, 1) := by decide +kernel
theorem dX12_eatsOf_19 : decode cX12_eatsOf 19 = .ok (.if_icmp .ne 5, 3) := by decide +kernel
theorem dX12_eatsOf_22 : decode cX12_eatsOf 22 = .ok (.iconst 1, 1) := by decide +kernel
theorem dX12_eatsOf_23 : decode cX12_eatsOf 23 = .ok (.ireturn, 1) := by decide +kernel
theorem dX12_eatsOf_24 : decode cX12_eatsOf 24 = .ok (.aload_n 0, 1) := by decide +kernel
theorem dX12_eatsOf_25 : decode cX12_eatsOf 25 = .ok (.iconst 0, 1) := by decide +kernel
theorem dX12_eatsOf_26 : decode cX12_eatsOf 26 = .ok (.iload_n 1, 1) := by decide +kernel
theorem dX12_eatsOf_27 : decode cX12_eatsOf 27 = .ok (.invokevirtual 330, 3) := by decide +kernel
theorem dX12_eatsOf_30 : decode cX12_eatsOf 30 = .ok (.istore_n 3, 1) := by decide +kernel
theorem dX12_eatsOf_31 : decode cX12_eatsOf 31 = .ok (.iload_n 2, 1) := by decide +kernel
theorem dX12_eatsOf_32 : decode cX12_eatsOf 32 = .ok (.iconst 1, 1) := by decide +kernel
theorem dX12_eatsOf_33 : decode cX12_eatsOf 33 = .ok (.if_icmp .ne 9, 3) := by decide +kernel
theorem dX12_eatsOf_36 : decode cX12_eatsOf 36 = .ok (.iconst 2, 1) := by decide +kernel
theorem dX12_eatsOf_37 : decode cX12_eatsOf 37 = .ok (.iload_n 3, 1) := by decide +kernel
theorem dX12_eatsOf_38 : decode cX12_eatsOf 38 = .ok (.imul, 1) := by decide +kernel
theorem dX12_eatsOf_39 : decode cX12_eatsOf 39 = .ok (.goto 67, 3) := by decide +kernel
theorem dX12_eatsOf_42 : decode cX12_eatsOf 42 = .ok (.iload_n 2, 1) := by decide +kernel
theorem dX12_eatsOf_43 : decode cX12_eatsOf 43 = .ok (.iconst 3, 1) := by decide +kernel
theorem dX12_eatsOf_44 : decode cX12_eatsOf 44 = .ok (.if_icmp .ne 23, 3) := by decide +kernel
theorem dX12_eatsOf_47 : decode cX12_eatsOf 47 = .ok (.iconst 2, 1) := by decide +kernel
theorem dX12_eatsOf_48 : decode cX12_eatsOf 48 = .ok (.iload_n 3, 1) := by decide +kernel
theorem dX12_eatsOf_49 : decode cX12_eatsOf 49 = .ok (.imul, 1) := by decide +kernel
theorem dX12_eatsOf_50 : decode cX12_eatsOf 50 = .ok (.aload_n 0, 1) := by decide +kernel
theorem dX12_eatsOf_51 : decode cX12_eatsOf 51 = .ok (.getfield 29, 3) := by decide +kernel
theorem dX12_eatsOf_54 : decode cX12_eatsOf 54 = .ok (.iconst 4, 1) := by decide +kernel
theorem dX12_eatsOf_55 : decode cX12_eatsOf 55 = .ok (.iload_n 1, 1) := by decide +kernel
theorem dX12_eatsOf_56 : decode cX12_eatsOf 56 = .ok (.imul, 1) := by decide +kernel
theorem dX12_eatsOf_57 : decode cX12_eatsOf 57 = .ok (.iconst 2, 1) := by decide +kernel
theorem dX12_eatsOf_58 : decode cX12_eatsOf 58 = .ok (.iadd, 1) := by decide +kernel
theorem dX12_eatsOf_59 : decode cX12_eatsOf 59 = .ok (.iaload, 1) := by decide +kernel
theorem dX12_eatsOf_60 : decode cX12_eatsOf 60 = .ok (.bipush 10, 2) := by decide +kernel
theorem dX12_eatsOf_62 : decode cX12_eatsOf 62 = .ok (.idiv, 1) := by decide +kernel
theorem dX12_eatsOf_63 : decode cX12_eatsOf 63 = .ok (.iadd, 1) := by decide +kernel
theorem dX12_eatsOf_64 : decode cX12_eatsOf 64 = .ok (.goto 42, 3) := by decide +kernel
theorem dX12_eatsOf_67 : decode cX12_eatsOf 67 = .ok (.iload_n 2, 1) := by decide +kernel
theorem dX12_eatsOf_68 : decode cX12_eatsOf 68 = .ok (.iconst 2, 1) := by decide +kernel
theorem dX12_eatsOf_69 : decode cX12_eatsOf 69 = .ok (.if_icmp .eq 8, 3) := by decide +kernel
theorem dX12_eatsOf_72 : decode cX12_eatsOf 72 = .ok (.iload_n 2, 1) := by decide +kernel
theorem dX12_eatsOf_73 : decode cX12_eatsOf 73 = .ok (.iconst 4, 1) := by decide +kernel
theorem dX12_eatsOf_74 : decode cX12_eatsOf 74 = .ok (.if_icmp .ne 17, 3) := by decide +kernel
theorem dX12_eatsOf_77 : decode cX12_eatsOf 77 = .ok (.iload_n 3, 1) := by decide +kernel
theorem dX12_eatsOf_78 : decode cX12_eatsOf 78 = .ok (.iconst 0, 1) := by decide +kernel
theorem dX12_eatsOf_79 : decode cX12_eatsOf 79 = .ok (.aload_n 0, 1) := by decide +kernel
theorem dX12_eatsOf_80 : decode cX12_eatsOf 80 = .ok (.getfield 23, 3) := by decide +kernel
theorem dX12_eatsOf_83 : decode cX12_eatsOf 83 = .ok (.iconst 1, 1) := by decide +kernel
theorem dX12_eatsOf_84 : decode cX12_eatsOf 84 = .ok (.iaload, 1) := by decide +kernel
theorem dX12_eatsOf_85 : decode cX12_eatsOf 85 = .ok (.invokestatic 326, 3) := by decide +kernel
theorem dX12_eatsOf_88 : decode cX12_eatsOf 88 = .ok (.goto 18, 3) := by decide +kernel
theorem dX12_eatsOf_91 : decode cX12_eatsOf 91 = .ok (.iload_n 2, 1) := by decide +kernel
theorem dX12_eatsOf_92 : decode cX12_eatsOf 92 = .ok (.iconst 5, 1) := by decide +kernel
theorem dX12_eatsOf_93 : decode cX12_eatsOf 93 = .ok (.if_icmp .ne 12, 3) := by decide +kernel
theorem dX12_eatsOf_96 : decode cX12_eatsOf 96 = .ok (.iload_n 3, 1) := by decide +kernel
theorem dX12_eatsOf_97 : decode cX12_eatsOf 97 = .ok (.iconst 0, 1) := by decide +kernel
theorem dX12_eatsOf_98 : decode cX12_eatsOf 98 = .ok (.iconst 1, 1) := by decide +kernel
theorem dX12_eatsOf_99 : decode cX12_eatsOf 99 = .ok (.invokestatic 326, 3) := by decide +kernel
theorem dX12_eatsOf_102 : decode cX12_eatsOf 102 = .ok (.goto 4, 3) := by decide +kernel
theorem dX12_eatsOf_105 : decode cX12_eatsOf 105 = .ok (.iload_n 3, 1) := by decide +kernel
theorem dX12_eatsOf_106 : decode cX12_eatsOf 106 = .ok (.istore 4, 2) := by decide +kernel
theorem dX12_eatsOf_108 : decode cX12_eatsOf 108 = .ok (.iload 4, 2) := by decide +kernel
theorem dX12_eatsOf_110 : decode cX12_eatsOf 110 = .ok (.iconst 0, 1) := by decide +kernel
theorem dX12_eatsOf_111 : decode cX12_eatsOf 111 = .ok (.bipush 99, 2) := by decide +kernel
theorem dX12_eatsOf_113 : decode cX12_eatsOf 113 = .ok (.invokestatic 326, 3) := by decide +kernel
theorem dX12_eatsOf_116 : decode cX12_eatsOf 116 = .ok (.ireturn, 1) := by decide +kernel
theorem dX12_triesOf_0 : decode cX12_triesOf 0 = .ok (.aload_n 0, 1) := by decide +kernel
theorem dX12_triesOf_1 : decode cX12_triesOf 1 = .ok (.getfield 26, 3) := by decide +kernel
theorem dX12_triesOf_4 : decode cX12_triesOf 4 = .ok (.iload_n 1, 1) := by decide +kernel
theorem dX12_triesOf_5 : decode cX12_triesOf 5 = .ok (.iaload, 1) := by decide +kernel
theorem dX12_triesOf_6 : decode cX12_triesOf 6 = .ok (.istore_n 2, 1) := by decide +kernel
theorem dX12_triesOf_7 : decode cX12_triesOf 7 = .ok (.iload_n 2, 1) := by decide +kernel
theorem dX12_triesOf_8 : decode cX12_triesOf 8 = .ok (.iconst 1, 1) := by decide +kernel
theorem dX12_triesOf_9 : decode cX12_triesOf 9 = .ok (.if_icmp .eq 23, 3) := by decide +kernel
theorem dX12_triesOf_12 : decode cX12_triesOf 12 = .ok (.iload_n 2, 1) := by decide +kernel
theorem dX12_triesOf_13 : decode cX12_triesOf 13 = .ok (.iconst 4, 1) := by decide +kernel
theorem dX12_triesOf_14 : decode cX12_triesOf 14 = .ok (.if_icmp .eq 18, 3) := by decide +kernel
theorem dX12_triesOf_17 : decode cX12_triesOf 17 = .ok (.iload_n 2, 1) := by decide +kernel
theorem dX12_triesOf_18 : decode cX12_triesOf 18 = .ok (.iconst 5, 1) := by decide +kernel
theorem dX12_triesOf_19 : decode cX12_triesOf 19 = .ok (.if_icmp .ne 24, 3) := by decide +kernel
theorem dX12_triesOf_22 : decode cX12_triesOf 22 = .ok (.aload_n 0, 1) := by decide +kernel
theorem dX12_triesOf_23 : decode cX12_triesOf 23 = .ok (.getfield 23, 3) := by decide +kernel
theorem dX12_triesOf_26 : decode cX12_triesOf 26 = .ok (.iconst 1, 1) := by decide +kernel
theorem dX12_triesOf_27 : decode cX12_triesOf 27 = .ok (.iaload, 1) := by decide +kernel
theorem dX12_triesOf_28 : decode cX12_triesOf 28 = .ok (.iconst 3, 1) := by decide +kernel
theorem dX12_triesOf_29 : decode cX12_triesOf 29 = .ok (.if_icmp .le 14, 3) := by decide +kernel
theorem dX12_triesOf_32 : decode cX12_triesOf 32 = .ok (.iload_n 2, 1) := by decide +kernel
theorem dX12_triesOf_33 : decode cX12_triesOf 33 = .ok (.iconst 5, 1) := by decide +kernel
theorem dX12_triesOf_34 : decode cX12_triesOf 34 = .ok (.if_icmp .ne 7, 3) := by decide +kernel
theorem dX12_triesOf_37 : decode cX12_triesOf 37 = .ok (.iconst 1, 1) := by decide +kernel
theorem dX12_triesOf_38 : decode cX12_triesOf 38 = .ok (.goto 4, 3) := by decide +kernel
theorem dX12_triesOf_41 : decode cX12_triesOf 41 = .ok (.iconst 0, 1) := by decide +kernel
theorem dX12_triesOf_42 : decode cX12_triesOf 42 = .ok (.ireturn, 1) := by decide +kernel
theorem dX12_triesOf_43 : decode cX12_triesOf 43 = .ok (.aload_n 0, 1) := by decide +kernel
theorem dX12_triesOf_44 : decode cX12_triesOf 44 = .ok (.iconst 1, 1) := by decide +kernel
theorem dX12_triesOf_45 : decode cX12_triesOf 45 = .ok (.iload_n 1, 1) := by decide +kernel
theorem dX12_triesOf_46 : decode cX12_triesOf 46 = .ok (.invokevirtual 330, 3) := by decide +kernel
theorem dX12_triesOf_49 : decode cX12_triesOf 49 = .ok (.istore_n 3, 1) := by decide +kernel
theorem dX12_triesOf_50 : decode cX12_triesOf 50 = .ok (.iload_n 2, 1) := by decide +kernel
theorem dX12_triesOf_51 : decode cX12_triesOf 51 = .ok (.iconst 2, 1) := by decide +kernel
theorem dX12_triesOf_52 : decode cX12_triesOf 52 = .ok (.if_icmp .ne 9, 3) := by decide +kernel
theorem dX12_triesOf_55 : decode cX12_triesOf 55 = .ok (.iconst 2, 1) := by decide +kernel
theorem dX12_triesOf_56 : decode cX12_triesOf 56 = .ok (.iload_n 3, 1) := by decide +kernel
theorem dX12_triesOf_57 : decode cX12_triesOf 57 = .ok (.imul, 1) := by decide +kernel
theorem dX12_triesOf_58 : decode cX12_triesOf 58 = .ok (.goto 22, 3) := by decide +kernel
theorem dX12_triesOf_61 : decode cX12_triesOf 61 = .ok (.iload_n 2, 1) := by decide +kernel
theorem dX12_triesOf_62 : decode cX12_triesOf 62 = .ok (.iconst 3, 1) := by decide +kernel
theorem dX12_triesOf_63 : decode cX12_triesOf 63 = .ok (.if_icmp .ne 16, 3) := by decide +kernel
theorem dX12_triesOf_66 : decode cX12_triesOf 66 = .ok (.iload_n 3, 1) := by decide +kernel
theorem dX12_triesOf_67 : decode cX12_triesOf 67 = .ok (.aload_n 0, 1) := by decide +kernel
theorem dX12_triesOf_68 : decode cX12_triesOf 68 = .ok (.getfield 29, 3) := by decide +kernel
theorem dX12_triesOf_71 : decode cX12_triesOf 71 = .ok (.iconst 4, 1) := by decide +kernel
theorem dX12_triesOf_72 : decode cX12_triesOf 72 = .ok (.iload_n 1, 1) := by decide +kernel
theorem dX12_triesOf_73 : decode cX12_triesOf 73 = .ok (.imul, 1) := by decide +kernel
theorem dX12_triesOf_74 : decode cX12_triesOf 74 = .ok (.iaload, 1) := by decide +kernel
theorem dX12_triesOf_75 : decode cX12_triesOf 75 = .ok (.iadd, 1) := by decide +kernel
theorem dX12_triesOf_76 : decode cX12_triesOf 76 = .ok (.goto 4, 3) := by decide +kernel
theorem dX12_triesOf_79 : decode cX12_triesOf 79 = .ok (.iload_n 3, 1) := by decide +kernel
theorem dX12_triesOf_80 : decode cX12_triesOf 80 = .ok (.iconst 0, 1) := by decide +kernel
theorem dX12_triesOf_81 : decode cX12_triesOf 81 = .ok (.bipush 99, 2) := by decide +kernel
theorem dX12_triesOf_83 : decode cX12_triesOf 83 = .ok (.invokestatic 326, 3) := by decide +kernel
theorem dX12_triesOf_86 : decode cX12_triesOf 86 = .ok (.ireturn, 1) := by decide +kernel
theorem dX12_spendsOf_0 : decode cX12_spendsOf 0 = .ok (.aload_n 0, 1) := by decide +kernel
theorem dX12_spendsOf_1 : decode cX12_spendsOf 1 = .ok (.getfield 26, 3) := by decide +kernel
theorem dX12_spendsOf_4 : decode cX12_spendsOf 4 = .ok (.iload_n 1, 1) := by decide +kernel
theorem dX12_spendsOf_5 : decode cX12_spendsOf 5 = .ok (.iaload, 1) := by decide +kernel
theorem dX12_spendsOf_6 : decode cX12_spendsOf 6 = .ok (.istore_n 2, 1) := by decide +kernel
theorem dX12_spendsOf_7 : decode cX12_spendsOf 7 = .ok (.iload_n 2, 1) := by decide +kernel
theorem dX12_spendsOf_8 : decode cX12_spendsOf 8 = .ok (.iconst 1, 1) := by decide +kernel
theorem dX12_spendsOf_9 : decode cX12_spendsOf 9 = .ok (.if_icmp .eq 8, 3) := by decide +kernel
theorem dX12_spendsOf_12 : decode cX12_spendsOf 12 = .ok (.iload_n 2, 1) := by decide +kernel
theorem dX12_spendsOf_13 : decode cX12_spendsOf 13 = .ok (.iconst 3, 1) := by decide +kernel
theorem dX12_spendsOf_14 : decode cX12_spendsOf 14 = .ok (.if_icmp .ne 14, 3) := by decide +kernel
theorem dX12_spendsOf_17 : decode cX12_spendsOf 17 = .ok (.iload_n 2, 1) := by decide +kernel
theorem dX12_spendsOf_18 : decode cX12_spendsOf 18 = .ok (.iconst 1, 1) := by decide +kernel
theorem dX12_spendsOf_19 : decode cX12_spendsOf 19 = .ok (.if_icmp .ne 7, 3) := by decide +kernel
theorem dX12_spendsOf_22 : decode cX12_spendsOf 22 = .ok (.iconst 0, 1) := by decide +kernel
theorem dX12_spendsOf_23 : decode cX12_spendsOf 23 = .ok (.goto 4, 3) := by decide +kernel
theorem dX12_spendsOf_26 : decode cX12_spendsOf 26 = .ok (.iconst 3, 1) := by decide +kernel
theorem dX12_spendsOf_27 : decode cX12_spendsOf 27 = .ok (.ireturn, 1) := by decide +kernel
theorem dX12_spendsOf_28 : decode cX12_spendsOf 28 = .ok (.aload_n 0, 1) := by decide +kernel
theorem dX12_spendsOf_29 : decode cX12_spendsOf 29 = .ok (.iconst 2, 1) := by decide +kernel
theorem dX12_spendsOf_30 : decode cX12_spendsOf 30 = .ok (.iload_n 1, 1) := by decide +kernel
theorem dX12_spendsOf_31 : decode cX12_spendsOf 31 = .ok (.invokevirtual 330, 3) := by decide +kernel
theorem dX12_spendsOf_34 : decode cX12_spendsOf 34 = .ok (.istore_n 3, 1) := by decide +kernel
theorem dX12_spendsOf_35 : decode cX12_spendsOf 35 = .ok (.iload_n 2, 1) := by decide +kernel
theorem dX12_spendsOf_36 : decode cX12_spendsOf 36 = .ok (.iconst 2, 1) := by decide +kernel
theorem dX12_spendsOf_37 : decode cX12_spendsOf 37 = .ok (.if_icmp .eq 8, 3) := by decide +kernel
theorem dX12_spendsOf_40 : decode cX12_spendsOf 40 = .ok (.iload_n 2, 1) := by decide +kernel
theorem dX12_spendsOf_41 : decode cX12_spendsOf 41 = .ok (.iconst 4, 1) := by decide +kernel
theorem dX12_spendsOf_42 : decode cX12_spendsOf 42 = .ok (.if_icmp .ne 9, 3) := by decide +kernel
theorem dX12_spendsOf_45 : decode cX12_spendsOf 45 = .ok (.iload_n 3, 1) := by decide +kernel
theorem dX12_spendsOf_46 : decode cX12_spendsOf 46 = .ok (.iconst 2, 1) := by decide +kernel
theorem dX12_spendsOf_47 : decode cX12_spendsOf 47 = .ok (.idiv, 1) := by decide +kernel
theorem dX12_spendsOf_48 : decode cX12_spendsOf 48 = .ok (.goto 25, 3) := by decide +kernel
theorem dX12_spendsOf_51 : decode cX12_spendsOf 51 = .ok (.iload_n 2, 1) := by decide +kernel
theorem dX12_spendsOf_52 : decode cX12_spendsOf 52 = .ok (.iconst 5, 1) := by decide +kernel
theorem dX12_spendsOf_53 : decode cX12_spendsOf 53 = .ok (.if_icmp .ne 19, 3) := by decide +kernel
theorem dX12_spendsOf_56 : decode cX12_spendsOf 56 = .ok (.iload_n 3, 1) := by decide +kernel
theorem dX12_spendsOf_57 : decode cX12_spendsOf 57 = .ok (.bipush 10, 2) := by decide +kernel
theorem dX12_spendsOf_59 : decode cX12_spendsOf 59 = .ok (.aload_n 0, 1) := by decide +kernel
theorem dX12_spendsOf_60 : decode cX12_spendsOf 60 = .ok (.getfield 29, 3) := by decide +kernel
theorem dX12_spendsOf_63 : decode cX12_spendsOf 63 = .ok (.iconst 4, 1) := by decide +kernel
theorem dX12_spendsOf_64 : decode cX12_spendsOf 64 = .ok (.iload_n 1, 1) := by decide +kernel
theorem dX12_spendsOf_65 : decode cX12_spendsOf 65 = .ok (.imul, 1) := by decide +kernel
theorem dX12_spendsOf_66 : decode cX12_spendsOf 66 = .ok (.iaload, 1) := by decide +kernel
theorem dX12_spendsOf_67 : decode cX12_spendsOf 67 = .ok (.imul, 1) := by decide +kernel
theorem dX12_spendsOf_68 : decode cX12_spendsOf 68 = .ok (.iadd, 1) := by decide +kernel
theorem dX12_spendsOf_69 : decode cX12_spendsOf 69 = .ok (.goto 4, 3) := by decide +kernel
theorem dX12_spendsOf_72 : decode cX12_spendsOf 72 = .ok (.iload_n 3, 1) := by decide +kernel
theorem dX12_spendsOf_73 : decode cX12_spendsOf 73 = .ok (.iconst 0, 1) := by decide +kernel
theorem dX12_spendsOf_74 : decode cX12_spendsOf 74 = .ok (.sipush 999, 3) := by decide +kernel
theorem dX12_spendsOf_77 : decode cX12_spendsOf 77 = .ok (.invokestatic 326, 3) := by decide +kernel
theorem dX12_spendsOf_80 : decode cX12_spendsOf 80 = .ok (.ireturn, 1) := by decide +kernel
theorem dX12_isThereNow_0 : decode cX12_isThereNow 0 = .ok (.aload_n 0, 1) := by decide +kernel
theorem dX12_isThereNow_1 : decode cX12_isThereNow 1 = .ok (.getfield 23, 3) := by decide +kernel
theorem dX12_isThereNow_4 : decode cX12_isThereNow 4 = .ok (.iconst 3, 1) := by decide +kernel
theorem dX12_isThereNow_5 : decode cX12_isThereNow 5 = .ok (.iaload, 1) := by decide +kernel
theorem dX12_isThereNow_6 : decode cX12_isThereNow 6 = .ok (.aload_n 0, 1) := by decide +kernel
theorem dX12_isThereNow_7 : decode cX12_isThereNow 7 = .ok (.getfield 29, 3) := by decide +kernel
theorem dX12_isThereNow_10 : decode cX12_isThereNow 10 = .ok (.iconst 4, 1) := by decide +kernel
theorem dX12_isThereNow_11 : decode cX12_isThereNow 11 = .ok (.iload_n 1, 1) := by decide +kernel
theorem dX12_isThereNow_12 : decode cX12_isThereNow 12 = .ok (.imul, 1) := by decide +kernel
theorem dX12_isThereNow_13 : decode cX12_isThereNow 13 = .ok (.iconst 1, 1) := by decide +kernel
theorem dX12_isThereNow_14 : decode cX12_isThereNow 14 = .ok (.iadd, 1) := by decide +kernel
theorem dX12_isThereNow_15 : decode cX12_isThereNow 15 = .ok (.iaload, 1) := by decide +kernel
theorem dX12_isThereNow_16 : decode cX12_isThereNow 16 = .ok (.ishr, 1) := by decide +kernel
theorem dX12_isThereNow_17 : decode cX12_isThereNow 17 = .ok (.iconst 1, 1) := by decide +kernel
theorem dX12_isThereNow_18 : decode cX12_isThereNow 18 = .ok (.iand, 1) := by decide +kernel
theorem dX12_isThereNow_19 : decode cX12_isThereNow 19 = .ok (.iconst 1, 1) := by decide +kernel
theorem dX12_isThereNow_20 : decode cX12_isThereNow 20 = .ok (.if_icmp .ne 7, 3) := by decide +kernel
theorem dX12_isThereNow_23 : decode cX12_isThereNow 23 = .ok (.iconst 1, 1) := by decide +kernel
theorem dX12_isThereNow_24 : decode cX12_isThereNow 24 = .ok (.goto 4, 3) := by decide +kernel
theorem dX12_isThereNow_27 : decode cX12_isThereNow 27 = .ok (.iconst 0, 1) := by decide +kernel
theorem dX12_isThereNow_28 : decode cX12_isThereNow 28 = .ok (.ireturn, 1) := by decide +kernel
theorem dX12_costOf_0 : decode cX12_costOf 0 = .ok (.aload_n 0, 1) := by decide +kernel
theorem dX12_costOf_1 : decode cX12_costOf 1 = .ok (.iload_n 1, 1) := by decide +kernel
theorem dX12_costOf_2 : decode cX12_costOf 2 = .ok (.invokevirtual 108, 3) := by decide +kernel
theorem dX12_costOf_5 : decode cX12_costOf 5 = .ok (.ifCond .eq 28, 3) := by decide +kernel
theorem dX12_costOf_8 : decode cX12_costOf 8 = .ok (.aload_n 0, 1) := by decide +kernel
theorem dX12_costOf_9 : decode cX12_costOf 9 = .ok (.iload_n 1, 1) := by decide +kernel
theorem dX12_costOf_10 : decode cX12_costOf 10 = .ok (.invokevirtual 99, 3) := by decide +kernel
theorem dX12_costOf_13 : decode cX12_costOf 13 = .ok (.aload_n 0, 1) := by decide +kernel
theorem dX12_costOf_14 : decode cX12_costOf 14 = .ok (.getfield 23, 3) := by decide +kernel
theorem dX12_costOf_17 : decode cX12_costOf 17 = .ok (.iconst 0, 1) := by decide +kernel
theorem dX12_costOf_18 : decode cX12_costOf 18 = .ok (.iaload, 1) := by decide +kernel
theorem dX12_costOf_19 : decode cX12_costOf 19 = .ok (.imul, 1) := by decide +kernel
theorem dX12_costOf_20 : decode cX12_costOf 20 = .ok (.aload_n 0, 1) := by decide +kernel
theorem dX12_costOf_21 : decode cX12_costOf 21 = .ok (.getfield 23, 3) := by decide +kernel
theorem dX12_costOf_24 : decode cX12_costOf 24 = .ok (.iconst 4, 1) := by decide +kernel
theorem dX12_costOf_25 : decode cX12_costOf 25 = .ok (.iaload, 1) := by decide +kernel
theorem dX12_costOf_26 : decode cX12_costOf 26 = .ok (.imul, 1) := by decide +kernel
theorem dX12_costOf_27 : decode cX12_costOf 27 = .ok (.bipush 10, 2) := by decide +kernel
theorem dX12_costOf_29 : decode cX12_costOf 29 = .ok (.idiv, 1) := by decide +kernel
theorem dX12_costOf_30 : decode cX12_costOf 30 = .ok (.goto 4, 3) := by decide +kernel
theorem dX12_costOf_33 : decode cX12_costOf 33 = .ok (.iconst 0, 1) := by decide +kernel
theorem dX12_costOf_34 : decode cX12_costOf 34 = .ok (.ireturn, 1) := by decide +kernel
theorem dX12_gainOf_0 : decode cX12_gainOf 0 = .ok (.aload_n 0, 1) := by decide +kernel
theorem dX12_gainOf_1 : decode cX12_gainOf 1 = .ok (.iload_n 1, 1) := by decide +kernel
theorem dX12_gainOf_2 : decode cX12_gainOf 2 = .ok (.invokevirtual 108, 3) := by decide +kernel
theorem dX12_gainOf_5 : decode cX12_gainOf 5 = .ok (.ifCond .ne 5, 3) := by decide +kernel
theorem dX12_gainOf_8 : decode cX12_gainOf 8 = .ok (.iconst 0, 1) := by decide +kernel
theorem dX12_gainOf_9 : decode cX12_gainOf 9 = .ok (.ireturn, 1) := by decide +kernel
theorem dX12_gainOf_10 : decode cX12_gainOf 10 = .ok (.aload_n 0, 1) := by decide +kernel
theorem dX12_gainOf_11 : decode cX12_gainOf 11 = .ok (.iload_n 1, 1) := by decide +kernel
theorem dX12_gainOf_12 : decode cX12_gainOf 12 = .ok (.invokevirtual 102, 3) := by decide +kernel
theorem dX12_gainOf_15 : decode cX12_gainOf 15 = .ok (.istore_n 2, 1) := by decide +kernel
theorem dX12_gainOf_16 : decode cX12_gainOf 16 = .ok (.iload_n 2, 1) := by decide +kernel
theorem dX12_gainOf_17 : decode cX12_gainOf 17 = .ok (.ifCond .ne 7, 3) := by decide +kernel
theorem dX12_gainOf_20 : decode cX12_gainOf 20 = .ok (.iconst 0, 1) := by decide +kernel
theorem dX12_gainOf_21 : decode cX12_gainOf 21 = .ok (.goto 14, 3) := by decide +kernel
theorem dX12_gainOf_24 : decode cX12_gainOf 24 = .ok (.aload_n 0, 1) := by decide +kernel
theorem dX12_gainOf_25 : decode cX12_gainOf 25 = .ok (.iload_n 1, 1) := by decide +kernel
theorem dX12_gainOf_26 : decode cX12_gainOf 26 = .ok (.invokevirtual 105, 3) := by decide +kernel
theorem dX12_gainOf_29 : decode cX12_gainOf 29 = .ok (.sipush 1000, 3) := by decide +kernel
theorem dX12_gainOf_32 : decode cX12_gainOf 32 = .ok (.imul, 1) := by decide +kernel
theorem dX12_gainOf_33 : decode cX12_gainOf 33 = .ok (.iload_n 2, 1) := by decide +kernel
theorem dX12_gainOf_34 : decode cX12_gainOf 34 = .ok (.idiv, 1) := by decide +kernel
theorem dX12_gainOf_35 : decode cX12_gainOf 35 = .ok (.sipush 1000, 3) := by decide +kernel
theorem dX12_gainOf_38 : decode cX12_gainOf 38 = .ok (.aload_n 0, 1) := by decide +kernel
theorem dX12_gainOf_39 : decode cX12_gainOf 39 = .ok (.iload_n 1, 1) := by decide +kernel
theorem dX12_gainOf_40 : decode cX12_gainOf 40 = .ok (.invokevirtual 111, 3) := by decide +kernel
theorem dX12_gainOf_43 : decode cX12_gainOf 43 = .ok (.imul, 1) := by decide +kernel
theorem dX12_gainOf_44 : decode cX12_gainOf 44 = .ok (.isub, 1) := by decide +kernel
theorem dX12_gainOf_45 : decode cX12_gainOf 45 = .ok (.ireturn, 1) := by decide +kernel
theorem dX12_gainAll_0 : decode cX12_gainAll 0 = .ok (.iconst 0, 1) := by decide +kernel
theorem dX12_gainAll_1 : decode cX12_gainAll 1 = .ok (.istore_n 1, 1) := by decide +kernel
theorem dX12_gainAll_2 : decode cX12_gainAll 2 = .ok (.iconst 0, 1) := by decide +kernel
theorem dX12_gainAll_3 : decode cX12_gainAll 3 = .ok (.istore_n 2, 1) := by decide +kernel
theorem dX12_gainAll_4 : decode cX12_gainAll 4 = .ok (.iload_n 2, 1) := by decide +kernel
theorem dX12_gainAll_5 : decode cX12_gainAll 5 = .ok (.aload_n 0, 1) := by decide +kernel
theorem dX12_gainAll_6 : decode cX12_gainAll 6 = .ok (.getfield 61, 3) := by decide +kernel
theorem dX12_gainAll_9 : decode cX12_gainAll 9 = .ok (.if_icmp .ge 17, 3) := by decide +kernel
theorem dX12_gainAll_12 : decode cX12_gainAll 12 = .ok (.iload_n 1, 1) := by decide +kernel
theorem dX12_gainAll_13 : decode cX12_gainAll 13 = .ok (.aload_n 0, 1) := by decide +kernel
theorem dX12_gainAll_14 : decode cX12_gainAll 14 = .ok (.iload_n 2, 1) := by decide +kernel
theorem dX12_gainAll_15 : decode cX12_gainAll 15 = .ok (.invokevirtual 114, 3) := by decide +kernel
theorem dX12_gainAll_18 : decode cX12_gainAll 18 = .ok (.iadd, 1) := by decide +kernel
theorem dX12_gainAll_19 : decode cX12_gainAll 19 = .ok (.istore_n 1, 1) := by decide +kernel
theorem dX12_gainAll_20 : decode cX12_gainAll 20 = .ok (.iinc 2 1, 3) := by decide +kernel
theorem dX12_gainAll_23 : decode cX12_gainAll 23 = .ok (.goto (-19), 3) := by decide +kernel
theorem dX12_gainAll_26 : decode cX12_gainAll 26 = .ok (.iload_n 1, 1) := by decide +kernel
theorem dX12_gainAll_27 : decode cX12_gainAll 27 = .ok (.ireturn, 1) := by decide +kernel
theorem dX12_eatenIn_0 : decode cX12_eatenIn 0 = .ok (.iconst 0, 1) := by decide +kernel
theorem dX12_eatenIn_1 : decode cX12_eatenIn 1 = .ok (.istore_n 2, 1) := by decide +kernel
theorem dX12_eatenIn_2 : decode cX12_eatenIn 2 = .ok (.iconst 0, 1) := by decide +kernel
theorem dX12_eatenIn_3 : decode cX12_eatenIn 3 = .ok (.istore_n 3, 1) := by decide +kernel
theorem dX12_eatenIn_4 : decode cX12_eatenIn 4 = .ok (.iload_n 3, 1) := by decide +kernel
theorem dX12_eatenIn_5 : decode cX12_eatenIn 5 = .ok (.aload_n 0, 1) := by decide +kernel
theorem dX12_eatenIn_6 : decode cX12_eatenIn 6 = .ok (.getfield 61, 3) := by decide +kernel
theorem dX12_eatenIn_9 : decode cX12_eatenIn 9 = .ok (.if_icmp .ge 43, 3) := by decide +kernel
theorem dX12_eatenIn_12 : decode cX12_eatenIn 12 = .ok (.iload_n 2, 1) := by decide +kernel
theorem dX12_eatenIn_13 : decode cX12_eatenIn 13 = .ok (.aload_n 0, 1) := by decide +kernel
theorem dX12_eatenIn_14 : decode cX12_eatenIn 14 = .ok (.iload_n 3, 1) := by decide +kernel
theorem dX12_eatenIn_15 : decode cX12_eatenIn 15 = .ok (.invokevirtual 108, 3) := by decide +kernel
theorem dX12_eatenIn_18 : decode cX12_eatenIn 18 = .ok (.ifCond .eq 25, 3) := by decide +kernel
theorem dX12_eatenIn_21 : decode cX12_eatenIn 21 = .ok (.aload_n 0, 1) := by decide +kernel
theorem dX12_eatenIn_22 : decode cX12_eatenIn 22 = .ok (.getfield 29, 3) := by decide +kernel
theorem dX12_eatenIn_25 : decode cX12_eatenIn 25 = .ok (.iconst 4, 1) := by decide +kernel
theorem dX12_eatenIn_26 : decode cX12_eatenIn 26 = .ok (.iload_n 3, 1) := by decide +kernel
theorem dX12_eatenIn_27 : decode cX12_eatenIn 27 = .ok (.imul, 1) := by decide +kernel
theorem dX12_eatenIn_28 : decode cX12_eatenIn 28 = .ok (.iconst 1, 1) := by decide +kernel
theorem dX12_eatenIn_29 : decode cX12_eatenIn 29 = .ok (.iadd, 1) := by decide +kernel
theorem dX12_eatenIn_30 : decode cX12_eatenIn 30 = .ok (.iaload, 1) := by decide +kernel
theorem dX12_eatenIn_31 : decode cX12_eatenIn 31 = .ok (.iload_n 1, 1) := by decide +kernel
theorem dX12_eatenIn_32 : decode cX12_eatenIn 32 = .ok (.if_icmp .ne 11, 3) := by decide +kernel
theorem dX12_eatenIn_35 : decode cX12_eatenIn 35 = .ok (.aload_n 0, 1) := by decide +kernel
theorem dX12_eatenIn_36 : decode cX12_eatenIn 36 = .ok (.iload_n 3, 1) := by decide +kernel
theorem dX12_eatenIn_37 : decode cX12_eatenIn 37 = .ok (.invokevirtual 99, 3) := by decide +kernel
theorem dX12_eatenIn_40 : decode cX12_eatenIn 40 = .ok (.goto 4, 3) := by decide +kernel
theorem dX12_eatenIn_43 : decode cX12_eatenIn 43 = .ok (.iconst 0, 1) := by decide +kernel
theorem dX12_eatenIn_44 : decode cX12_eatenIn 44 = .ok (.iadd, 1) := by decide +kernel
theorem dX12_eatenIn_45 : decode cX12_eatenIn 45 = .ok (.istore_n 2, 1) := by decide +kernel
theorem dX12_eatenIn_46 : decode cX12_eatenIn 46 = .ok (.iinc 3 1, 3) := by decide +kernel
theorem dX12_eatenIn_49 : decode cX12_eatenIn 49 = .ok (.goto (-45), 3) := by decide +kernel
theorem dX12_eatenIn_52 : decode cX12_eatenIn 52 = .ok (.iload_n 2, 1) := by decide +kernel
theorem dX12_eatenIn_53 : decode cX12_eatenIn 53 = .ok (.ireturn, 1) := by decide +kernel
theorem dX12_crowd_0 : decode cX12_crowd 0 = .ok (.iconst (-1), 1) := by decide +kernel
theorem dX12_crowd_1 : decode cX12_crowd 1 = .ok (.istore_n 1, 1) := by decide +kernel
theorem dX12_crowd_2 : decode cX12_crowd 2 = .ok (.iconst 0, 1) := by decide +kernel
theorem dX12_crowd_3 : decode cX12_crowd 3 = .ok (.istore_n 2, 1) := by decide +kernel
theorem dX12_crowd_4 : decode cX12_crowd 4 = .ok (.iconst 0, 1) := by decide +kernel
theorem dX12_crowd_5 : decode cX12_crowd 5 = .ok (.istore_n 3, 1) := by decide +kernel
theorem dX12_crowd_6 : decode cX12_crowd 6 = .ok (.iload_n 3, 1) := by decide +kernel
theorem dX12_crowd_7 : decode cX12_crowd 7 = .ok (.bipush 10, 2) := by decide +kernel
theorem dX12_crowd_9 : decode cX12_crowd 9 = .ok (.if_icmp .ge 27, 3) := by decide +kernel
theorem dX12_crowd_12 : decode cX12_crowd 12 = .ok (.aload_n 0, 1) := by decide +kernel
theorem dX12_crowd_13 : decode cX12_crowd 13 = .ok (.iload_n 3, 1) := by decide +kernel
theorem dX12_crowd_14 : decode cX12_crowd 14 = .ok (.invokevirtual 333, 3) := by decide +kernel
theorem dX12_crowd_17 : decode cX12_crowd 17 = .ok (.istore 4, 2) := by decide +kernel
theorem dX12_crowd_19 : decode cX12_crowd 19 = .ok (.iload 4, 2) := by decide +kernel
theorem dX12_crowd_21 : decode cX12_crowd 21 = .ok (.iload_n 2, 1) := by decide +kernel
theorem dX12_crowd_22 : decode cX12_crowd 22 = .ok (.if_icmp .le 8, 3) := by decide +kernel
theorem dX12_crowd_25 : decode cX12_crowd 25 = .ok (.iload_n 3, 1) := by decide +kernel
theorem dX12_crowd_26 : decode cX12_crowd 26 = .ok (.istore_n 1, 1) := by decide +kernel
theorem dX12_crowd_27 : decode cX12_crowd 27 = .ok (.iload 4, 2) := by decide +kernel
theorem dX12_crowd_29 : decode cX12_crowd 29 = .ok (.istore_n 2, 1) := by decide +kernel
theorem dX12_crowd_30 : decode cX12_crowd 30 = .ok (.iinc 3 1, 3) := by decide +kernel
theorem dX12_crowd_33 : decode cX12_crowd 33 = .ok (.goto (-27), 3) := by decide +kernel
theorem dX12_crowd_36 : decode cX12_crowd 36 = .ok (.iload_n 1, 1) := by decide +kernel
theorem dX12_crowd_37 : decode cX12_crowd 37 = .ok (.ireturn, 1) := by decide +kernel
theorem dX12_board_0 : decode cX12_board 0 = .ok (.iload_n 1, 1) := by decide +kernel
theorem dX12_board_1 : decode cX12_board 1 = .ok (.i2l, 1) := by decide +kernel
theorem dX12_board_2 : decode cX12_board 2 = .ok (.lconst 0, 1) := by decide +kernel
theorem dX12_board_3 : decode cX12_board 3 = .ok (.ldc2_w 92, 3) := by decide +kernel
theorem dX12_board_6 : decode cX12_board 6 = .ok (.invokestatic 64, 3) := by decide +kernel
theorem dX12_board_9 : decode cX12_board 9 = .ok (.ifCond .ne 6, 3) := by decide +kernel
theorem dX12_board_12 : decode cX12_board 12 = .ok (.ldc 98, 2) := by decide +kernel
theorem dX12_board_14 : decode cX12_board 14 = .ok (.ireturn, 1) := by decide +kernel
theorem dX12_board_15 : decode cX12_board 15 = .ok (.iload_n 1, 1) := by decide +kernel
theorem dX12_board_16 : decode cX12_board 16 = .ok (.ifCond .eq 8, 3) := by decide +kernel
theorem dX12_board_19 : decode cX12_board 19 = .ok (.iload_n 1, 1) := by decide +kernel
theorem dX12_board_20 : decode cX12_board 20 = .ok (.iconst 4, 1) := by decide +kernel
theorem dX12_board_21 : decode cX12_board 21 = .ok (.if_icmp .ne 19, 3) := by decide +kernel
theorem dX12_board_24 : decode cX12_board 24 = .ok (.iload_n 1, 1) := by decide +kernel
theorem dX12_board_25 : decode cX12_board 25 = .ok (.ifCond .ne 10, 3) := by decide +kernel
theorem dX12_board_28 : decode cX12_board 28 = .ok (.aload_n 0, 1) := by decide +kernel
theorem dX12_board_29 : decode cX12_board 29 = .ok (.invokevirtual 336, 3) := by decide +kernel
theorem dX12_board_32 : decode cX12_board 32 = .ok (.goto 7, 3) := by decide +kernel
theorem dX12_board_35 : decode cX12_board 35 = .ok (.aload_n 0, 1) := by decide +kernel
theorem dX12_board_36 : decode cX12_board 36 = .ok (.invokevirtual 339, 3) := by decide +kernel
theorem dX12_board_39 : decode cX12_board 39 = .ok (.ireturn, 1) := by decide +kernel
theorem dX12_board_40 : decode cX12_board 40 = .ok (.iconst 0, 1) := by decide +kernel
theorem dX12_board_41 : decode cX12_board 41 = .ok (.istore_n 2, 1) := by decide +kernel
theorem dX12_board_42 : decode cX12_board 42 = .ok (.iconst 0, 1) := by decide +kernel
theorem dX12_board_43 : decode cX12_board 43 = .ok (.istore_n 3, 1) := by decide +kernel
theorem dX12_board_44 : decode cX12_board 44 = .ok (.iconst 0, 1) := by decide +kernel
theorem dX12_board_45 : decode cX12_board 45 = .ok (.istore 4, 2) := by decide +kernel
theorem dX12_board_47 : decode cX12_board 47 = .ok (.iconst 0, 1) := by decide +kernel
theorem dX12_board_48 : decode cX12_board 48 = .ok (.istore 5, 2) := by decide +kernel
theorem dX12_board_50 : decode cX12_board 50 = .ok (.iconst 0, 1) := by decide +kernel
theorem dX12_board_51 : decode cX12_board 51 = .ok (.istore 6, 2) := by decide +kernel
theorem dX12_board_53 : decode cX12_board 53 = .ok (.iload 6, 2) := by decide +kernel
theorem dX12_board_55 : decode cX12_board 55 = .ok (.aload_n 0, 1) := by decide +kernel
theorem dX12_board_56 : decode cX12_board 56 = .ok (.getfield 61, 3) := by decide +kernel
theorem dX12_board_59 : decode cX12_board 59 = .ok (.if_icmp .ge 76, 3) := by decide +kernel
theorem dX12_board_62 : decode cX12_board 62 = .ok (.aload_n 0, 1) := by decide +kernel
theorem dX12_board_63 : decode cX12_board 63 = .ok (.iload 6, 2) := by decide +kernel
theorem dX12_board_65 : decode cX12_board 65 = .ok (.invokevirtual 108, 3) := by decide +kernel
theorem dX12_board_68 : decode cX12_board 68 = .ok (.ifCond .eq 61, 3) := by decide +kernel
theorem dX12_board_71 : decode cX12_board 71 = .ok (.iload_n 2, 1) := by decide +kernel
theorem dX12_board_72 : decode cX12_board 72 = .ok (.aload_n 0, 1) := by decide +kernel
theorem dX12_board_73 : decode cX12_board 73 = .ok (.iload 6, 2) := by decide +kernel
theorem dX12_board_75 : decode cX12_board 75 = .ok (.invokevirtual 99, 3) := by decide +kernel
theorem dX12_board_78 : decode cX12_board 78 = .ok (.iadd, 1) := by decide +kernel
theorem dX12_board_79 : decode cX12_board 79 = .ok (.istore_n 2, 1) := by decide +kernel
theorem dX12_board_80 : decode cX12_board 80 = .ok (.iload_n 3, 1) := by decide +kernel
theorem dX12_board_81 : decode cX12_board 81 = .ok (.aload_n 0, 1) := by decide +kernel
theorem dX12_board_82 : decode cX12_board 82 = .ok (.iload 6, 2) := by decide +kernel
theorem dX12_board_84 : decode cX12_board 84 = .ok (.invokevirtual 111, 3) := by decide +kernel
theorem dX12_board_87 : decode cX12_board 87 = .ok (.iadd, 1) := by decide +kernel
theorem dX12_board_88 : decode cX12_board 88 = .ok (.istore_n 3, 1) := by decide +kernel
theorem dX12_board_89 : decode cX12_board 89 = .ok (.iload 4, 2) := by decide +kernel
theorem dX12_board_91 : decode cX12_board 91 = .ok (.aload_n 0, 1) := by decide +kernel
theorem dX12_board_92 : decode cX12_board 92 = .ok (.iload 6, 2) := by decide +kernel
theorem dX12_board_94 : decode cX12_board 94 = .ok (.invokevirtual 99, 3) := by decide +kernel
theorem dX12_board_97 : decode cX12_board 97 = .ok (.ifCond .le 16, 3) := by decide +kernel
theorem dX12_board_100 : decode cX12_board 100 = .ok (.aload_n 0, 1) := by decide +kernel
theorem dX12_board_101 : decode cX12_board 101 = .ok (.iload 6, 2) := by decide +kernel
theorem dX12_board_103 : decode cX12_board 103 = .ok (.invokevirtual 102, 3) := by decide +kernel
theorem dX12_board_106 : decode cX12_board 106 = .ok (.ifCond .ne 7, 3) := by decide +kernel
theorem dX12_board_109 : decode cX12_board 109 = .ok (.iconst 1, 1) := by decide +kernel
theorem dX12_board_110 : decode cX12_board 110 = .ok (.goto 4, 3) := by decide +kernel
theorem dX12_board_113 : decode cX12_board 113 = .ok (.iconst 0, 1) := by decide +kernel
theorem dX12_board_114 : decode cX12_board 114 = .ok (.iload 6, 2) := by decide +kernel
theorem dX12_board_116 : decode cX12_board 116 = .ok (.ishl, 1) := by decide +kernel
theorem dX12_board_117 : decode cX12_board 117 = .ok (.ior, 1) := by decide +kernel
theorem dX12_board_118 : decode cX12_board 118 = .ok (.istore 4, 2) := by decide +kernel
theorem dX12_board_120 : decode cX12_board 120 = .ok (.iload 5, 2) := by decide +kernel
theorem dX12_board_122 : decode cX12_board 122 = .ok (.iconst 1, 1) := by decide +kernel
theorem dX12_board_123 : decode cX12_board 123 = .ok (.iload 6, 2) := by decide +kernel
theorem dX12_board_125 : decode cX12_board 125 = .ok (.ishl, 1) := by decide +kernel
theorem dX12_board_126 : decode cX12_board 126 = .ok (.ior, 1) := by decide +kernel
theorem dX12_board_127 : decode cX12_board 127 = .ok (.istore 5, 2) := by decide +kernel
theorem dX12_board_129 : decode cX12_board 129 = .ok (.iinc 6 1, 3) := by decide +kernel
theorem dX12_board_132 : decode cX12_board 132 = .ok (.goto (-79), 3) := by decide +kernel
theorem dX12_board_135 : decode cX12_board 135 = .ok (.iload_n 1, 1) := by decide +kernel
theorem dX12_board_136 : decode cX12_board 136 = .ok (.iconst 1, 1) := by decide +kernel
theorem dX12_board_137 : decode cX12_board 137 = .ok (.if_icmp .ne 7, 3) := by decide +kernel
theorem dX12_board_140 : decode cX12_board 140 = .ok (.iload_n 2, 1) := by decide +kernel
theorem dX12_board_141 : decode cX12_board 141 = .ok (.goto 24, 3) := by decide +kernel
theorem dX12_board_144 : decode cX12_board 144 = .ok (.iload_n 1, 1) := by decide +kernel
theorem dX12_board_145 : decode cX12_board 145 = .ok (.iconst 2, 1) := by decide +kernel
theorem dX12_board_146 : decode cX12_board 146 = .ok (.if_icmp .ne 7, 3) := by decide +kernel
theorem dX12_board_149 : decode cX12_board 149 = .ok (.iload_n 3, 1) := by decide +kernel
theorem dX12_board_150 : decode cX12_board 150 = .ok (.goto 15, 3) := by decide +kernel
theorem dX12_board_153 : decode cX12_board 153 = .ok (.iload_n 1, 1) := by decide +kernel
theorem dX12_board_154 : decode cX12_board 154 = .ok (.iconst 3, 1) := by decide +kernel
theorem dX12_board_155 : decode cX12_board 155 = .ok (.if_icmp .ne 8, 3) := by decide +kernel
theorem dX12_board_158 : decode cX12_board 158 = .ok (.iload 4, 2) := by decide +kernel
theorem dX12_board_160 : decode cX12_board 160 = .ok (.goto 5, 3) := by decide +kernel
theorem dX12_board_163 : decode cX12_board 163 = .ok (.iload 5, 2) := by decide +kernel
theorem dX12_board_165 : decode cX12_board 165 = .ok (.ireturn, 1) := by decide +kernel
theorem dX12_common_0 : decode cX12_common 0 = .ok (.lload_n 0, 1) := by decide +kernel
theorem dX12_common_1 : decode cX12_common 1 = .ok (.lstore 4, 2) := by decide +kernel
theorem dX12_common_3 : decode cX12_common 3 = .ok (.lload_n 2, 1) := by decide +kernel
theorem dX12_common_4 : decode cX12_common 4 = .ok (.lstore 6, 2) := by decide +kernel
theorem dX12_common_6 : decode cX12_common 6 = .ok (.lload 6, 2) := by decide +kernel
theorem dX12_common_8 : decode cX12_common 8 = .ok (.lconst 0, 1) := by decide +kernel
theorem dX12_common_9 : decode cX12_common 9 = .ok (.lcmp, 1) := by decide +kernel
theorem dX12_common_10 : decode cX12_common 10 = .ok (.ifCond .eq 21, 3) := by decide +kernel
theorem dX12_common_13 : decode cX12_common 13 = .ok (.lload 4, 2) := by decide +kernel
theorem dX12_common_15 : decode cX12_common 15 = .ok (.lload 6, 2) := by decide +kernel
theorem dX12_common_17 : decode cX12_common 17 = .ok (.lrem, 1) := by decide +kernel
theorem dX12_common_18 : decode cX12_common 18 = .ok (.lstore 8, 2) := by decide +kernel
theorem dX12_common_20 : decode cX12_common 20 = .ok (.lload 6, 2) := by decide +kernel
theorem dX12_common_22 : decode cX12_common 22 = .ok (.lstore 4, 2) := by decide +kernel
theorem dX12_common_24 : decode cX12_common 24 = .ok (.lload 8, 2) := by decide +kernel
theorem dX12_common_26 : decode cX12_common 26 = .ok (.lstore 6, 2) := by decide +kernel
theorem dX12_common_28 : decode cX12_common 28 = .ok (.goto (-22), 3) := by decide +kernel
theorem dX12_common_31 : decode cX12_common 31 = .ok (.lload 4, 2) := by decide +kernel
theorem dX12_common_33 : decode cX12_common 33 = .ok (.lreturn, 1) := by decide +kernel
theorem dX12_buys_0 : decode cX12_buys 0 = .ok (.aload_n 0, 1) := by decide +kernel
theorem dX12_buys_1 : decode cX12_buys 1 = .ok (.iload_n 1, 1) := by decide +kernel
theorem dX12_buys_2 : decode cX12_buys 2 = .ok (.invokevirtual 108, 3) := by decide +kernel
theorem dX12_buys_5 : decode cX12_buys 5 = .ok (.ifCond .eq 15, 3) := by decide +kernel
theorem dX12_buys_8 : decode cX12_buys 8 = .ok (.aload_n 0, 1) := by decide +kernel
theorem dX12_buys_9 : decode cX12_buys 9 = .ok (.iload_n 1, 1) := by decide +kernel
theorem dX12_buys_10 : decode cX12_buys 10 = .ok (.invokevirtual 102, 3) := by decide +kernel
theorem dX12_buys_13 : decode cX12_buys 13 = .ok (.ifCond .le 7, 3) := by decide +kernel
theorem dX12_buys_16 : decode cX12_buys 16 = .ok (.iconst 1, 1) := by decide +kernel
theorem dX12_buys_17 : decode cX12_buys 17 = .ok (.goto 4, 3) := by decide +kernel
theorem dX12_buys_20 : decode cX12_buys 20 = .ok (.iconst 0, 1) := by decide +kernel
theorem dX12_buys_21 : decode cX12_buys 21 = .ok (.ireturn, 1) := by decide +kernel
theorem dX12_fair_0 : decode cX12_fair 0 = .ok (.iload_n 1, 1) := by decide +kernel
theorem dX12_fair_1 : decode cX12_fair 1 = .ok (.i2l, 1) := by decide +kernel
theorem dX12_fair_2 : decode cX12_fair 2 = .ok (.lconst 0, 1) := by decide +kernel
theorem dX12_fair_3 : decode cX12_fair 3 = .ok (.lconst 1, 1) := by decide +kernel
theorem dX12_fair_4 : decode cX12_fair 4 = .ok (.invokestatic 64, 3) := by decide +kernel
theorem dX12_fair_7 : decode cX12_fair 7 = .ok (.ifCond .ne 7, 3) := by decide +kernel
theorem dX12_fair_10 : decode cX12_fair 10 = .ok (.ldc2_w 342, 3) := by decide +kernel
theorem dX12_fair_13 : decode cX12_fair 13 = .ok (.lreturn, 1) := by decide +kernel
theorem dX12_fair_14 : decode cX12_fair 14 = .ok (.lconst 1, 1) := by decide +kernel
theorem dX12_fair_15 : decode cX12_fair 15 = .ok (.lstore_n 2, 1) := by decide +kernel
theorem dX12_fair_16 : decode cX12_fair 16 = .ok (.iconst 0, 1) := by decide +kernel
theorem dX12_fair_17 : decode cX12_fair 17 = .ok (.istore 4, 2) := by decide +kernel
theorem dX12_fair_19 : decode cX12_fair 19 = .ok (.iload 4, 2) := by decide +kernel
theorem dX12_fair_21 : decode cX12_fair 21 = .ok (.aload_n 0, 1) := by decide +kernel
theorem dX12_fair_22 : decode cX12_fair 22 = .ok (.getfield 61, 3) := by decide +kernel
theorem dX12_fair_25 : decode cX12_fair 25 = .ok (.if_icmp .ge 44, 3) := by decide +kernel
theorem dX12_fair_28 : decode cX12_fair 28 = .ok (.lload_n 2, 1) := by decide +kernel
theorem dX12_fair_29 : decode cX12_fair 29 = .ok (.aload_n 0, 1) := by decide +kernel
theorem dX12_fair_30 : decode cX12_fair 30 = .ok (.iload 4, 2) := by decide +kernel
theorem dX12_fair_32 : decode cX12_fair 32 = .ok (.invokevirtual 344, 3) := by decide +kernel
theorem dX12_fair_35 : decode cX12_fair 35 = .ok (.ifCond .eq 25, 3) := by decide +kernel
theorem dX12_fair_38 : decode cX12_fair 38 = .ok (.aload_n 0, 1) := by decide +kernel
theorem dX12_fair_39 : decode cX12_fair 39 = .ok (.iload 4, 2) := by decide +kernel
theorem dX12_fair_41 : decode cX12_fair 41 = .ok (.invokevirtual 102, 3) := by decide +kernel
theorem dX12_fair_44 : decode cX12_fair 44 = .ok (.i2l, 1) := by decide +kernel
theorem dX12_fair_45 : decode cX12_fair 45 = .ok (.lload_n 2, 1) := by decide +kernel
theorem dX12_fair_46 : decode cX12_fair 46 = .ok (.aload_n 0, 1) := by decide +kernel
theorem dX12_fair_47 : decode cX12_fair 47 = .ok (.iload 4, 2) := by decide +kernel
theorem dX12_fair_49 : decode cX12_fair 49 = .ok (.invokevirtual 102, 3) := by decide +kernel
theorem dX12_fair_52 : decode cX12_fair 52 = .ok (.i2l, 1) := by decide +kernel
theorem dX12_fair_53 : decode cX12_fair 53 = .ok (.invokestatic 347, 3) := by decide +kernel
theorem dX12_fair_56 : decode cX12_fair 56 = .ok (.ldiv, 1) := by decide +kernel
theorem dX12_fair_57 : decode cX12_fair 57 = .ok (.goto 4, 3) := by decide +kernel
theorem dX12_fair_60 : decode cX12_fair 60 = .ok (.lconst 1, 1) := by decide +kernel
theorem dX12_fair_61 : decode cX12_fair 61 = .ok (.lmul, 1) := by decide +kernel
theorem dX12_fair_62 : decode cX12_fair 62 = .ok (.lstore_n 2, 1) := by decide +kernel
theorem dX12_fair_63 : decode cX12_fair 63 = .ok (.iinc 4 1, 3) := by decide +kernel
theorem dX12_fair_66 : decode cX12_fair 66 = .ok (.goto (-47), 3) := by decide +kernel
theorem dX12_fair_69 : decode cX12_fair 69 = .ok (.lconst 0, 1) := by decide +kernel
theorem dX12_fair_70 : decode cX12_fair 70 = .ok (.lstore 4, 2) := by decide +kernel
theorem dX12_fair_72 : decode cX12_fair 72 = .ok (.iconst 0, 1) := by decide +kernel
theorem dX12_fair_73 : decode cX12_fair 73 = .ok (.istore 6, 2) := by decide +kernel
theorem dX12_fair_75 : decode cX12_fair 75 = .ok (.iload 6, 2) := by decide +kernel
theorem dX12_fair_77 : decode cX12_fair 77 = .ok (.aload_n 0, 1) := by decide +kernel
theorem dX12_fair_78 : decode cX12_fair 78 = .ok (.getfield 61, 3) := by decide +kernel
theorem dX12_fair_81 : decode cX12_fair 81 = .ok (.if_icmp .ge 44, 3) := by decide +kernel
theorem dX12_fair_84 : decode cX12_fair 84 = .ok (.lload 4, 2) := by decide +kernel
theorem dX12_fair_86 : decode cX12_fair 86 = .ok (.aload_n 0, 1) := by decide +kernel
theorem dX12_fair_87 : decode cX12_fair 87 = .ok (.iload 6, 2) := by decide +kernel
theorem dX12_fair_89 : decode cX12_fair 89 = .ok (.invokevirtual 344, 3) := by decide +kernel
theorem dX12_fair_92 : decode cX12_fair 92 = .ok (.ifCond .eq 23, 3) := by decide +kernel
theorem dX12_fair_95 : decode cX12_fair 95 = .ok (.aload_n 0, 1) := by decide +kernel
theorem dX12_fair_96 : decode cX12_fair 96 = .ok (.iload 6, 2) := by decide +kernel
theorem dX12_fair_98 : decode cX12_fair 98 = .ok (.invokevirtual 105, 3) := by decide +kernel
theorem dX12_fair_101 : decode cX12_fair 101 = .ok (.i2l, 1) := by decide +kernel
theorem dX12_fair_102 : decode cX12_fair 102 = .ok (.lload_n 2, 1) := by decide +kernel
theorem dX12_fair_103 : decode cX12_fair 103 = .ok (.aload_n 0, 1) := by decide +kernel
theorem dX12_fair_104 : decode cX12_fair 104 = .ok (.iload 6, 2) := by decide +kernel
theorem dX12_fair_106 : decode cX12_fair 106 = .ok (.invokevirtual 102, 3) := by decide +kernel
theorem dX12_fair_109 : decode cX12_fair 109 = .ok (.i2l, 1) := by decide +kernel
theorem dX12_fair_110 : decode cX12_fair 110 = .ok (.ldiv, 1) := by decide +kernel
theorem dX12_fair_111 : decode cX12_fair 111 = .ok (.lmul, 1) := by decide +kernel
theorem dX12_fair_112 : decode cX12_fair 112 = .ok (.goto 4, 3) := by decide +kernel
theorem dX12_fair_115 : decode cX12_fair 115 = .ok (.lconst 0, 1) := by decide +kernel
theorem dX12_fair_116 : decode cX12_fair 116 = .ok (.ladd, 1) := by decide +kernel
theorem dX12_fair_117 : decode cX12_fair 117 = .ok (.lstore 4, 2) := by decide +kernel
theorem dX12_fair_119 : decode cX12_fair 119 = .ok (.iinc 6 1, 3) := by decide +kernel
theorem dX12_fair_122 : decode cX12_fair 122 = .ok (.goto (-47), 3) := by decide +kernel
theorem dX12_fair_125 : decode cX12_fair 125 = .ok (.lload 4, 2) := by decide +kernel
theorem dX12_fair_127 : decode cX12_fair 127 = .ok (.lload_n 2, 1) := by decide +kernel
theorem dX12_fair_128 : decode cX12_fair 128 = .ok (.invokestatic 347, 3) := by decide +kernel
theorem dX12_fair_131 : decode cX12_fair 131 = .ok (.lstore 6, 2) := by decide +kernel
theorem dX12_fair_133 : decode cX12_fair 133 = .ok (.iload_n 1, 1) := by decide +kernel
theorem dX12_fair_134 : decode cX12_fair 134 = .ok (.ifCond .ne 11, 3) := by decide +kernel
theorem dX12_fair_137 : decode cX12_fair 137 = .ok (.lload 4, 2) := by decide +kernel
theorem dX12_fair_139 : decode cX12_fair 139 = .ok (.lload 6, 2) := by decide +kernel
theorem dX12_fair_141 : decode cX12_fair 141 = .ok (.ldiv, 1) := by decide +kernel
theorem dX12_fair_142 : decode cX12_fair 142 = .ok (.goto 7, 3) := by decide +kernel
theorem dX12_fair_145 : decode cX12_fair 145 = .ok (.lload_n 2, 1) := by decide +kernel
theorem dX12_fair_146 : decode cX12_fair 146 = .ok (.lload 6, 2) := by decide +kernel
theorem dX12_fair_148 : decode cX12_fair 148 = .ok (.ldiv, 1) := by decide +kernel
theorem dX12_fair_149 : decode cX12_fair 149 = .ok (.lreturn, 1) := by decide +kernel
theorem dX12_buysOne_0 : decode cX12_buysOne 0 = .ok (.iload_n 1, 1) := by decide +kernel
theorem dX12_buysOne_1 : decode cX12_buysOne 1 = .ok (.i2l, 1) := by decide +kernel
theorem dX12_buysOne_2 : decode cX12_buysOne 2 = .ok (.lconst 0, 1) := by decide +kernel
theorem dX12_buysOne_3 : decode cX12_buysOne 3 = .ok (.lconst 1, 1) := by decide +kernel
theorem dX12_buysOne_4 : decode cX12_buysOne 4 = .ok (.invokestatic 64, 3) := by decide +kernel
theorem dX12_buysOne_7 : decode cX12_buysOne 7 = .ok (.ifCond .ne 7, 3) := by decide +kernel
theorem dX12_buysOne_10 : decode cX12_buysOne 10 = .ok (.ldc2_w 342, 3) := by decide +kernel
theorem dX12_buysOne_13 : decode cX12_buysOne 13 = .ok (.lreturn, 1) := by decide +kernel
theorem dX12_buysOne_14 : decode cX12_buysOne 14 = .ok (.lconst 1, 1) := by decide +kernel
theorem dX12_buysOne_15 : decode cX12_buysOne 15 = .ok (.lstore_n 2, 1) := by decide +kernel
theorem dX12_buysOne_16 : decode cX12_buysOne 16 = .ok (.lconst 1, 1) := by decide +kernel
theorem dX12_buysOne_17 : decode cX12_buysOne 17 = .ok (.lstore 4, 2) := by decide +kernel
theorem dX12_buysOne_19 : decode cX12_buysOne 19 = .ok (.iconst 0, 1) := by decide +kernel
theorem dX12_buysOne_20 : decode cX12_buysOne 20 = .ok (.istore 6, 2) := by decide +kernel
theorem dX12_buysOne_22 : decode cX12_buysOne 22 = .ok (.iload 6, 2) := by decide +kernel
theorem dX12_buysOne_24 : decode cX12_buysOne 24 = .ok (.aload_n 0, 1) := by decide +kernel
theorem dX12_buysOne_25 : decode cX12_buysOne 25 = .ok (.getfield 61, 3) := by decide +kernel
theorem dX12_buysOne_28 : decode cX12_buysOne 28 = .ok (.if_icmp .ge 59, 3) := by decide +kernel
theorem dX12_buysOne_31 : decode cX12_buysOne 31 = .ok (.lload_n 2, 1) := by decide +kernel
theorem dX12_buysOne_32 : decode cX12_buysOne 32 = .ok (.aload_n 0, 1) := by decide +kernel
theorem dX12_buysOne_33 : decode cX12_buysOne 33 = .ok (.iload 6, 2) := by decide +kernel
theorem dX12_buysOne_35 : decode cX12_buysOne 35 = .ok (.invokevirtual 344, 3) := by decide +kernel
theorem dX12_buysOne_38 : decode cX12_buysOne 38 = .ok (.ifCond .eq 13, 3) := by decide +kernel
theorem dX12_buysOne_41 : decode cX12_buysOne 41 = .ok (.aload_n 0, 1) := by decide +kernel
theorem dX12_buysOne_42 : decode cX12_buysOne 42 = .ok (.iload 6, 2) := by decide +kernel
theorem dX12_buysOne_44 : decode cX12_buysOne 44 = .ok (.invokevirtual 102, 3) := by decide +kernel
theorem dX12_buysOne_47 : decode cX12_buysOne 47 = .ok (.i2l, 1) := by decide +kernel
theorem dX12_buysOne_48 : decode cX12_buysOne 48 = .ok (.goto 4, 3) := by decide +kernel
theorem dX12_buysOne_51 : decode cX12_buysOne 51 = .ok (.lconst 1, 1) := by decide +kernel
theorem dX12_buysOne_52 : decode cX12_buysOne 52 = .ok (.lmul, 1) := by decide +kernel
theorem dX12_buysOne_53 : decode cX12_buysOne 53 = .ok (.lstore_n 2, 1) := by decide +kernel
theorem dX12_buysOne_54 : decode cX12_buysOne 54 = .ok (.lload 4, 2) := by decide +kernel
theorem dX12_buysOne_56 : decode cX12_buysOne 56 = .ok (.aload_n 0, 1) := by decide +kernel
theorem dX12_buysOne_57 : decode cX12_buysOne 57 = .ok (.iload 6, 2) := by decide +kernel
theorem dX12_buysOne_59 : decode cX12_buysOne 59 = .ok (.invokevirtual 344, 3) := by decide +kernel
theorem dX12_buysOne_62 : decode cX12_buysOne 62 = .ok (.ifCond .eq 15, 3) := by decide +kernel
theorem dX12_buysOne_65 : decode cX12_buysOne 65 = .ok (.aload_n 0, 1) := by decide +kernel
theorem dX12_buysOne_66 : decode cX12_buysOne 66 = .ok (.iload 6, 2) := by decide +kernel
theorem dX12_buysOne_68 : decode cX12_buysOne 68 = .ok (.invokevirtual 102, 3) := by decide +kernel
theorem dX12_buysOne_71 : decode cX12_buysOne 71 = .ok (.i2l, 1) := by decide +kernel
theorem dX12_buysOne_72 : decode cX12_buysOne 72 = .ok (.lconst 1, 1) := by decide +kernel
theorem dX12_buysOne_73 : decode cX12_buysOne 73 = .ok (.lsub, 1) := by decide +kernel
theorem dX12_buysOne_74 : decode cX12_buysOne 74 = .ok (.goto 4, 3) := by decide +kernel
theorem dX12_buysOne_77 : decode cX12_buysOne 77 = .ok (.lconst 1, 1) := by decide +kernel
theorem dX12_buysOne_78 : decode cX12_buysOne 78 = .ok (.lmul, 1) := by decide +kernel
theorem dX12_buysOne_79 : decode cX12_buysOne 79 = .ok (.lstore 4, 2) := by decide +kernel
theorem dX12_buysOne_81 : decode cX12_buysOne 81 = .ok (.iinc 6 1, 3) := by decide +kernel
theorem dX12_buysOne_84 : decode cX12_buysOne 84 = .ok (.goto (-62), 3) := by decide +kernel
theorem dX12_buysOne_87 : decode cX12_buysOne 87 = .ok (.lload_n 2, 1) := by decide +kernel
theorem dX12_buysOne_88 : decode cX12_buysOne 88 = .ok (.lload 4, 2) := by decide +kernel
theorem dX12_buysOne_90 : decode cX12_buysOne 90 = .ok (.lsub, 1) := by decide +kernel
theorem dX12_buysOne_91 : decode cX12_buysOne 91 = .ok (.lload_n 2, 1) := by decide +kernel
theorem dX12_buysOne_92 : decode cX12_buysOne 92 = .ok (.invokestatic 347, 3) := by decide +kernel
theorem dX12_buysOne_95 : decode cX12_buysOne 95 = .ok (.lstore 6, 2) := by decide +kernel
theorem dX12_buysOne_97 : decode cX12_buysOne 97 = .ok (.iload_n 1, 1) := by decide +kernel
theorem dX12_buysOne_98 : decode cX12_buysOne 98 = .ok (.ifCond .ne 13, 3) := by decide +kernel
theorem dX12_buysOne_101 : decode cX12_buysOne 101 = .ok (.lload_n 2, 1) := by decide +kernel
theorem dX12_buysOne_102 : decode cX12_buysOne 102 = .ok (.lload 4, 2) := by decide +kernel
theorem dX12_buysOne_104 : decode cX12_buysOne 104 = .ok (.lsub, 1) := by decide +kernel
theorem dX12_buysOne_105 : decode cX12_buysOne 105 = .ok (.lload 6, 2) := by decide +kernel
theorem dX12_buysOne_107 : decode cX12_buysOne 107 = .ok (.ldiv, 1) := by decide +kernel
theorem dX12_buysOne_108 : decode cX12_buysOne 108 = .ok (.goto 7, 3) := by decide +kernel
theorem dX12_buysOne_111 : decode cX12_buysOne 111 = .ok (.lload_n 2, 1) := by decide +kernel
theorem dX12_buysOne_112 : decode cX12_buysOne 112 = .ok (.lload 6, 2) := by decide +kernel
theorem dX12_buysOne_114 : decode cX12_buysOne 114 = .ok (.ldiv, 1) := by decide +kernel
theorem dX12_buysOne_115 : decode cX12_buysOne 115 = .ok (.lreturn, 1) := by decide +kernel
theorem dX12_hour_0 : decode cX12_hour 0 = .ok (.iload_n 1, 1) := by decide +kernel
theorem dX12_hour_1 : decode cX12_hour 1 = .ok (.i2l, 1) := by decide +kernel
theorem dX12_hour_2 : decode cX12_hour 2 = .ok (.lconst 0, 1) := by decide +kernel
theorem dX12_hour_3 : decode cX12_hour 3 = .ok (.ldc2_w 94, 3) := by decide +kernel
theorem dX12_hour_6 : decode cX12_hour 6 = .ok (.invokestatic 64, 3) := by decide +kernel
theorem dX12_hour_9 : decode cX12_hour 9 = .ok (.ifCond .eq 13, 3) := by decide +kernel
theorem dX12_hour_12 : decode cX12_hour 12 = .ok (.iload_n 2, 1) := by decide +kernel
theorem dX12_hour_13 : decode cX12_hour 13 = .ok (.i2l, 1) := by decide +kernel
theorem dX12_hour_14 : decode cX12_hour 14 = .ok (.lconst 0, 1) := by decide +kernel
theorem dX12_hour_15 : decode cX12_hour 15 = .ok (.lconst 1, 1) := by decide +kernel
theorem dX12_hour_16 : decode cX12_hour 16 = .ok (.invokestatic 64, 3) := by decide +kernel
theorem dX12_hour_19 : decode cX12_hour 19 = .ok (.ifCond .ne 6, 3) := by decide +kernel
theorem dX12_hour_22 : decode cX12_hour 22 = .ok (.bipush (-2), 2) := by decide +kernel
theorem dX12_hour_24 : decode cX12_hour 24 = .ok (.ireturn, 1) := by decide +kernel
theorem dX12_hour_25 : decode cX12_hour 25 = .ok (.iload_n 2, 1) := by decide +kernel
theorem dX12_hour_26 : decode cX12_hour 26 = .ok (.ifCond .ne 9, 3) := by decide +kernel
theorem dX12_hour_29 : decode cX12_hour 29 = .ok (.aload_n 0, 1) := by decide +kernel
theorem dX12_hour_30 : decode cX12_hour 30 = .ok (.iload_n 1, 1) := by decide +kernel
theorem dX12_hour_31 : decode cX12_hour 31 = .ok (.invokevirtual 333, 3) := by decide +kernel
theorem dX12_hour_34 : decode cX12_hour 34 = .ok (.ireturn, 1) := by decide +kernel
theorem dX12_hour_35 : decode cX12_hour 35 = .ok (.iconst 0, 1) := by decide +kernel
theorem dX12_hour_36 : decode cX12_hour 36 = .ok (.istore_n 3, 1) := by decide +kernel
theorem dX12_hour_37 : decode cX12_hour 37 = .ok (.iconst 0, 1) := by decide +kernel
theorem dX12_hour_38 : decode cX12_hour 38 = .ok (.istore 4, 2) := by decide +kernel
theorem dX12_hour_40 : decode cX12_hour 40 = .ok (.iload 4, 2) := by decide +kernel
theorem dX12_hour_42 : decode cX12_hour 42 = .ok (.aload_n 0, 1) := by decide +kernel
theorem dX12_hour_43 : decode cX12_hour 43 = .ok (.getfield 61, 3) := by decide +kernel
theorem dX12_hour_46 : decode cX12_hour 46 = .ok (.if_icmp .ge 44, 3) := by decide +kernel
theorem dX12_hour_49 : decode cX12_hour 49 = .ok (.iload_n 3, 1) := by decide +kernel
theorem dX12_hour_50 : decode cX12_hour 50 = .ok (.aload_n 0, 1) := by decide +kernel
theorem dX12_hour_51 : decode cX12_hour 51 = .ok (.iload 4, 2) := by decide +kernel
theorem dX12_hour_53 : decode cX12_hour 53 = .ok (.invokevirtual 108, 3) := by decide +kernel
theorem dX12_hour_56 : decode cX12_hour 56 = .ok (.ifCond .eq 22, 3) := by decide +kernel
theorem dX12_hour_59 : decode cX12_hour 59 = .ok (.aload_n 0, 1) := by decide +kernel
theorem dX12_hour_60 : decode cX12_hour 60 = .ok (.getfield 29, 3) := by decide +kernel
theorem dX12_hour_63 : decode cX12_hour 63 = .ok (.iconst 4, 1) := by decide +kernel
theorem dX12_hour_64 : decode cX12_hour 64 = .ok (.iload 4, 2) := by decide +kernel
theorem dX12_hour_66 : decode cX12_hour 66 = .ok (.imul, 1) := by decide +kernel
theorem dX12_hour_67 : decode cX12_hour 67 = .ok (.iconst 1, 1) := by decide +kernel
theorem dX12_hour_68 : decode cX12_hour 68 = .ok (.iadd, 1) := by decide +kernel
theorem dX12_hour_69 : decode cX12_hour 69 = .ok (.iaload, 1) := by decide +kernel
theorem dX12_hour_70 : decode cX12_hour 70 = .ok (.iload_n 1, 1) := by decide +kernel
theorem dX12_hour_71 : decode cX12_hour 71 = .ok (.if_icmp .ne 7, 3) := by decide +kernel
theorem dX12_hour_74 : decode cX12_hour 74 = .ok (.iconst 1, 1) := by decide +kernel
theorem dX12_hour_75 : decode cX12_hour 75 = .ok (.goto 4, 3) := by decide +kernel
theorem dX12_hour_78 : decode cX12_hour 78 = .ok (.iconst 0, 1) := by decide +kernel
theorem dX12_hour_79 : decode cX12_hour 79 = .ok (.iload 4, 2) := by decide +kernel
theorem dX12_hour_81 : decode cX12_hour 81 = .ok (.ishl, 1) := by decide +kernel
theorem dX12_hour_82 : decode cX12_hour 82 = .ok (.ior, 1) := by decide +kernel
theorem dX12_hour_83 : decode cX12_hour 83 = .ok (.istore_n 3, 1) := by decide +kernel
theorem dX12_hour_84 : decode cX12_hour 84 = .ok (.iinc 4 1, 3) := by decide +kernel
theorem dX12_hour_87 : decode cX12_hour 87 = .ok (.goto (-47), 3) := by decide +kernel
theorem dX12_hour_90 : decode cX12_hour 90 = .ok (.iload_n 3, 1) := by decide +kernel
theorem dX12_hour_91 : decode cX12_hour 91 = .ok (.ireturn, 1) := by decide +kernel
theorem dX12_bestOf_0 : decode cX12_bestOf 0 = .ok (.aload_n 0, 1) := by decide +kernel
theorem dX12_bestOf_1 : decode cX12_bestOf 1 = .ok (.getfield 23, 3) := by decide +kernel
theorem dX12_bestOf_4 : decode cX12_bestOf 4 = .ok (.iload_n 2, 1) := by decide +kernel
theorem dX12_bestOf_5 : decode cX12_bestOf 5 = .ok (.iaload, 1) := by decide +kernel
theorem dX12_bestOf_6 : decode cX12_bestOf 6 = .ok (.istore_n 3, 1) := by decide +kernel
theorem dX12_bestOf_7 : decode cX12_bestOf 7 = .ok (.iconst (-1), 1) := by decide +kernel
theorem dX12_bestOf_8 : decode cX12_bestOf 8 = .ok (.istore 4, 2) := by decide +kernel
theorem dX12_bestOf_10 : decode cX12_bestOf 10 = .ok (.iconst 0, 1) := by decide +kernel
theorem dX12_bestOf_11 : decode cX12_bestOf 11 = .ok (.istore 5, 2) := by decide +kernel
theorem dX12_bestOf_13 : decode cX12_bestOf 13 = .ok (.iload_n 2, 1) := by decide +kernel
theorem dX12_bestOf_14 : decode cX12_bestOf 14 = .ok (.invokestatic 74, 3) := by decide +kernel
theorem dX12_bestOf_17 : decode cX12_bestOf 17 = .ok (.istore 6, 2) := by decide +kernel
theorem dX12_bestOf_19 : decode cX12_bestOf 19 = .ok (.iload 6, 2) := by decide +kernel
theorem dX12_bestOf_21 : decode cX12_bestOf 21 = .ok (.iload_n 2, 1) := by decide +kernel
theorem dX12_bestOf_22 : decode cX12_bestOf 22 = .ok (.invokestatic 78, 3) := by decide +kernel
theorem dX12_bestOf_25 : decode cX12_bestOf 25 = .ok (.if_icmp .gt 44, 3) := by decide +kernel
theorem dX12_bestOf_28 : decode cX12_bestOf 28 = .ok (.aload_n 0, 1) := by decide +kernel
theorem dX12_bestOf_29 : decode cX12_bestOf 29 = .ok (.getfield 23, 3) := by decide +kernel
theorem dX12_bestOf_32 : decode cX12_bestOf 32 = .ok (.iload_n 2, 1) := by decide +kernel
theorem dX12_bestOf_33 : decode cX12_bestOf 33 = .ok (.iload 6, 2) := by decide +kernel
theorem dX12_bestOf_35 : decode cX12_bestOf 35 = .ok (.iastore, 1) := by decide +kernel
theorem dX12_bestOf_36 : decode cX12_bestOf 36 = .ok (.aload_n 0, 1) := by decide +kernel
theorem dX12_bestOf_37 : decode cX12_bestOf 37 = .ok (.invokevirtual 336, 3) := by decide +kernel
theorem dX12_bestOf_40 : decode cX12_bestOf 40 = .ok (.istore 7, 2) := by decide +kernel
theorem dX12_bestOf_42 : decode cX12_bestOf 42 = .ok (.iload 4, 2) := by decide +kernel
theorem dX12_bestOf_44 : decode cX12_bestOf 44 = .ok (.iconst (-1), 1) := by decide +kernel
theorem dX12_bestOf_45 : decode cX12_bestOf 45 = .ok (.if_icmp .eq 10, 3) := by decide +kernel
theorem dX12_bestOf_48 : decode cX12_bestOf 48 = .ok (.iload 7, 2) := by decide +kernel
theorem dX12_bestOf_50 : decode cX12_bestOf 50 = .ok (.iload 5, 2) := by decide +kernel
theorem dX12_bestOf_52 : decode cX12_bestOf 52 = .ok (.if_icmp .le 11, 3) := by decide +kernel
theorem dX12_bestOf_55 : decode cX12_bestOf 55 = .ok (.iload 6, 2) := by decide +kernel
theorem dX12_bestOf_57 : decode cX12_bestOf 57 = .ok (.istore 4, 2) := by decide +kernel
theorem dX12_bestOf_59 : decode cX12_bestOf 59 = .ok (.iload 7, 2) := by decide +kernel
theorem dX12_bestOf_61 : decode cX12_bestOf 61 = .ok (.istore 5, 2) := by decide +kernel
theorem dX12_bestOf_63 : decode cX12_bestOf 63 = .ok (.iinc 6 1, 3) := by decide +kernel
theorem dX12_bestOf_66 : decode cX12_bestOf 66 = .ok (.goto (-47), 3) := by decide +kernel
theorem dX12_bestOf_69 : decode cX12_bestOf 69 = .ok (.aload_n 0, 1) := by decide +kernel
theorem dX12_bestOf_70 : decode cX12_bestOf 70 = .ok (.getfield 23, 3) := by decide +kernel
theorem dX12_bestOf_73 : decode cX12_bestOf 73 = .ok (.iload_n 2, 1) := by decide +kernel
theorem dX12_bestOf_74 : decode cX12_bestOf 74 = .ok (.iload_n 3, 1) := by decide +kernel
theorem dX12_bestOf_75 : decode cX12_bestOf 75 = .ok (.iastore, 1) := by decide +kernel
theorem dX12_bestOf_76 : decode cX12_bestOf 76 = .ok (.iload_n 1, 1) := by decide +kernel
theorem dX12_bestOf_77 : decode cX12_bestOf 77 = .ok (.ifCond .ne 8, 3) := by decide +kernel
theorem dX12_bestOf_80 : decode cX12_bestOf 80 = .ok (.iload 4, 2) := by decide +kernel
theorem dX12_bestOf_82 : decode cX12_bestOf 82 = .ok (.goto 5, 3) := by decide +kernel
theorem dX12_bestOf_85 : decode cX12_bestOf 85 = .ok (.iload 5, 2) := by decide +kernel
theorem dX12_bestOf_87 : decode cX12_bestOf 87 = .ok (.ireturn, 1) := by decide +kernel
theorem dX12_cubes_0 : decode cX12_cubes 0 = .ok (.iload_n 1, 1) := by decide +kernel
theorem dX12_cubes_1 : decode cX12_cubes 1 = .ok (.i2l, 1) := by decide +kernel
theorem dX12_cubes_2 : decode cX12_cubes 2 = .ok (.lconst 0, 1) := by decide +kernel
theorem dX12_cubes_3 : decode cX12_cubes 3 = .ok (.lconst 1, 1) := by decide +kernel
theorem dX12_cubes_4 : decode cX12_cubes 4 = .ok (.invokestatic 64, 3) := by decide +kernel
theorem dX12_cubes_7 : decode cX12_cubes 7 = .ok (.ifCond .eq 12, 3) := by decide +kernel
theorem dX12_cubes_10 : decode cX12_cubes 10 = .ok (.aload_n 0, 1) := by decide +kernel
theorem dX12_cubes_11 : decode cX12_cubes 11 = .ok (.iload_n 1, 1) := by decide +kernel
theorem dX12_cubes_12 : decode cX12_cubes 12 = .ok (.iconst 0, 1) := by decide +kernel
theorem dX12_cubes_13 : decode cX12_cubes 13 = .ok (.invokevirtual 351, 3) := by decide +kernel
theorem dX12_cubes_16 : decode cX12_cubes 16 = .ok (.goto 5, 3) := by decide +kernel
theorem dX12_cubes_19 : decode cX12_cubes 19 = .ok (.ldc 98, 2) := by decide +kernel
theorem dX12_cubes_21 : decode cX12_cubes 21 = .ok (.ireturn, 1) := by decide +kernel
theorem dX12_shelf_0 : decode cX12_shelf 0 = .ok (.iload_n 1, 1) := by decide +kernel
theorem dX12_shelf_1 : decode cX12_shelf 1 = .ok (.i2l, 1) := by decide +kernel
theorem dX12_shelf_2 : decode cX12_shelf 2 = .ok (.lconst 0, 1) := by decide +kernel
theorem dX12_shelf_3 : decode cX12_shelf 3 = .ok (.lconst 1, 1) := by decide +kernel
theorem dX12_shelf_4 : decode cX12_shelf 4 = .ok (.invokestatic 64, 3) := by decide +kernel
theorem dX12_shelf_7 : decode cX12_shelf 7 = .ok (.ifCond .eq 12, 3) := by decide +kernel
theorem dX12_shelf_10 : decode cX12_shelf 10 = .ok (.aload_n 0, 1) := by decide +kernel
theorem dX12_shelf_11 : decode cX12_shelf 11 = .ok (.iload_n 1, 1) := by decide +kernel
theorem dX12_shelf_12 : decode cX12_shelf 12 = .ok (.iconst 1, 1) := by decide +kernel
theorem dX12_shelf_13 : decode cX12_shelf 13 = .ok (.invokevirtual 351, 3) := by decide +kernel
theorem dX12_shelf_16 : decode cX12_shelf 16 = .ok (.goto 5, 3) := by decide +kernel
theorem dX12_shelf_19 : decode cX12_shelf 19 = .ok (.ldc 98, 2) := by decide +kernel
theorem dX12_shelf_21 : decode cX12_shelf 21 = .ok (.ireturn, 1) := by decide +kernel
theorem dX12_apron_0 : decode cX12_apron 0 = .ok (.iload_n 1, 1) := by decide +kernel
theorem dX12_apron_1 : decode cX12_apron 1 = .ok (.i2l, 1) := by decide +kernel
theorem dX12_apron_2 : decode cX12_apron 2 = .ok (.lconst 0, 1) := by decide +kernel
theorem dX12_apron_3 : decode cX12_apron 3 = .ok (.lconst 1, 1) := by decide +kernel
theorem dX12_apron_4 : decode cX12_apron 4 = .ok (.invokestatic 64, 3) := by decide +kernel
theorem dX12_apron_7 : decode cX12_apron 7 = .ok (.ifCond .eq 12, 3) := by decide +kernel
theorem dX12_apron_10 : decode cX12_apron 10 = .ok (.aload_n 0, 1) := by decide +kernel
theorem dX12_apron_11 : decode cX12_apron 11 = .ok (.iload_n 1, 1) := by decide +kernel
theorem dX12_apron_12 : decode cX12_apron 12 = .ok (.iconst 2, 1) := by decide +kernel
theorem dX12_apron_13 : decode cX12_apron 13 = .ok (.invokevirtual 351, 3) := by decide +kernel
theorem dX12_apron_16 : decode cX12_apron 16 = .ok (.goto 5, 3) := by decide +kernel
theorem dX12_apron_19 : decode cX12_apron 19 = .ok (.ldc 98, 2) := by decide +kernel
theorem dX12_apron_21 : decode cX12_apron 21 = .ok (.ireturn, 1) := by decide +kernel
theorem dX12_stand_0 : decode cX12_stand 0 = .ok (.iload_n 1, 1) := by decide +kernel
theorem dX12_stand_1 : decode cX12_stand 1 = .ok (.i2l, 1) := by decide +kernel
theorem dX12_stand_2 : decode cX12_stand 2 = .ok (.lconst 0, 1) := by decide +kernel
theorem dX12_stand_3 : decode cX12_stand 3 = .ok (.ldc2_w 152, 3) := by decide +kernel
theorem dX12_stand_6 : decode cX12_stand 6 = .ok (.invokestatic 64, 3) := by decide +kernel
theorem dX12_stand_9 : decode cX12_stand 9 = .ok (.ifCond .eq 13, 3) := by decide +kernel
theorem dX12_stand_12 : decode cX12_stand 12 = .ok (.iload_n 2, 1) := by decide +kernel
theorem dX12_stand_13 : decode cX12_stand 13 = .ok (.i2l, 1) := by decide +kernel
theorem dX12_stand_14 : decode cX12_stand 14 = .ok (.lconst 0, 1) := by decide +kernel
theorem dX12_stand_15 : decode cX12_stand 15 = .ok (.lconst 1, 1) := by decide +kernel
theorem dX12_stand_16 : decode cX12_stand 16 = .ok (.invokestatic 64, 3) := by decide +kernel
theorem dX12_stand_19 : decode cX12_stand 19 = .ok (.ifCond .ne 6, 3) := by decide +kernel
theorem dX12_stand_22 : decode cX12_stand 22 = .ok (.ldc 98, 2) := by decide +kernel
theorem dX12_stand_24 : decode cX12_stand 24 = .ok (.ireturn, 1) := by decide +kernel
theorem dX12_stand_25 : decode cX12_stand 25 = .ok (.aload_n 0, 1) := by decide +kernel
theorem dX12_stand_26 : decode cX12_stand 26 = .ok (.getfield 23, 3) := by decide +kernel
theorem dX12_stand_29 : decode cX12_stand 29 = .ok (.iconst 3, 1) := by decide +kernel
theorem dX12_stand_30 : decode cX12_stand 30 = .ok (.iaload, 1) := by decide +kernel
theorem dX12_stand_31 : decode cX12_stand 31 = .ok (.istore_n 3, 1) := by decide +kernel
theorem dX12_stand_32 : decode cX12_stand 32 = .ok (.iconst (-1), 1) := by decide +kernel
theorem dX12_stand_33 : decode cX12_stand 33 = .ok (.istore 4, 2) := by decide +kernel
theorem dX12_stand_35 : decode cX12_stand 35 = .ok (.iconst 0, 1) := by decide +kernel
theorem dX12_stand_36 : decode cX12_stand 36 = .ok (.istore 5, 2) := by decide +kernel
theorem dX12_stand_38 : decode cX12_stand 38 = .ok (.iconst 0, 1) := by decide +kernel
theorem dX12_stand_39 : decode cX12_stand 39 = .ok (.istore 6, 2) := by decide +kernel
theorem dX12_stand_41 : decode cX12_stand 41 = .ok (.iload 6, 2) := by decide +kernel
theorem dX12_stand_43 : decode cX12_stand 43 = .ok (.bipush 10, 2) := by decide +kernel
theorem dX12_stand_45 : decode cX12_stand 45 = .ok (.iload_n 1, 1) := by decide +kernel
theorem dX12_stand_46 : decode cX12_stand 46 = .ok (.isub, 1) := by decide +kernel
theorem dX12_stand_47 : decode cX12_stand 47 = .ok (.if_icmp .gt 50, 3) := by decide +kernel
theorem dX12_stand_50 : decode cX12_stand 50 = .ok (.aload_n 0, 1) := by decide +kernel
theorem dX12_stand_51 : decode cX12_stand 51 = .ok (.getfield 23, 3) := by decide +kernel
theorem dX12_stand_54 : decode cX12_stand 54 = .ok (.iconst 3, 1) := by decide +kernel
theorem dX12_stand_55 : decode cX12_stand 55 = .ok (.iconst 1, 1) := by decide +kernel
theorem dX12_stand_56 : decode cX12_stand 56 = .ok (.iload_n 1, 1) := by decide +kernel
theorem dX12_stand_57 : decode cX12_stand 57 = .ok (.ishl, 1) := by decide +kernel
theorem dX12_stand_58 : decode cX12_stand 58 = .ok (.iconst 1, 1) := by decide +kernel
theorem dX12_stand_59 : decode cX12_stand 59 = .ok (.isub, 1) := by decide +kernel
theorem dX12_stand_60 : decode cX12_stand 60 = .ok (.iload 6, 2) := by decide +kernel
theorem dX12_stand_62 : decode cX12_stand 62 = .ok (.ishl, 1) := by decide +kernel
theorem dX12_stand_63 : decode cX12_stand 63 = .ok (.iastore, 1) := by decide +kernel
theorem dX12_stand_64 : decode cX12_stand 64 = .ok (.aload_n 0, 1) := by decide +kernel
theorem dX12_stand_65 : decode cX12_stand 65 = .ok (.invokevirtual 336, 3) := by decide +kernel
theorem dX12_stand_68 : decode cX12_stand 68 = .ok (.istore 7, 2) := by decide +kernel
theorem dX12_stand_70 : decode cX12_stand 70 = .ok (.iload 4, 2) := by decide +kernel
theorem dX12_stand_72 : decode cX12_stand 72 = .ok (.iconst (-1), 1) := by decide +kernel
theorem dX12_stand_73 : decode cX12_stand 73 = .ok (.if_icmp .eq 10, 3) := by decide +kernel
theorem dX12_stand_76 : decode cX12_stand 76 = .ok (.iload 7, 2) := by decide +kernel
theorem dX12_stand_78 : decode cX12_stand 78 = .ok (.iload 5, 2) := by decide +kernel
theorem dX12_stand_80 : decode cX12_stand 80 = .ok (.if_icmp .le 11, 3) := by decide +kernel
theorem dX12_stand_83 : decode cX12_stand 83 = .ok (.iload 6, 2) := by decide +kernel
theorem dX12_stand_85 : decode cX12_stand 85 = .ok (.istore 4, 2) := by decide +kernel
theorem dX12_stand_87 : decode cX12_stand 87 = .ok (.iload 7, 2) := by decide +kernel
theorem dX12_stand_89 : decode cX12_stand 89 = .ok (.istore 5, 2) := by decide +kernel
theorem dX12_stand_91 : decode cX12_stand 91 = .ok (.iinc 6 1, 3) := by decide +kernel
theorem dX12_stand_94 : decode cX12_stand 94 = .ok (.goto (-53), 3) := by decide +kernel
theorem dX12_stand_97 : decode cX12_stand 97 = .ok (.aload_n 0, 1) := by decide +kernel
theorem dX12_stand_98 : decode cX12_stand 98 = .ok (.getfield 23, 3) := by decide +kernel
theorem dX12_stand_101 : decode cX12_stand 101 = .ok (.iconst 3, 1) := by decide +kernel
theorem dX12_stand_102 : decode cX12_stand 102 = .ok (.iload_n 3, 1) := by decide +kernel
theorem dX12_stand_103 : decode cX12_stand 103 = .ok (.iastore, 1) := by decide +kernel
theorem dX12_stand_104 : decode cX12_stand 104 = .ok (.iload_n 2, 1) := by decide +kernel
theorem dX12_stand_105 : decode cX12_stand 105 = .ok (.ifCond .ne 8, 3) := by decide +kernel
theorem dX12_stand_108 : decode cX12_stand 108 = .ok (.iload 4, 2) := by decide +kernel
theorem dX12_stand_110 : decode cX12_stand 110 = .ok (.goto 5, 3) := by decide +kernel
theorem dX12_stand_113 : decode cX12_stand 113 = .ok (.iload 5, 2) := by decide +kernel
theorem dX12_stand_115 : decode cX12_stand 115 = .ok (.ireturn, 1) := by decide +kernel
theorem dX12_setting_0 : decode cX12_setting 0 = .ok (.iload_n 1, 1) := by decide +kernel
theorem dX12_setting_1 : decode cX12_setting 1 = .ok (.i2l, 1) := by decide +kernel
theorem dX12_setting_2 : decode cX12_setting 2 = .ok (.lconst 0, 1) := by decide +kernel
theorem dX12_setting_3 : decode cX12_setting 3 = .ok (.lconst 1, 1) := by decide +kernel
theorem dX12_setting_4 : decode cX12_setting 4 = .ok (.invokestatic 64, 3) := by decide +kernel
theorem dX12_setting_7 : decode cX12_setting 7 = .ok (.ifCond .ne 6, 3) := by decide +kernel
theorem dX12_setting_10 : decode cX12_setting 10 = .ok (.ldc 98, 2) := by decide +kernel
theorem dX12_setting_12 : decode cX12_setting 12 = .ok (.ireturn, 1) := by decide +kernel
theorem dX12_setting_13 : decode cX12_setting 13 = .ok (.aload_n 0, 1) := by decide +kernel
theorem dX12_setting_14 : decode cX12_setting 14 = .ok (.getfield 23, 3) := by decide +kernel
theorem dX12_setting_17 : decode cX12_setting 17 = .ok (.iconst 0, 1) := by decide +kernel
theorem dX12_setting_18 : decode cX12_setting 18 = .ok (.iaload, 1) := by decide +kernel
theorem dX12_setting_19 : decode cX12_setting 19 = .ok (.istore_n 2, 1) := by decide +kernel
theorem dX12_setting_20 : decode cX12_setting 20 = .ok (.aload_n 0, 1) := by decide +kernel
theorem dX12_setting_21 : decode cX12_setting 21 = .ok (.getfield 23, 3) := by decide +kernel
theorem dX12_setting_24 : decode cX12_setting 24 = .ok (.iconst 1, 1) := by decide +kernel
theorem dX12_setting_25 : decode cX12_setting 25 = .ok (.iaload, 1) := by decide +kernel
theorem dX12_setting_26 : decode cX12_setting 26 = .ok (.istore_n 3, 1) := by decide +kernel
theorem dX12_setting_27 : decode cX12_setting 27 = .ok (.aload_n 0, 1) := by decide +kernel
theorem dX12_setting_28 : decode cX12_setting 28 = .ok (.getfield 23, 3) := by decide +kernel
theorem dX12_setting_31 : decode cX12_setting 31 = .ok (.iconst 2, 1) := by decide +kernel
theorem dX12_setting_32 : decode cX12_setting 32 = .ok (.iaload, 1) := by decide +kernel
theorem dX12_setting_33 : decode cX12_setting 33 = .ok (.istore 4, 2) := by decide +kernel
theorem dX12_setting_35 : decode cX12_setting 35 = .ok (.iconst (-1), 1) := by decide +kernel
theorem dX12_setting_36 : decode cX12_setting 36 = .ok (.istore 5, 2) := by decide +kernel
theorem dX12_setting_38 : decode cX12_setting 38 = .ok (.iconst 0, 1) := by decide +kernel
theorem dX12_setting_39 : decode cX12_setting 39 = .ok (.istore 6, 2) := by decide +kernel
theorem dX12_setting_41 : decode cX12_setting 41 = .ok (.iconst 0, 1) := by decide +kernel
theorem dX12_setting_42 : decode cX12_setting 42 = .ok (.istore 7, 2) := by decide +kernel
theorem dX12_setting_44 : decode cX12_setting 44 = .ok (.iload 7, 2) := by decide +kernel
theorem dX12_setting_46 : decode cX12_setting 46 = .ok (.sipush 480, 3) := by decide +kernel
theorem dX12_setting_49 : decode cX12_setting 49 = .ok (.if_icmp .ge 98, 3) := by decide +kernel
theorem dX12_setting_52 : decode cX12_setting 52 = .ok (.aload_n 0, 1) := by decide +kernel
theorem dX12_setting_53 : decode cX12_setting 53 = .ok (.getfield 23, 3) := by decide +kernel
theorem dX12_setting_56 : decode cX12_setting 56 = .ok (.iconst 0, 1) := by decide +kernel
theorem dX12_setting_57 : decode cX12_setting 57 = .ok (.iconst 1, 1) := by decide +kernel
theorem dX12_setting_58 : decode cX12_setting 58 = .ok (.iload 7, 2) := by decide +kernel
theorem dX12_setting_60 : decode cX12_setting 60 = .ok (.bipush 12, 2) := by decide +kernel
theorem dX12_setting_62 : decode cX12_setting 62 = .ok (.idiv, 1) := by decide +kernel
theorem dX12_setting_63 : decode cX12_setting 63 = .ok (.iadd, 1) := by decide +kernel
theorem dX12_setting_64 : decode cX12_setting 64 = .ok (.iastore, 1) := by decide +kernel
theorem dX12_setting_65 : decode cX12_setting 65 = .ok (.aload_n 0, 1) := by decide +kernel
theorem dX12_setting_66 : decode cX12_setting 66 = .ok (.getfield 23, 3) := by decide +kernel
theorem dX12_setting_69 : decode cX12_setting 69 = .ok (.iconst 1, 1) := by decide +kernel
theorem dX12_setting_70 : decode cX12_setting 70 = .ok (.iconst 1, 1) := by decide +kernel
theorem dX12_setting_71 : decode cX12_setting 71 = .ok (.iload 7, 2) := by decide +kernel
theorem dX12_setting_73 : decode cX12_setting 73 = .ok (.iconst 2, 1) := by decide +kernel
theorem dX12_setting_74 : decode cX12_setting 74 = .ok (.idiv, 1) := by decide +kernel
theorem dX12_setting_75 : decode cX12_setting 75 = .ok (.bipush 6, 2) := by decide +kernel
theorem dX12_setting_77 : decode cX12_setting 77 = .ok (.irem, 1) := by decide +kernel
theorem dX12_setting_78 : decode cX12_setting 78 = .ok (.iadd, 1) := by decide +kernel
theorem dX12_setting_79 : decode cX12_setting 79 = .ok (.iastore, 1) := by decide +kernel
theorem dX12_setting_80 : decode cX12_setting 80 = .ok (.aload_n 0, 1) := by decide +kernel
theorem dX12_setting_81 : decode cX12_setting 81 = .ok (.getfield 23, 3) := by decide +kernel
theorem dX12_setting_84 : decode cX12_setting 84 = .ok (.iconst 2, 1) := by decide +kernel
theorem dX12_setting_85 : decode cX12_setting 85 = .ok (.iload 7, 2) := by decide +kernel
theorem dX12_setting_87 : decode cX12_setting 87 = .ok (.iconst 2, 1) := by decide +kernel
theorem dX12_setting_88 : decode cX12_setting 88 = .ok (.irem, 1) := by decide +kernel
theorem dX12_setting_89 : decode cX12_setting 89 = .ok (.iastore, 1) := by decide +kernel
theorem dX12_setting_90 : decode cX12_setting 90 = .ok (.aload_n 0, 1) := by decide +kernel
theorem dX12_setting_91 : decode cX12_setting 91 = .ok (.invokevirtual 336, 3) := by decide +kernel
theorem dX12_setting_94 : decode cX12_setting 94 = .ok (.istore 8, 2) := by decide +kernel
theorem dX12_setting_96 : decode cX12_setting 96 = .ok (.iload 5, 2) := by decide +kernel
theorem dX12_setting_98 : decode cX12_setting 98 = .ok (.iconst (-1), 1) := by decide +kernel
theorem dX12_setting_99 : decode cX12_setting 99 = .ok (.if_icmp .eq 10, 3) := by decide +kernel
theorem dX12_setting_102 : decode cX12_setting 102 = .ok (.iload 8, 2) := by decide +kernel
theorem dX12_setting_104 : decode cX12_setting 104 = .ok (.iload 6, 2) := by decide +kernel
theorem dX12_setting_106 : decode cX12_setting 106 = .ok (.if_icmp .le 35, 3) := by decide +kernel
theorem dX12_setting_109 : decode cX12_setting 109 = .ok (.bipush 100, 2) := by decide +kernel
theorem dX12_setting_111 : decode cX12_setting 111 = .ok (.aload_n 0, 1) := by decide +kernel
theorem dX12_setting_112 : decode cX12_setting 112 = .ok (.getfield 23, 3) := by decide +kernel
theorem dX12_setting_115 : decode cX12_setting 115 = .ok (.iconst 0, 1) := by decide +kernel
theorem dX12_setting_116 : decode cX12_setting 116 = .ok (.iaload, 1) := by decide +kernel
theorem dX12_setting_117 : decode cX12_setting 117 = .ok (.imul, 1) := by decide +kernel
theorem dX12_setting_118 : decode cX12_setting 118 = .ok (.bipush 10, 2) := by decide +kernel
theorem dX12_setting_120 : decode cX12_setting 120 = .ok (.aload_n 0, 1) := by decide +kernel
theorem dX12_setting_121 : decode cX12_setting 121 = .ok (.getfield 23, 3) := by decide +kernel
theorem dX12_setting_124 : decode cX12_setting 124 = .ok (.iconst 1, 1) := by decide +kernel
theorem dX12_setting_125 : decode cX12_setting 125 = .ok (.iaload, 1) := by decide +kernel
theorem dX12_setting_126 : decode cX12_setting 126 = .ok (.imul, 1) := by decide +kernel
theorem dX12_setting_127 : decode cX12_setting 127 = .ok (.iadd, 1) := by decide +kernel
theorem dX12_setting_128 : decode cX12_setting 128 = .ok (.aload_n 0, 1) := by decide +kernel
theorem dX12_setting_129 : decode cX12_setting 129 = .ok (.getfield 23, 3) := by decide +kernel
theorem dX12_setting_132 : decode cX12_setting 132 = .ok (.iconst 2, 1) := by decide +kernel
theorem dX12_setting_133 : decode cX12_setting 133 = .ok (.iaload, 1) := by decide +kernel
theorem dX12_setting_134 : decode cX12_setting 134 = .ok (.iadd, 1) := by decide +kernel
theorem dX12_setting_135 : decode cX12_setting 135 = .ok (.istore 5, 2) := by decide +kernel
theorem dX12_setting_137 : decode cX12_setting 137 = .ok (.iload 8, 2) := by decide +kernel
theorem dX12_setting_139 : decode cX12_setting 139 = .ok (.istore 6, 2) := by decide +kernel
theorem dX12_setting_141 : decode cX12_setting 141 = .ok (.iinc 7 1, 3) := by decide +kernel
theorem dX12_setting_144 : decode cX12_setting 144 = .ok (.goto (-100), 3) := by decide +kernel
theorem dX12_setting_147 : decode cX12_setting 147 = .ok (.aload_n 0, 1) := by decide +kernel
theorem dX12_setting_148 : decode cX12_setting 148 = .ok (.getfield 23, 3) := by decide +kernel
theorem dX12_setting_151 : decode cX12_setting 151 = .ok (.iconst 0, 1) := by decide +kernel
theorem dX12_setting_152 : decode cX12_setting 152 = .ok (.iload_n 2, 1) := by decide +kernel
theorem dX12_setting_153 : decode cX12_setting 153 = .ok (.iastore, 1) := by decide +kernel
theorem dX12_setting_154 : decode cX12_setting 154 = .ok (.aload_n 0, 1) := by decide +kernel
theorem dX12_setting_155 : decode cX12_setting 155 = .ok (.getfield 23, 3) := by decide +kernel
theorem dX12_setting_158 : decode cX12_setting 158 = .ok (.iconst 1, 1) := by decide +kernel
theorem dX12_setting_159 : decode cX12_setting 159 = .ok (.iload_n 3, 1) := by decide +kernel
theorem dX12_setting_160 : decode cX12_setting 160 = .ok (.iastore, 1) := by decide +kernel
theorem dX12_setting_161 : decode cX12_setting 161 = .ok (.aload_n 0, 1) := by decide +kernel
theorem dX12_setting_162 : decode cX12_setting 162 = .ok (.getfield 23, 3) := by decide +kernel
theorem dX12_setting_165 : decode cX12_setting 165 = .ok (.iconst 2, 1) := by decide +kernel
theorem dX12_setting_166 : decode cX12_setting 166 = .ok (.iload 4, 2) := by decide +kernel
theorem dX12_setting_168 : decode cX12_setting 168 = .ok (.iastore, 1) := by decide +kernel
theorem dX12_setting_169 : decode cX12_setting 169 = .ok (.iload_n 1, 1) := by decide +kernel
theorem dX12_setting_170 : decode cX12_setting 170 = .ok (.ifCond .ne 8, 3) := by decide +kernel
theorem dX12_setting_173 : decode cX12_setting 173 = .ok (.iload 5, 2) := by decide +kernel
theorem dX12_setting_175 : decode cX12_setting 175 = .ok (.goto 5, 3) := by decide +kernel
theorem dX12_setting_178 : decode cX12_setting 178 = .ok (.iload 6, 2) := by decide +kernel
theorem dX12_setting_180 : decode cX12_setting 180 = .ok (.ireturn, 1) := by decide +kernel
theorem dX12_sendAway_0 : decode cX12_sendAway 0 = .ok (.iload_n 1, 1) := by decide +kernel
theorem dX12_sendAway_1 : decode cX12_sendAway 1 = .ok (.i2l, 1) := by decide +kernel
theorem dX12_sendAway_2 : decode cX12_sendAway 2 = .ok (.lconst 0, 1) := by decide +kernel
theorem dX12_sendAway_3 : decode cX12_sendAway 3 = .ok (.lconst 1, 1) := by decide +kernel
theorem dX12_sendAway_4 : decode cX12_sendAway 4 = .ok (.invokestatic 64, 3) := by decide +kernel
theorem dX12_sendAway_7 : decode cX12_sendAway 7 = .ok (.ifCond .ne 6, 3) := by decide +kernel
theorem dX12_sendAway_10 : decode cX12_sendAway 10 = .ok (.ldc 98, 2) := by decide +kernel
theorem dX12_sendAway_12 : decode cX12_sendAway 12 = .ok (.ireturn, 1) := by decide +kernel
theorem dX12_sendAway_13 : decode cX12_sendAway 13 = .ok (.aload_n 0, 1) := by decide +kernel
theorem dX12_sendAway_14 : decode cX12_sendAway 14 = .ok (.invokevirtual 336, 3) := by decide +kernel
theorem dX12_sendAway_17 : decode cX12_sendAway 17 = .ok (.istore_n 2, 1) := by decide +kernel
theorem dX12_sendAway_18 : decode cX12_sendAway 18 = .ok (.iconst (-1), 1) := by decide +kernel
theorem dX12_sendAway_19 : decode cX12_sendAway 19 = .ok (.istore_n 3, 1) := by decide +kernel
theorem dX12_sendAway_20 : decode cX12_sendAway 20 = .ok (.iload_n 2, 1) := by decide +kernel
theorem dX12_sendAway_21 : decode cX12_sendAway 21 = .ok (.istore 4, 2) := by decide +kernel
theorem dX12_sendAway_23 : decode cX12_sendAway 23 = .ok (.iconst 0, 1) := by decide +kernel
theorem dX12_sendAway_24 : decode cX12_sendAway 24 = .ok (.istore 5, 2) := by decide +kernel
theorem dX12_sendAway_26 : decode cX12_sendAway 26 = .ok (.iload 5, 2) := by decide +kernel
theorem dX12_sendAway_28 : decode cX12_sendAway 28 = .ok (.aload_n 0, 1) := by decide +kernel
theorem dX12_sendAway_29 : decode cX12_sendAway 29 = .ok (.getfield 61, 3) := by decide +kernel
theorem dX12_sendAway_32 : decode cX12_sendAway 32 = .ok (.if_icmp .ge 33, 3) := by decide +kernel
theorem dX12_sendAway_35 : decode cX12_sendAway 35 = .ok (.iload_n 2, 1) := by decide +kernel
theorem dX12_sendAway_36 : decode cX12_sendAway 36 = .ok (.aload_n 0, 1) := by decide +kernel
theorem dX12_sendAway_37 : decode cX12_sendAway 37 = .ok (.iload 5, 2) := by decide +kernel
theorem dX12_sendAway_39 : decode cX12_sendAway 39 = .ok (.invokevirtual 114, 3) := by decide +kernel
theorem dX12_sendAway_42 : decode cX12_sendAway 42 = .ok (.isub, 1) := by decide +kernel
theorem dX12_sendAway_43 : decode cX12_sendAway 43 = .ok (.istore 6, 2) := by decide +kernel
theorem dX12_sendAway_45 : decode cX12_sendAway 45 = .ok (.iload 6, 2) := by decide +kernel
theorem dX12_sendAway_47 : decode cX12_sendAway 47 = .ok (.iload 4, 2) := by decide +kernel
theorem dX12_sendAway_49 : decode cX12_sendAway 49 = .ok (.if_icmp .le 10, 3) := by decide +kernel
theorem dX12_sendAway_52 : decode cX12_sendAway 52 = .ok (.iload 5, 2) := by decide +kernel
theorem dX12_sendAway_54 : decode cX12_sendAway 54 = .ok (.istore_n 3, 1) := by decide +kernel
theorem dX12_sendAway_55 : decode cX12_sendAway 55 = .ok (.iload 6, 2) := by decide +kernel
theorem dX12_sendAway_57 : decode cX12_sendAway 57 = .ok (.istore 4, 2) := by decide +kernel
theorem dX12_sendAway_59 : decode cX12_sendAway 59 = .ok (.iinc 5 1, 3) := by decide +kernel
theorem dX12_sendAway_62 : decode cX12_sendAway 62 = .ok (.goto (-36), 3) := by decide +kernel
theorem dX12_sendAway_65 : decode cX12_sendAway 65 = .ok (.iload_n 1, 1) := by decide +kernel
theorem dX12_sendAway_66 : decode cX12_sendAway 66 = .ok (.ifCond .ne 7, 3) := by decide +kernel
theorem dX12_sendAway_69 : decode cX12_sendAway 69 = .ok (.iload_n 3, 1) := by decide +kernel
theorem dX12_sendAway_70 : decode cX12_sendAway 70 = .ok (.goto 5, 3) := by decide +kernel
theorem dX12_sendAway_73 : decode cX12_sendAway 73 = .ok (.iload 4, 2) := by decide +kernel
theorem dX12_sendAway_75 : decode cX12_sendAway 75 = .ok (.ireturn, 1) := by decide +kernel
theorem dX12_lost_0 : decode cX12_lost 0 = .ok (.aload_n 0, 1) := by decide +kernel
theorem dX12_lost_1 : decode cX12_lost 1 = .ok (.iload_n 1, 1) := by decide +kernel
theorem dX12_lost_2 : decode cX12_lost 2 = .ok (.invokevirtual 70, 3) := by decide +kernel
theorem dX12_lost_5 : decode cX12_lost 5 = .ok (.ifCond .ne 6, 3) := by decide +kernel
theorem dX12_lost_8 : decode cX12_lost 8 = .ok (.bipush (-2), 2) := by decide +kernel
theorem dX12_lost_10 : decode cX12_lost 10 = .ok (.ireturn, 1) := by decide +kernel
theorem dX12_lost_11 : decode cX12_lost 11 = .ok (.aload_n 0, 1) := by decide +kernel
theorem dX12_lost_12 : decode cX12_lost 12 = .ok (.getfield 23, 3) := by decide +kernel
theorem dX12_lost_15 : decode cX12_lost 15 = .ok (.iconst 0, 1) := by decide +kernel
theorem dX12_lost_16 : decode cX12_lost 16 = .ok (.iaload, 1) := by decide +kernel
theorem dX12_lost_17 : decode cX12_lost 17 = .ok (.istore_n 2, 1) := by decide +kernel
theorem dX12_lost_18 : decode cX12_lost 18 = .ok (.iconst (-1), 1) := by decide +kernel
theorem dX12_lost_19 : decode cX12_lost 19 = .ok (.istore_n 3, 1) := by decide +kernel
theorem dX12_lost_20 : decode cX12_lost 20 = .ok (.bipush 40, 2) := by decide +kernel
theorem dX12_lost_22 : decode cX12_lost 22 = .ok (.istore 4, 2) := by decide +kernel
theorem dX12_lost_24 : decode cX12_lost 24 = .ok (.iload 4, 2) := by decide +kernel
theorem dX12_lost_26 : decode cX12_lost 26 = .ok (.ifCond .le 31, 3) := by decide +kernel
theorem dX12_lost_29 : decode cX12_lost 29 = .ok (.aload_n 0, 1) := by decide +kernel
theorem dX12_lost_30 : decode cX12_lost 30 = .ok (.getfield 23, 3) := by decide +kernel
theorem dX12_lost_33 : decode cX12_lost 33 = .ok (.iconst 0, 1) := by decide +kernel
theorem dX12_lost_34 : decode cX12_lost 34 = .ok (.iload 4, 2) := by decide +kernel
theorem dX12_lost_36 : decode cX12_lost 36 = .ok (.iastore, 1) := by decide +kernel
theorem dX12_lost_37 : decode cX12_lost 37 = .ok (.aload_n 0, 1) := by decide +kernel
theorem dX12_lost_38 : decode cX12_lost 38 = .ok (.iload_n 1, 1) := by decide +kernel
theorem dX12_lost_39 : decode cX12_lost 39 = .ok (.invokevirtual 114, 3) := by decide +kernel
theorem dX12_lost_42 : decode cX12_lost 42 = .ok (.ifCond .lt 6, 3) := by decide +kernel
theorem dX12_lost_45 : decode cX12_lost 45 = .ok (.goto 12, 3) := by decide +kernel
theorem dX12_lost_48 : decode cX12_lost 48 = .ok (.iload 4, 2) := by decide +kernel
theorem dX12_lost_50 : decode cX12_lost 50 = .ok (.istore_n 3, 1) := by decide +kernel
theorem dX12_lost_51 : decode cX12_lost 51 = .ok (.iinc 4 (-1), 3) := by decide +kernel
theorem dX12_lost_54 : decode cX12_lost 54 = .ok (.goto (-30), 3) := by decide +kernel
theorem dX12_lost_57 : decode cX12_lost 57 = .ok (.aload_n 0, 1) := by decide +kernel
theorem dX12_lost_58 : decode cX12_lost 58 = .ok (.getfield 23, 3) := by decide +kernel
theorem dX12_lost_61 : decode cX12_lost 61 = .ok (.iconst 0, 1) := by decide +kernel
theorem dX12_lost_62 : decode cX12_lost 62 = .ok (.iload_n 2, 1) := by decide +kernel
theorem dX12_lost_63 : decode cX12_lost 63 = .ok (.iastore, 1) := by decide +kernel
theorem dX12_lost_64 : decode cX12_lost 64 = .ok (.iload_n 3, 1) := by decide +kernel
theorem dX12_lost_65 : decode cX12_lost 65 = .ok (.ireturn, 1) := by decide +kernel
theorem dX12_firstOther_0 : decode cX12_firstOther 0 = .ok (.aload_n 0, 1) := by decide +kernel
theorem dX12_firstOther_1 : decode cX12_firstOther 1 = .ok (.getfield 23, 3) := by decide +kernel
theorem dX12_firstOther_4 : decode cX12_firstOther 4 = .ok (.iconst 0, 1) := by decide +kernel
theorem dX12_firstOther_5 : decode cX12_firstOther 5 = .ok (.iaload, 1) := by decide +kernel
theorem dX12_firstOther_6 : decode cX12_firstOther 6 = .ok (.istore_n 3, 1) := by decide +kernel
theorem dX12_firstOther_7 : decode cX12_firstOther 7 = .ok (.iconst (-1), 1) := by decide +kernel
theorem dX12_firstOther_8 : decode cX12_firstOther 8 = .ok (.istore 4, 2) := by decide +kernel
theorem dX12_firstOther_10 : decode cX12_firstOther 10 = .ok (.iconst 0, 1) := by decide +kernel
theorem dX12_firstOther_11 : decode cX12_firstOther 11 = .ok (.istore 5, 2) := by decide +kernel
theorem dX12_firstOther_13 : decode cX12_firstOther 13 = .ok (.iload 5, 2) := by decide +kernel
theorem dX12_firstOther_15 : decode cX12_firstOther 15 = .ok (.aload_n 0, 1) := by decide +kernel
theorem dX12_firstOther_16 : decode cX12_firstOther 16 = .ok (.getfield 48, 3) := by decide +kernel
theorem dX12_firstOther_19 : decode cX12_firstOther 19 = .ok (.iload_n 1, 1) := by decide +kernel
theorem dX12_firstOther_20 : decode cX12_firstOther 20 = .ok (.iaload, 1) := by decide +kernel
theorem dX12_firstOther_21 : decode cX12_firstOther 21 = .ok (.if_icmp .ge 53, 3) := by decide +kernel
theorem dX12_firstOther_24 : decode cX12_firstOther 24 = .ok (.iload 4, 2) := by decide +kernel
theorem dX12_firstOther_26 : decode cX12_firstOther 26 = .ok (.iconst (-1), 1) := by decide +kernel
theorem dX12_firstOther_27 : decode cX12_firstOther 27 = .ok (.if_icmp .ne 47, 3) := by decide +kernel
theorem dX12_firstOther_30 : decode cX12_firstOther 30 = .ok (.aload_n 0, 1) := by decide +kernel
theorem dX12_firstOther_31 : decode cX12_firstOther 31 = .ok (.getfield 23, 3) := by decide +kernel
theorem dX12_firstOther_34 : decode cX12_firstOther 34 = .ok (.iconst 0, 1) := by decide +kernel
theorem dX12_firstOther_35 : decode cX12_firstOther 35 = .ok (.iload 5, 2) := by decide +kernel
theorem dX12_firstOther_37 : decode cX12_firstOther 37 = .ok (.iconst 1, 1) := by decide +kernel
theorem dX12_firstOther_38 : decode cX12_firstOther 38 = .ok (.iadd, 1) := by decide +kernel
theorem dX12_firstOther_39 : decode cX12_firstOther 39 = .ok (.iastore, 1) := by decide +kernel
theorem dX12_firstOther_40 : decode cX12_firstOther 40 = .ok (.aload_n 0, 1) := by decide +kernel
theorem dX12_firstOther_41 : decode cX12_firstOther 41 = .ok (.iload_n 2, 1) := by decide +kernel
theorem dX12_firstOther_42 : decode cX12_firstOther 42 = .ok (.invokevirtual 99, 3) := by decide +kernel
theorem dX12_firstOther_45 : decode cX12_firstOther 45 = .ok (.aload_n 0, 1) := by decide +kernel
theorem dX12_firstOther_46 : decode cX12_firstOther 46 = .ok (.getfield 51, 3) := by decide +kernel
theorem dX12_firstOther_49 : decode cX12_firstOther 49 = .ok (.bipush 40, 2) := by decide +kernel
theorem dX12_firstOther_51 : decode cX12_firstOther 51 = .ok (.iload_n 1, 1) := by decide +kernel
theorem dX12_firstOther_52 : decode cX12_firstOther 52 = .ok (.imul, 1) := by decide +kernel
theorem dX12_firstOther_53 : decode cX12_firstOther 53 = .ok (.iload 5, 2) := by decide +kernel
theorem dX12_firstOther_55 : decode cX12_firstOther 55 = .ok (.iadd, 1) := by decide +kernel
theorem dX12_firstOther_56 : decode cX12_firstOther 56 = .ok (.iaload, 1) := by decide +kernel
theorem dX12_firstOther_57 : decode cX12_firstOther 57 = .ok (.if_icmp .ne 7, 3) := by decide +kernel
theorem dX12_firstOther_60 : decode cX12_firstOther 60 = .ok (.iconst (-1), 1) := by decide +kernel
theorem dX12_firstOther_61 : decode cX12_firstOther 61 = .ok (.goto 5, 3) := by decide +kernel
theorem dX12_firstOther_64 : decode cX12_firstOther 64 = .ok (.iload 5, 2) := by decide +kernel
theorem dX12_firstOther_66 : decode cX12_firstOther 66 = .ok (.istore 4, 2) := by decide +kernel
theorem dX12_firstOther_68 : decode cX12_firstOther 68 = .ok (.iinc 5 1, 3) := by decide +kernel
theorem dX12_firstOther_71 : decode cX12_firstOther 71 = .ok (.goto (-58), 3) := by decide +kernel
theorem dX12_firstOther_74 : decode cX12_firstOther 74 = .ok (.aload_n 0, 1) := by decide +kernel
theorem dX12_firstOther_75 : decode cX12_firstOther 75 = .ok (.getfield 23, 3) := by decide +kernel
theorem dX12_firstOther_78 : decode cX12_firstOther 78 = .ok (.iconst 0, 1) := by decide +kernel
theorem dX12_firstOther_79 : decode cX12_firstOther 79 = .ok (.iload_n 3, 1) := by decide +kernel
theorem dX12_firstOther_80 : decode cX12_firstOther 80 = .ok (.iastore, 1) := by decide +kernel
theorem dX12_firstOther_81 : decode cX12_firstOther 81 = .ok (.iload 4, 2) := by decide +kernel
theorem dX12_firstOther_83 : decode cX12_firstOther 83 = .ok (.ireturn, 1) := by decide +kernel
theorem dX12_tells_0 : decode cX12_tells 0 = .ok (.iload_n 1, 1) := by decide +kernel
theorem dX12_tells_1 : decode cX12_tells 1 = .ok (.invokestatic 354, 3) := by decide +kernel
theorem dX12_tells_4 : decode cX12_tells 4 = .ok (.ifCond .eq 23, 3) := by decide +kernel
theorem dX12_tells_7 : decode cX12_tells 7 = .ok (.aload_n 0, 1) := by decide +kernel
theorem dX12_tells_8 : decode cX12_tells 8 = .ok (.iload_n 2, 1) := by decide +kernel
theorem dX12_tells_9 : decode cX12_tells 9 = .ok (.invokevirtual 70, 3) := by decide +kernel
theorem dX12_tells_12 : decode cX12_tells 12 = .ok (.ifCond .eq 15, 3) := by decide +kernel
theorem dX12_tells_15 : decode cX12_tells 15 = .ok (.iload_n 3, 1) := by decide +kernel
theorem dX12_tells_16 : decode cX12_tells 16 = .ok (.i2l, 1) := by decide +kernel
theorem dX12_tells_17 : decode cX12_tells 17 = .ok (.lconst 0, 1) := by decide +kernel
theorem dX12_tells_18 : decode cX12_tells 18 = .ok (.ldc2_w 68, 3) := by decide +kernel
theorem dX12_tells_21 : decode cX12_tells 21 = .ok (.invokestatic 64, 3) := by decide +kernel
theorem dX12_tells_24 : decode cX12_tells 24 = .ok (.ifCond .ne 6, 3) := by decide +kernel
theorem dX12_tells_27 : decode cX12_tells 27 = .ok (.bipush (-2), 2) := by decide +kernel
theorem dX12_tells_29 : decode cX12_tells 29 = .ok (.ireturn, 1) := by decide +kernel
theorem dX12_tells_30 : decode cX12_tells 30 = .ok (.aload_n 0, 1) := by decide +kernel
theorem dX12_tells_31 : decode cX12_tells 31 = .ok (.getfield 41, 3) := by decide +kernel
theorem dX12_tells_34 : decode cX12_tells 34 = .ok (.iload_n 1, 1) := by decide +kernel
theorem dX12_tells_35 : decode cX12_tells 35 = .ok (.baload, 1) := by decide +kernel
theorem dX12_tells_36 : decode cX12_tells 36 = .ok (.ifCond .ne 6, 3) := by decide +kernel
theorem dX12_tells_39 : decode cX12_tells 39 = .ok (.bipush (-11), 2) := by decide +kernel
theorem dX12_tells_41 : decode cX12_tells 41 = .ok (.ireturn, 1) := by decide +kernel
theorem dX12_tells_42 : decode cX12_tells 42 = .ok (.iload_n 3, 1) := by decide +kernel
theorem dX12_tells_43 : decode cX12_tells 43 = .ok (.ifCond .ne 10, 3) := by decide +kernel
theorem dX12_tells_46 : decode cX12_tells 46 = .ok (.aload_n 0, 1) := by decide +kernel
theorem dX12_tells_47 : decode cX12_tells 47 = .ok (.iload_n 1, 1) := by decide +kernel
theorem dX12_tells_48 : decode cX12_tells 48 = .ok (.iload_n 2, 1) := by decide +kernel
theorem dX12_tells_49 : decode cX12_tells 49 = .ok (.invokevirtual 357, 3) := by decide +kernel
theorem dX12_tells_52 : decode cX12_tells 52 = .ok (.ireturn, 1) := by decide +kernel
theorem dX12_tells_53 : decode cX12_tells 53 = .ok (.iload_n 3, 1) := by decide +kernel
theorem dX12_tells_54 : decode cX12_tells 54 = .ok (.iconst 1, 1) := by decide +kernel
theorem dX12_tells_55 : decode cX12_tells 55 = .ok (.if_icmp .ne 8, 3) := by decide +kernel
theorem dX12_tells_58 : decode cX12_tells 58 = .ok (.bipush 8, 2) := by decide +kernel
theorem dX12_tells_60 : decode cX12_tells 60 = .ok (.goto 44, 3) := by decide +kernel
theorem dX12_tells_63 : decode cX12_tells 63 = .ok (.iload_n 3, 1) := by decide +kernel
theorem dX12_tells_64 : decode cX12_tells 64 = .ok (.iconst 2, 1) := by decide +kernel
theorem dX12_tells_65 : decode cX12_tells 65 = .ok (.if_icmp .ne 7, 3) := by decide +kernel
theorem dX12_tells_68 : decode cX12_tells 68 = .ok (.iconst 5, 1) := by decide +kernel
theorem dX12_tells_69 : decode cX12_tells 69 = .ok (.goto 35, 3) := by decide +kernel
theorem dX12_tells_72 : decode cX12_tells 72 = .ok (.iload_n 3, 1) := by decide +kernel
theorem dX12_tells_73 : decode cX12_tells 73 = .ok (.iconst 5, 1) := by decide +kernel
theorem dX12_tells_74 : decode cX12_tells 74 = .ok (.if_icmp .ge 8, 3) := by decide +kernel
theorem dX12_tells_77 : decode cX12_tells 77 = .ok (.bipush 7, 2) := by decide +kernel
theorem dX12_tells_79 : decode cX12_tells 79 = .ok (.goto 25, 3) := by decide +kernel
theorem dX12_tells_82 : decode cX12_tells 82 = .ok (.iload_n 3, 1) := by decide +kernel
theorem dX12_tells_83 : decode cX12_tells 83 = .ok (.iconst 5, 1) := by decide +kernel
theorem dX12_tells_84 : decode cX12_tells 84 = .ok (.if_icmp .ne 8, 3) := by decide +kernel
theorem dX12_tells_87 : decode cX12_tells 87 = .ok (.bipush 6, 2) := by decide +kernel
theorem dX12_tells_89 : decode cX12_tells 89 = .ok (.goto 15, 3) := by decide +kernel
theorem dX12_tells_92 : decode cX12_tells 92 = .ok (.iload_n 3, 1) := by decide +kernel
theorem dX12_tells_93 : decode cX12_tells 93 = .ok (.bipush 6, 2) := by decide +kernel
theorem dX12_tells_95 : decode cX12_tells 95 = .ok (.if_icmp .ne 7, 3) := by decide +kernel
theorem dX12_tells_98 : decode cX12_tells 98 = .ok (.iconst 1, 1) := by decide +kernel
theorem dX12_tells_99 : decode cX12_tells 99 = .ok (.goto 5, 3) := by decide +kernel
theorem dX12_tells_102 : decode cX12_tells 102 = .ok (.bipush 9, 2) := by decide +kernel
theorem dX12_tells_104 : decode cX12_tells 104 = .ok (.istore 4, 2) := by decide +kernel
theorem dX12_tells_106 : decode cX12_tells 106 = .ok (.iload 4, 2) := by decide +kernel
theorem dX12_tells_108 : decode cX12_tells 108 = .ok (.bipush 9, 2) := by decide +kernel
theorem dX12_tells_110 : decode cX12_tells 110 = .ok (.if_icmp .ne 10, 3) := by decide +kernel
theorem dX12_tells_113 : decode cX12_tells 113 = .ok (.aload_n 0, 1) := by decide +kernel
theorem dX12_tells_114 : decode cX12_tells 114 = .ok (.getfield 89, 3) := by decide +kernel
theorem dX12_tells_117 : decode cX12_tells 117 = .ok (.goto 10, 3) := by decide +kernel
theorem dX12_tells_120 : decode cX12_tells 120 = .ok (.aload_n 0, 1) := by decide +kernel
theorem dX12_tells_121 : decode cX12_tells 121 = .ok (.iload_n 2, 1) := by decide +kernel
theorem dX12_tells_122 : decode cX12_tells 122 = .ok (.iload 4, 2) := by decide +kernel
theorem dX12_tells_124 : decode cX12_tells 124 = .ok (.invokevirtual 81, 3) := by decide +kernel
theorem dX12_tells_127 : decode cX12_tells 127 = .ok (.istore 5, 2) := by decide +kernel
theorem dX12_tells_129 : decode cX12_tells 129 = .ok (.iload 4, 2) := by decide +kernel
theorem dX12_tells_131 : decode cX12_tells 131 = .ok (.bipush 9, 2) := by decide +kernel
theorem dX12_tells_133 : decode cX12_tells 133 = .ok (.if_icmp .ne 12, 3) := by decide +kernel
theorem dX12_tells_136 : decode cX12_tells 136 = .ok (.aload_n 0, 1) := by decide +kernel
theorem dX12_tells_137 : decode cX12_tells 137 = .ok (.getfield 58, 3) := by decide +kernel
theorem dX12_tells_140 : decode cX12_tells 140 = .ok (.iconst 1, 1) := by decide +kernel
theorem dX12_tells_141 : decode cX12_tells 141 = .ok (.isub, 1) := by decide +kernel
theorem dX12_tells_142 : decode cX12_tells 142 = .ok (.goto 19, 3) := by decide +kernel
theorem dX12_tells_145 : decode cX12_tells 145 = .ok (.iload 4, 2) := by decide +kernel
theorem dX12_tells_147 : decode cX12_tells 147 = .ok (.bipush 8, 2) := by decide +kernel
theorem dX12_tells_149 : decode cX12_tells 149 = .ok (.if_icmp .ne 7, 3) := by decide +kernel
theorem dX12_tells_152 : decode cX12_tells 152 = .ok (.iconst 5, 1) := by decide +kernel
theorem dX12_tells_153 : decode cX12_tells 153 = .ok (.goto 8, 3) := by decide +kernel
theorem dX12_tells_156 : decode cX12_tells 156 = .ok (.iload 4, 2) := by decide +kernel
theorem dX12_tells_158 : decode cX12_tells 158 = .ok (.invokestatic 78, 3) := by decide +kernel
theorem dX12_tells_161 : decode cX12_tells 161 = .ok (.istore 6, 2) := by decide +kernel
theorem dX12_tells_163 : decode cX12_tells 163 = .ok (.iconst 0, 1) := by decide +kernel
theorem dX12_tells_164 : decode cX12_tells 164 = .ok (.istore 7, 2) := by decide +kernel
theorem dX12_tells_166 : decode cX12_tells 166 = .ok (.iconst 0, 1) := by decide +kernel
theorem dX12_tells_167 : decode cX12_tells 167 = .ok (.istore 8, 2) := by decide +kernel
theorem dX12_tells_169 : decode cX12_tells 169 = .ok (.iconst (-1), 1) := by decide +kernel
theorem dX12_tells_170 : decode cX12_tells 170 = .ok (.istore 9, 2) := by decide +kernel
theorem dX12_tells_172 : decode cX12_tells 172 = .ok (.iload 6, 2) := by decide +kernel
theorem dX12_tells_174 : decode cX12_tells 174 = .ok (.istore 10, 2) := by decide +kernel
theorem dX12_tells_176 : decode cX12_tells 176 = .ok (.iload 10, 2) := by decide +kernel
theorem dX12_tells_178 : decode cX12_tells 178 = .ok (.iload 4, 2) := by decide +kernel
theorem dX12_tells_180 : decode cX12_tells 180 = .ok (.invokestatic 74, 3) := by decide +kernel
theorem dX12_tells_183 : decode cX12_tells 183 = .ok (.if_icmp .lt 55, 3) := by decide +kernel
theorem dX12_tells_186 : decode cX12_tells 186 = .ok (.aload_n 0, 1) := by decide +kernel
theorem dX12_tells_187 : decode cX12_tells 187 = .ok (.iload 4, 2) := by decide +kernel
theorem dX12_tells_189 : decode cX12_tells 189 = .ok (.iload_n 2, 1) := by decide +kernel
theorem dX12_tells_190 : decode cX12_tells 190 = .ok (.iload 10, 2) := by decide +kernel
theorem dX12_tells_192 : decode cX12_tells 192 = .ok (.invokevirtual 85, 3) := by decide +kernel
theorem dX12_tells_195 : decode cX12_tells 195 = .ok (.aload_n 0, 1) := by decide +kernel
theorem dX12_tells_196 : decode cX12_tells 196 = .ok (.iload_n 1, 1) := by decide +kernel
theorem dX12_tells_197 : decode cX12_tells 197 = .ok (.iload_n 2, 1) := by decide +kernel
theorem dX12_tells_198 : decode cX12_tells 198 = .ok (.invokevirtual 357, 3) := by decide +kernel
theorem dX12_tells_201 : decode cX12_tells 201 = .ok (.iconst (-1), 1) := by decide +kernel
theorem dX12_tells_202 : decode cX12_tells 202 = .ok (.if_icmp .ne 30, 3) := by decide +kernel
theorem dX12_tells_205 : decode cX12_tells 205 = .ok (.iload 7, 2) := by decide +kernel
theorem dX12_tells_207 : decode cX12_tells 207 = .ok (.iload 10, 2) := by decide +kernel
theorem dX12_tells_209 : decode cX12_tells 209 = .ok (.bipush 10, 2) := by decide +kernel
theorem dX12_tells_211 : decode cX12_tells 211 = .ok (.if_icmp .ge 10, 3) := by decide +kernel
theorem dX12_tells_214 : decode cX12_tells 214 = .ok (.iconst 1, 1) := by decide +kernel
theorem dX12_tells_215 : decode cX12_tells 215 = .ok (.iload 10, 2) := by decide +kernel
theorem dX12_tells_217 : decode cX12_tells 217 = .ok (.ishl, 1) := by decide +kernel
theorem dX12_tells_218 : decode cX12_tells 218 = .ok (.goto 4, 3) := by decide +kernel
theorem dX12_tells_221 : decode cX12_tells 221 = .ok (.iconst 0, 1) := by decide +kernel
theorem dX12_tells_222 : decode cX12_tells 222 = .ok (.ior, 1) := by decide +kernel
theorem dX12_tells_223 : decode cX12_tells 223 = .ok (.istore 7, 2) := by decide +kernel
theorem dX12_tells_225 : decode cX12_tells 225 = .ok (.iinc 8 1, 3) := by decide +kernel
theorem dX12_tells_228 : decode cX12_tells 228 = .ok (.iload 10, 2) := by decide +kernel
theorem dX12_tells_230 : decode cX12_tells 230 = .ok (.istore 9, 2) := by decide +kernel
theorem dX12_tells_232 : decode cX12_tells 232 = .ok (.iinc 10 (-1), 3) := by decide +kernel
theorem dX12_tells_235 : decode cX12_tells 235 = .ok (.goto (-59), 3) := by decide +kernel
theorem dX12_tells_238 : decode cX12_tells 238 = .ok (.aload_n 0, 1) := by decide +kernel
theorem dX12_tells_239 : decode cX12_tells 239 = .ok (.iload 4, 2) := by decide +kernel
theorem dX12_tells_241 : decode cX12_tells 241 = .ok (.iload_n 2, 1) := by decide +kernel
theorem dX12_tells_242 : decode cX12_tells 242 = .ok (.iload 5, 2) := by decide +kernel
theorem dX12_tells_244 : decode cX12_tells 244 = .ok (.invokevirtual 85, 3) := by decide +kernel
theorem dX12_tells_247 : decode cX12_tells 247 = .ok (.iload_n 3, 1) := by decide +kernel
theorem dX12_tells_248 : decode cX12_tells 248 = .ok (.iconst 3, 1) := by decide +kernel
theorem dX12_tells_249 : decode cX12_tells 249 = .ok (.if_icmp .ne 8, 3) := by decide +kernel
theorem dX12_tells_252 : decode cX12_tells 252 = .ok (.iload 8, 2) := by decide +kernel
theorem dX12_tells_254 : decode cX12_tells 254 = .ok (.goto 15, 3) := by decide +kernel
theorem dX12_tells_257 : decode cX12_tells 257 = .ok (.iload_n 3, 1) := by decide +kernel
theorem dX12_tells_258 : decode cX12_tells 258 = .ok (.iconst 4, 1) := by decide +kernel
theorem dX12_tells_259 : decode cX12_tells 259 = .ok (.if_icmp .ne 8, 3) := by decide +kernel
theorem dX12_tells_262 : decode cX12_tells 262 = .ok (.iload 9, 2) := by decide +kernel
theorem dX12_tells_264 : decode cX12_tells 264 = .ok (.goto 5, 3) := by decide +kernel
theorem dX12_tells_267 : decode cX12_tells 267 = .ok (.iload 7, 2) := by decide +kernel
theorem dX12_tells_269 : decode cX12_tells 269 = .ok (.ireturn, 1) := by decide +kernel
theorem dX12_film_0 : decode cX12_film 0 = .ok (.iload_n 1, 1) := by decide +kernel
theorem dX12_film_1 : decode cX12_film 1 = .ok (.invokestatic 354, 3) := by decide +kernel
theorem dX12_film_4 : decode cX12_film 4 = .ok (.ifCond .eq 23, 3) := by decide +kernel
theorem dX12_film_7 : decode cX12_film 7 = .ok (.aload_n 0, 1) := by decide +kernel
theorem dX12_film_8 : decode cX12_film 8 = .ok (.iload_n 2, 1) := by decide +kernel
theorem dX12_film_9 : decode cX12_film 9 = .ok (.invokevirtual 70, 3) := by decide +kernel
theorem dX12_film_12 : decode cX12_film 12 = .ok (.ifCond .eq 15, 3) := by decide +kernel
theorem dX12_film_15 : decode cX12_film 15 = .ok (.iload_n 3, 1) := by decide +kernel
theorem dX12_film_16 : decode cX12_film 16 = .ok (.i2l, 1) := by decide +kernel
theorem dX12_film_17 : decode cX12_film 17 = .ok (.lconst 0, 1) := by decide +kernel
theorem dX12_film_18 : decode cX12_film 18 = .ok (.ldc2_w 360, 3) := by decide +kernel
theorem dX12_film_21 : decode cX12_film 21 = .ok (.invokestatic 64, 3) := by decide +kernel
theorem dX12_film_24 : decode cX12_film 24 = .ok (.ifCond .ne 6, 3) := by decide +kernel
theorem dX12_film_27 : decode cX12_film 27 = .ok (.bipush (-2), 2) := by decide +kernel
theorem dX12_film_29 : decode cX12_film 29 = .ok (.ireturn, 1) := by decide +kernel
theorem dX12_film_30 : decode cX12_film 30 = .ok (.aload_n 0, 1) := by decide +kernel
theorem dX12_film_31 : decode cX12_film 31 = .ok (.getfield 23, 3) := by decide +kernel
theorem dX12_film_34 : decode cX12_film 34 = .ok (.iconst 0, 1) := by decide +kernel
theorem dX12_film_35 : decode cX12_film 35 = .ok (.iaload, 1) := by decide +kernel
theorem dX12_film_36 : decode cX12_film 36 = .ok (.istore 4, 2) := by decide +kernel
theorem dX12_film_38 : decode cX12_film 38 = .ok (.aload_n 0, 1) := by decide +kernel
theorem dX12_film_39 : decode cX12_film 39 = .ok (.iload_n 1, 1) := by decide +kernel
theorem dX12_film_40 : decode cX12_film 40 = .ok (.iconst 0, 1) := by decide +kernel
theorem dX12_film_41 : decode cX12_film 41 = .ok (.iload_n 3, 1) := by decide +kernel
theorem dX12_film_42 : decode cX12_film 42 = .ok (.invokevirtual 362, 3) := by decide +kernel
theorem dX12_film_45 : decode cX12_film 45 = .ok (.pop, 1) := by decide +kernel
theorem dX12_film_46 : decode cX12_film 46 = .ok (.iconst 0, 1) := by decide +kernel
theorem dX12_film_47 : decode cX12_film 47 = .ok (.istore 5, 2) := by decide +kernel
theorem dX12_film_49 : decode cX12_film 49 = .ok (.iload 5, 2) := by decide +kernel
theorem dX12_film_51 : decode cX12_film 51 = .ok (.iload_n 3, 1) := by decide +kernel
theorem dX12_film_52 : decode cX12_film 52 = .ok (.if_icmp .ge 36, 3) := by decide +kernel
theorem dX12_film_55 : decode cX12_film 55 = .ok (.aload_n 0, 1) := by decide +kernel
theorem dX12_film_56 : decode cX12_film 56 = .ok (.getfield 23, 3) := by decide +kernel
theorem dX12_film_59 : decode cX12_film 59 = .ok (.iconst 0, 1) := by decide +kernel
theorem dX12_film_60 : decode cX12_film 60 = .ok (.iload 5, 2) := by decide +kernel
theorem dX12_film_62 : decode cX12_film 62 = .ok (.iconst 1, 1) := by decide +kernel
theorem dX12_film_63 : decode cX12_film 63 = .ok (.iadd, 1) := by decide +kernel
theorem dX12_film_64 : decode cX12_film 64 = .ok (.iastore, 1) := by decide +kernel
theorem dX12_film_65 : decode cX12_film 65 = .ok (.aload_n 0, 1) := by decide +kernel
theorem dX12_film_66 : decode cX12_film 66 = .ok (.getfield 51, 3) := by decide +kernel
theorem dX12_film_69 : decode cX12_film 69 = .ok (.bipush 40, 2) := by decide +kernel
theorem dX12_film_71 : decode cX12_film 71 = .ok (.iload_n 1, 1) := by decide +kernel
theorem dX12_film_72 : decode cX12_film 72 = .ok (.imul, 1) := by decide +kernel
theorem dX12_film_73 : decode cX12_film 73 = .ok (.iload 5, 2) := by decide +kernel
theorem dX12_film_75 : decode cX12_film 75 = .ok (.iadd, 1) := by decide +kernel
theorem dX12_film_76 : decode cX12_film 76 = .ok (.aload_n 0, 1) := by decide +kernel
theorem dX12_film_77 : decode cX12_film 77 = .ok (.iload_n 2, 1) := by decide +kernel
theorem dX12_film_78 : decode cX12_film 78 = .ok (.invokevirtual 99, 3) := by decide +kernel
theorem dX12_film_81 : decode cX12_film 81 = .ok (.iastore, 1) := by decide +kernel
theorem dX12_film_82 : decode cX12_film 82 = .ok (.iinc 5 1, 3) := by decide +kernel
theorem dX12_film_85 : decode cX12_film 85 = .ok (.goto (-36), 3) := by decide +kernel
theorem dX12_film_88 : decode cX12_film 88 = .ok (.aload_n 0, 1) := by decide +kernel
theorem dX12_film_89 : decode cX12_film 89 = .ok (.getfield 23, 3) := by decide +kernel
theorem dX12_film_92 : decode cX12_film 92 = .ok (.iconst 0, 1) := by decide +kernel
theorem dX12_film_93 : decode cX12_film 93 = .ok (.iload 4, 2) := by decide +kernel
theorem dX12_film_95 : decode cX12_film 95 = .ok (.iastore, 1) := by decide +kernel
theorem dX12_film_96 : decode cX12_film 96 = .ok (.iload_n 3, 1) := by decide +kernel
theorem dX12_film_97 : decode cX12_film 97 = .ok (.ireturn, 1) := by decide +kernel
theorem dX12_soldBy_0 : decode cX12_soldBy 0 = .ok (.iload_n 1, 1) := by decide +kernel
theorem dX12_soldBy_1 : decode cX12_soldBy 1 = .ok (.istore_n 3, 1) := by decide +kernel
theorem dX12_soldBy_2 : decode cX12_soldBy 2 = .ok (.iconst 0, 1) := by decide +kernel
theorem dX12_soldBy_3 : decode cX12_soldBy 3 = .ok (.istore 4, 2) := by decide +kernel
theorem dX12_soldBy_5 : decode cX12_soldBy 5 = .ok (.iconst 0, 1) := by decide +kernel
theorem dX12_soldBy_6 : decode cX12_soldBy 6 = .ok (.istore 5, 2) := by decide +kernel
theorem dX12_soldBy_8 : decode cX12_soldBy 8 = .ok (.iload 5, 2) := by decide +kernel
theorem dX12_soldBy_10 : decode cX12_soldBy 10 = .ok (.aload_n 0, 1) := by decide +kernel
theorem dX12_soldBy_11 : decode cX12_soldBy 11 = .ok (.getfield 61, 3) := by decide +kernel
theorem dX12_soldBy_14 : decode cX12_soldBy 14 = .ok (.if_icmp .ge 101, 3) := by decide +kernel
theorem dX12_soldBy_17 : decode cX12_soldBy 17 = .ok (.aload_n 0, 1) := by decide +kernel
theorem dX12_soldBy_18 : decode cX12_soldBy 18 = .ok (.iload 5, 2) := by decide +kernel
theorem dX12_soldBy_20 : decode cX12_soldBy 20 = .ok (.invokevirtual 108, 3) := by decide +kernel
theorem dX12_soldBy_23 : decode cX12_soldBy 23 = .ok (.ifCond .eq 86, 3) := by decide +kernel
theorem dX12_soldBy_26 : decode cX12_soldBy 26 = .ok (.iload_n 3, 1) := by decide +kernel
theorem dX12_soldBy_27 : decode cX12_soldBy 27 = .ok (.ldc_w 365, 3) := by decide +kernel
theorem dX12_soldBy_30 : decode cX12_soldBy 30 = .ok (.imul, 1) := by decide +kernel
theorem dX12_soldBy_31 : decode cX12_soldBy 31 = .ok (.sipush 12345, 3) := by decide +kernel
theorem dX12_soldBy_34 : decode cX12_soldBy 34 = .ok (.iadd, 1) := by decide +kernel
theorem dX12_soldBy_35 : decode cX12_soldBy 35 = .ok (.istore_n 3, 1) := by decide +kernel
theorem dX12_soldBy_36 : decode cX12_soldBy 36 = .ok (.aload_n 0, 1) := by decide +kernel
theorem dX12_soldBy_37 : decode cX12_soldBy 37 = .ok (.iload 5, 2) := by decide +kernel
theorem dX12_soldBy_39 : decode cX12_soldBy 39 = .ok (.invokevirtual 102, 3) := by decide +kernel
theorem dX12_soldBy_42 : decode cX12_soldBy 42 = .ok (.istore 6, 2) := by decide +kernel
theorem dX12_soldBy_44 : decode cX12_soldBy 44 = .ok (.iload 6, 2) := by decide +kernel
theorem dX12_soldBy_46 : decode cX12_soldBy 46 = .ok (.ifCond .le 63, 3) := by decide +kernel
theorem dX12_soldBy_49 : decode cX12_soldBy 49 = .ok (.iload_n 3, 1) := by decide +kernel
theorem dX12_soldBy_50 : decode cX12_soldBy 50 = .ok (.bipush 9, 2) := by decide +kernel
theorem dX12_soldBy_52 : decode cX12_soldBy 52 = .ok (.iushr, 1) := by decide +kernel
theorem dX12_soldBy_53 : decode cX12_soldBy 53 = .ok (.iload 6, 2) := by decide +kernel
theorem dX12_soldBy_55 : decode cX12_soldBy 55 = .ok (.irem, 1) := by decide +kernel
theorem dX12_soldBy_56 : decode cX12_soldBy 56 = .ok (.ifCond .ne 53, 3) := by decide +kernel
theorem dX12_soldBy_59 : decode cX12_soldBy 59 = .ok (.iload 4, 2) := by decide +kernel
theorem dX12_soldBy_61 : decode cX12_soldBy 61 = .ok (.aload_n 0, 1) := by decide +kernel
theorem dX12_soldBy_62 : decode cX12_soldBy 62 = .ok (.iload 5, 2) := by decide +kernel
theorem dX12_soldBy_64 : decode cX12_soldBy 64 = .ok (.invokevirtual 105, 3) := by decide +kernel
theorem dX12_soldBy_67 : decode cX12_soldBy 67 = .ok (.iadd, 1) := by decide +kernel
theorem dX12_soldBy_68 : decode cX12_soldBy 68 = .ok (.istore 4, 2) := by decide +kernel
theorem dX12_soldBy_70 : decode cX12_soldBy 70 = .ok (.aload_n 0, 1) := by decide +kernel
theorem dX12_soldBy_71 : decode cX12_soldBy 71 = .ok (.getfield 29, 3) := by decide +kernel
theorem dX12_soldBy_74 : decode cX12_soldBy 74 = .ok (.iconst 4, 1) := by decide +kernel
theorem dX12_soldBy_75 : decode cX12_soldBy 75 = .ok (.iload 5, 2) := by decide +kernel
theorem dX12_soldBy_77 : decode cX12_soldBy 77 = .ok (.imul, 1) := by decide +kernel
theorem dX12_soldBy_78 : decode cX12_soldBy 78 = .ok (.iconst 3, 1) := by decide +kernel
theorem dX12_soldBy_79 : decode cX12_soldBy 79 = .ok (.iadd, 1) := by decide +kernel
theorem dX12_soldBy_80 : decode cX12_soldBy 80 = .ok (.aload_n 0, 1) := by decide +kernel
theorem dX12_soldBy_81 : decode cX12_soldBy 81 = .ok (.getfield 29, 3) := by decide +kernel
theorem dX12_soldBy_84 : decode cX12_soldBy 84 = .ok (.iconst 4, 1) := by decide +kernel
theorem dX12_soldBy_85 : decode cX12_soldBy 85 = .ok (.iload 5, 2) := by decide +kernel
theorem dX12_soldBy_87 : decode cX12_soldBy 87 = .ok (.imul, 1) := by decide +kernel
theorem dX12_soldBy_88 : decode cX12_soldBy 88 = .ok (.iconst 3, 1) := by decide +kernel
theorem dX12_soldBy_89 : decode cX12_soldBy 89 = .ok (.iadd, 1) := by decide +kernel
theorem dX12_soldBy_90 : decode cX12_soldBy 90 = .ok (.iaload, 1) := by decide +kernel
theorem dX12_soldBy_91 : decode cX12_soldBy 91 = .ok (.iload_n 2, 1) := by decide +kernel
theorem dX12_soldBy_92 : decode cX12_soldBy 92 = .ok (.ifCond .eq 7, 3) := by decide +kernel
theorem dX12_soldBy_95 : decode cX12_soldBy 95 = .ok (.iconst 1, 1) := by decide +kernel
theorem dX12_soldBy_96 : decode cX12_soldBy 96 = .ok (.goto 4, 3) := by decide +kernel
theorem dX12_soldBy_99 : decode cX12_soldBy 99 = .ok (.iconst 0, 1) := by decide +kernel
theorem dX12_soldBy_100 : decode cX12_soldBy 100 = .ok (.iadd, 1) := by decide +kernel
theorem dX12_soldBy_101 : decode cX12_soldBy 101 = .ok (.iconst 0, 1) := by decide +kernel
theorem dX12_soldBy_102 : decode cX12_soldBy 102 = .ok (.sipush 999, 3) := by decide +kernel
theorem dX12_soldBy_105 : decode cX12_soldBy 105 = .ok (.invokestatic 326, 3) := by decide +kernel
theorem dX12_soldBy_108 : decode cX12_soldBy 108 = .ok (.iastore, 1) := by decide +kernel
theorem dX12_soldBy_109 : decode cX12_soldBy 109 = .ok (.iinc 5 1, 3) := by decide +kernel
theorem dX12_soldBy_112 : decode cX12_soldBy 112 = .ok (.goto (-104), 3) := by decide +kernel
theorem dX12_soldBy_115 : decode cX12_soldBy 115 = .ok (.iload 4, 2) := by decide +kernel
theorem dX12_soldBy_117 : decode cX12_soldBy 117 = .ok (.ireturn, 1) := by decide +kernel
theorem dX12_sell_0 : decode cX12_sell 0 = .ok (.aload_n 0, 1) := by decide +kernel
theorem dX12_sell_1 : decode cX12_sell 1 = .ok (.iload_n 1, 1) := by decide +kernel
theorem dX12_sell_2 : decode cX12_sell 2 = .ok (.iconst 1, 1) := by decide +kernel
theorem dX12_sell_3 : decode cX12_sell 3 = .ok (.invokevirtual 366, 3) := by decide +kernel
theorem dX12_sell_6 : decode cX12_sell 6 = .ok (.ireturn, 1) := by decide +kernel
theorem dX12_chance_0 : decode cX12_chance 0 = .ok (.iload_n 2, 1) := by decide +kernel
theorem dX12_chance_1 : decode cX12_chance 1 = .ok (.i2l, 1) := by decide +kernel
theorem dX12_chance_2 : decode cX12_chance 2 = .ok (.lconst 1, 1) := by decide +kernel
theorem dX12_chance_3 : decode cX12_chance 3 = .ok (.ldc2_w 370, 3) := by decide +kernel
theorem dX12_chance_6 : decode cX12_chance 6 = .ok (.invokestatic 64, 3) := by decide +kernel
theorem dX12_chance_9 : decode cX12_chance 9 = .ok (.ifCond .eq 26, 3) := by decide +kernel
theorem dX12_chance_12 : decode cX12_chance 12 = .ok (.iload_n 3, 1) := by decide +kernel
theorem dX12_chance_13 : decode cX12_chance 13 = .ok (.i2l, 1) := by decide +kernel
theorem dX12_chance_14 : decode cX12_chance 14 = .ok (.lconst 0, 1) := by decide +kernel
theorem dX12_chance_15 : decode cX12_chance 15 = .ok (.ldc2_w 372, 3) := by decide +kernel
theorem dX12_chance_18 : decode cX12_chance 18 = .ok (.invokestatic 64, 3) := by decide +kernel
theorem dX12_chance_21 : decode cX12_chance 21 = .ok (.ifCond .eq 14, 3) := by decide +kernel
theorem dX12_chance_24 : decode cX12_chance 24 = .ok (.iload 4, 2) := by decide +kernel
theorem dX12_chance_26 : decode cX12_chance 26 = .ok (.i2l, 1) := by decide +kernel
theorem dX12_chance_27 : decode cX12_chance 27 = .ok (.lconst 0, 1) := by decide +kernel
theorem dX12_chance_28 : decode cX12_chance 28 = .ok (.lconst 1, 1) := by decide +kernel
theorem dX12_chance_29 : decode cX12_chance 29 = .ok (.invokestatic 64, 3) := by decide +kernel
theorem dX12_chance_32 : decode cX12_chance 32 = .ok (.ifCond .ne 7, 3) := by decide +kernel
theorem dX12_chance_35 : decode cX12_chance 35 = .ok (.ldc2_w 342, 3) := by decide +kernel
theorem dX12_chance_38 : decode cX12_chance 38 = .ok (.lreturn, 1) := by decide +kernel
theorem dX12_chance_39 : decode cX12_chance 39 = .ok (.lconst 0, 1) := by decide +kernel
theorem dX12_chance_40 : decode cX12_chance 40 = .ok (.lstore 5, 2) := by decide +kernel
theorem dX12_chance_42 : decode cX12_chance 42 = .ok (.iconst 0, 1) := by decide +kernel
theorem dX12_chance_43 : decode cX12_chance 43 = .ok (.istore 7, 2) := by decide +kernel
theorem dX12_chance_45 : decode cX12_chance 45 = .ok (.iload 7, 2) := by decide +kernel
theorem dX12_chance_47 : decode cX12_chance 47 = .ok (.iload_n 2, 1) := by decide +kernel
theorem dX12_chance_48 : decode cX12_chance 48 = .ok (.if_icmp .ge 32, 3) := by decide +kernel
theorem dX12_chance_51 : decode cX12_chance 51 = .ok (.lload 5, 2) := by decide +kernel
theorem dX12_chance_53 : decode cX12_chance 53 = .ok (.aload_n 0, 1) := by decide +kernel
theorem dX12_chance_54 : decode cX12_chance 54 = .ok (.iload_n 1, 1) := by decide +kernel
theorem dX12_chance_55 : decode cX12_chance 55 = .ok (.iload 7, 2) := by decide +kernel
theorem dX12_chance_57 : decode cX12_chance 57 = .ok (.iadd, 1) := by decide +kernel
theorem dX12_chance_58 : decode cX12_chance 58 = .ok (.iconst 0, 1) := by decide +kernel
theorem dX12_chance_59 : decode cX12_chance 59 = .ok (.invokevirtual 366, 3) := by decide +kernel
theorem dX12_chance_62 : decode cX12_chance 62 = .ok (.iload_n 3, 1) := by decide +kernel
theorem dX12_chance_63 : decode cX12_chance 63 = .ok (.if_icmp .lt 7, 3) := by decide +kernel
theorem dX12_chance_66 : decode cX12_chance 66 = .ok (.lconst 1, 1) := by decide +kernel
theorem dX12_chance_67 : decode cX12_chance 67 = .ok (.goto 4, 3) := by decide +kernel
theorem dX12_chance_70 : decode cX12_chance 70 = .ok (.lconst 0, 1) := by decide +kernel
theorem dX12_chance_71 : decode cX12_chance 71 = .ok (.ladd, 1) := by decide +kernel
theorem dX12_chance_72 : decode cX12_chance 72 = .ok (.lstore 5, 2) := by decide +kernel
theorem dX12_chance_74 : decode cX12_chance 74 = .ok (.iinc 7 1, 3) := by decide +kernel
theorem dX12_chance_77 : decode cX12_chance 77 = .ok (.goto (-32), 3) := by decide +kernel
theorem dX12_chance_80 : decode cX12_chance 80 = .ok (.lload 5, 2) := by decide +kernel
theorem dX12_chance_82 : decode cX12_chance 82 = .ok (.iload_n 2, 1) := by decide +kernel
theorem dX12_chance_83 : decode cX12_chance 83 = .ok (.i2l, 1) := by decide +kernel
theorem dX12_chance_84 : decode cX12_chance 84 = .ok (.invokestatic 347, 3) := by decide +kernel
theorem dX12_chance_87 : decode cX12_chance 87 = .ok (.lstore 7, 2) := by decide +kernel
theorem dX12_chance_89 : decode cX12_chance 89 = .ok (.iload 4, 2) := by decide +kernel
theorem dX12_chance_91 : decode cX12_chance 91 = .ok (.ifCond .ne 11, 3) := by decide +kernel
theorem dX12_chance_94 : decode cX12_chance 94 = .ok (.lload 5, 2) := by decide +kernel
theorem dX12_chance_96 : decode cX12_chance 96 = .ok (.lload 7, 2) := by decide +kernel
theorem dX12_chance_98 : decode cX12_chance 98 = .ok (.ldiv, 1) := by decide +kernel
theorem dX12_chance_99 : decode cX12_chance 99 = .ok (.goto 8, 3) := by decide +kernel
theorem dX12_chance_102 : decode cX12_chance 102 = .ok (.iload_n 2, 1) := by decide +kernel
theorem dX12_chance_103 : decode cX12_chance 103 = .ok (.i2l, 1) := by decide +kernel
theorem dX12_chance_104 : decode cX12_chance 104 = .ok (.lload 7, 2) := by decide +kernel
theorem dX12_chance_106 : decode cX12_chance 106 = .ok (.ldiv, 1) := by decide +kernel
theorem dX12_chance_107 : decode cX12_chance 107 = .ok (.lreturn, 1) := by decide +kernel
theorem dX12_image_0 : decode cX12_image 0 = .ok (.iconst 0, 1) := by decide +kernel
theorem dX12_image_1 : decode cX12_image 1 = .ok (.istore_n 1, 1) := by decide +kernel
theorem dX12_image_2 : decode cX12_image 2 = .ok (.iload_n 1, 1) := by decide +kernel
theorem dX12_image_3 : decode cX12_image 3 = .ok (.iconst 5, 1) := by decide +kernel
theorem dX12_image_4 : decode cX12_image 4 = .ok (.if_icmp .ge 21, 3) := by decide +kernel
theorem dX12_image_7 : decode cX12_image 7 = .ok (.aload_n 0, 1) := by decide +kernel
theorem dX12_image_8 : decode cX12_image 8 = .ok (.getfield 32, 3) := by decide +kernel
theorem dX12_image_11 : decode cX12_image 11 = .ok (.iload_n 1, 1) := by decide +kernel
theorem dX12_image_12 : decode cX12_image 12 = .ok (.aload_n 0, 1) := by decide +kernel
theorem dX12_image_13 : decode cX12_image 13 = .ok (.getfield 23, 3) := by decide +kernel
theorem dX12_image_16 : decode cX12_image 16 = .ok (.iload_n 1, 1) := by decide +kernel
theorem dX12_image_17 : decode cX12_image 17 = .ok (.iaload, 1) := by decide +kernel
theorem dX12_image_18 : decode cX12_image 18 = .ok (.iastore, 1) := by decide +kernel
theorem dX12_image_19 : decode cX12_image 19 = .ok (.iinc 1 1, 3) := by decide +kernel
theorem dX12_image_22 : decode cX12_image 22 = .ok (.goto (-20), 3) := by decide +kernel
theorem dX12_image_25 : decode cX12_image 25 = .ok (.iconst 0, 1) := by decide +kernel
theorem dX12_image_26 : decode cX12_image 26 = .ok (.istore_n 1, 1) := by decide +kernel
theorem dX12_image_27 : decode cX12_image 27 = .ok (.iload_n 1, 1) := by decide +kernel
theorem dX12_image_28 : decode cX12_image 28 = .ok (.bipush 32, 2) := by decide +kernel
theorem dX12_image_30 : decode cX12_image 30 = .ok (.if_icmp .ge 21, 3) := by decide +kernel
theorem dX12_image_33 : decode cX12_image 33 = .ok (.aload_n 0, 1) := by decide +kernel
theorem dX12_image_34 : decode cX12_image 34 = .ok (.getfield 35, 3) := by decide +kernel
theorem dX12_image_37 : decode cX12_image 37 = .ok (.iload_n 1, 1) := by decide +kernel
theorem dX12_image_38 : decode cX12_image 38 = .ok (.aload_n 0, 1) := by decide +kernel
theorem dX12_image_39 : decode cX12_image 39 = .ok (.getfield 29, 3) := by decide +kernel
theorem dX12_image_42 : decode cX12_image 42 = .ok (.iload_n 1, 1) := by decide +kernel
theorem dX12_image_43 : decode cX12_image 43 = .ok (.iaload, 1) := by decide +kernel
theorem dX12_image_44 : decode cX12_image 44 = .ok (.iastore, 1) := by decide +kernel
theorem dX12_image_45 : decode cX12_image 45 = .ok (.iinc 1 1, 3) := by decide +kernel
theorem dX12_image_48 : decode cX12_image 48 = .ok (.goto (-21), 3) := by decide +kernel
theorem dX12_image_51 : decode cX12_image 51 = .ok (.aload_n 0, 1) := by decide +kernel
theorem dX12_image_52 : decode cX12_image 52 = .ok (.aload_n 0, 1) := by decide +kernel
theorem dX12_image_53 : decode cX12_image 53 = .ok (.getfield 61, 3) := by decide +kernel
theorem dX12_image_56 : decode cX12_image 56 = .ok (.putfield 38, 3) := by decide +kernel
theorem dX12_image_59 : decode cX12_image 59 = .ok (.aload_n 0, 1) := by decide +kernel
theorem dX12_image_60 : decode cX12_image 60 = .ok (.aload_n 0, 1) := by decide +kernel
theorem dX12_image_61 : decode cX12_image 61 = .ok (.getfield 89, 3) := by decide +kernel
theorem dX12_image_64 : decode cX12_image 64 = .ok (.putfield 374, 3) := by decide +kernel
theorem dX12_image_67 : decode cX12_image 67 = .ok (.aload_n 0, 1) := by decide +kernel
theorem dX12_image_68 : decode cX12_image 68 = .ok (.getfield 61, 3) := by decide +kernel
theorem dX12_image_71 : decode cX12_image 71 = .ok (.ireturn, 1) := by decide +kernel
theorem dX12_back_0 : decode cX12_back 0 = .ok (.aload_n 0, 1) := by decide +kernel
theorem dX12_back_1 : decode cX12_back 1 = .ok (.getfield 38, 3) := by decide +kernel
theorem dX12_back_4 : decode cX12_back 4 = .ok (.iconst (-1), 1) := by decide +kernel
theorem dX12_back_5 : decode cX12_back 5 = .ok (.if_icmp .ne 6, 3) := by decide +kernel
theorem dX12_back_8 : decode cX12_back 8 = .ok (.bipush (-3), 2) := by decide +kernel
theorem dX12_back_10 : decode cX12_back 10 = .ok (.ireturn, 1) := by decide +kernel
theorem dX12_back_11 : decode cX12_back 11 = .ok (.iconst 0, 1) := by decide +kernel
theorem dX12_back_12 : decode cX12_back 12 = .ok (.istore_n 1, 1) := by decide +kernel
theorem dX12_back_13 : decode cX12_back 13 = .ok (.iload_n 1, 1) := by decide +kernel
theorem dX12_back_14 : decode cX12_back 14 = .ok (.iconst 5, 1) := by decide +kernel
theorem dX12_back_15 : decode cX12_back 15 = .ok (.if_icmp .ge 21, 3) := by decide +kernel
theorem dX12_back_18 : decode cX12_back 18 = .ok (.aload_n 0, 1) := by decide +kernel
theorem dX12_back_19 : decode cX12_back 19 = .ok (.getfield 23, 3) := by decide +kernel
theorem dX12_back_22 : decode cX12_back 22 = .ok (.iload_n 1, 1) := by decide +kernel
theorem dX12_back_23 : decode cX12_back 23 = .ok (.aload_n 0, 1) := by decide +kernel
theorem dX12_back_24 : decode cX12_back 24 = .ok (.getfield 32, 3) := by decide +kernel
theorem dX12_back_27 : decode cX12_back 27 = .ok (.iload_n 1, 1) := by decide +kernel
theorem dX12_back_28 : decode cX12_back 28 = .ok (.iaload, 1) := by decide +kernel
theorem dX12_back_29 : decode cX12_back 29 = .ok (.iastore, 1) := by decide +kernel
theorem dX12_back_30 : decode cX12_back 30 = .ok (.iinc 1 1, 3) := by decide +kernel
theorem dX12_back_33 : decode cX12_back 33 = .ok (.goto (-20), 3) := by decide +kernel
theorem dX12_back_36 : decode cX12_back 36 = .ok (.iconst 0, 1) := by decide +kernel
theorem dX12_back_37 : decode cX12_back 37 = .ok (.istore_n 1, 1) := by decide +kernel
theorem dX12_back_38 : decode cX12_back 38 = .ok (.iload_n 1, 1) := by decide +kernel
theorem dX12_back_39 : decode cX12_back 39 = .ok (.bipush 32, 2) := by decide +kernel
theorem dX12_back_41 : decode cX12_back 41 = .ok (.if_icmp .ge 21, 3) := by decide +kernel
theorem dX12_back_44 : decode cX12_back 44 = .ok (.aload_n 0, 1) := by decide +kernel
theorem dX12_back_45 : decode cX12_back 45 = .ok (.getfield 29, 3) := by decide +kernel
theorem dX12_back_48 : decode cX12_back 48 = .ok (.iload_n 1, 1) := by decide +kernel
theorem dX12_back_49 : decode cX12_back 49 = .ok (.aload_n 0, 1) := by decide +kernel
theorem dX12_back_50 : decode cX12_back 50 = .ok (.getfield 35, 3) := by decide +kernel
theorem dX12_back_53 : decode cX12_back 53 = .ok (.iload_n 1, 1) := by decide +kernel
theorem dX12_back_54 : decode cX12_back 54 = .ok (.iaload, 1) := by decide +kernel
theorem dX12_back_55 : decode cX12_back 55 = .ok (.iastore, 1) := by decide +kernel
theorem dX12_back_56 : decode cX12_back 56 = .ok (.iinc 1 1, 3) := by decide +kernel
theorem dX12_back_59 : decode cX12_back 59 = .ok (.goto (-21), 3) := by decide +kernel
theorem dX12_back_62 : decode cX12_back 62 = .ok (.aload_n 0, 1) := by decide +kernel
theorem dX12_back_63 : decode cX12_back 63 = .ok (.aload_n 0, 1) := by decide +kernel
theorem dX12_back_64 : decode cX12_back 64 = .ok (.getfield 38, 3) := by decide +kernel
theorem dX12_back_67 : decode cX12_back 67 = .ok (.putfield 61, 3) := by decide +kernel
theorem dX12_back_70 : decode cX12_back 70 = .ok (.aload_n 0, 1) := by decide +kernel
theorem dX12_back_71 : decode cX12_back 71 = .ok (.aload_n 0, 1) := by decide +kernel
theorem dX12_back_72 : decode cX12_back 72 = .ok (.getfield 374, 3) := by decide +kernel
theorem dX12_back_75 : decode cX12_back 75 = .ok (.putfield 89, 3) := by decide +kernel
theorem dX12_back_78 : decode cX12_back 78 = .ok (.aload_n 0, 1) := by decide +kernel
theorem dX12_back_79 : decode cX12_back 79 = .ok (.getfield 61, 3) := by decide +kernel
theorem dX12_back_82 : decode cX12_back 82 = .ok (.ireturn, 1) := by decide +kernel
theorem dX12_count_0 : decode cX12_count 0 = .ok (.iload_n 1, 1) := by decide +kernel
theorem dX12_count_1 : decode cX12_count 1 = .ok (.i2l, 1) := by decide +kernel
theorem dX12_count_2 : decode cX12_count 2 = .ok (.lconst 0, 1) := by decide +kernel
theorem dX12_count_3 : decode cX12_count 3 = .ok (.ldc2_w 92, 3) := by decide +kernel
theorem dX12_count_6 : decode cX12_count 6 = .ok (.invokestatic 64, 3) := by decide +kernel
theorem dX12_count_9 : decode cX12_count 9 = .ok (.ifCond .ne 6, 3) := by decide +kernel
theorem dX12_count_12 : decode cX12_count 12 = .ok (.bipush (-2), 2) := by decide +kernel
theorem dX12_count_14 : decode cX12_count 14 = .ok (.ireturn, 1) := by decide +kernel
theorem dX12_count_15 : decode cX12_count 15 = .ok (.iload_n 1, 1) := by decide +kernel
theorem dX12_count_16 : decode cX12_count 16 = .ok (.iconst 2, 1) := by decide +kernel
theorem dX12_count_17 : decode cX12_count 17 = .ok (.if_icmp .le 32, 3) := by decide +kernel
theorem dX12_count_20 : decode cX12_count 20 = .ok (.iload_n 1, 1) := by decide +kernel
theorem dX12_count_21 : decode cX12_count 21 = .ok (.iconst 3, 1) := by decide +kernel
theorem dX12_count_22 : decode cX12_count 22 = .ok (.if_icmp .ne 10, 3) := by decide +kernel
theorem dX12_count_25 : decode cX12_count 25 = .ok (.aload_n 0, 1) := by decide +kernel
theorem dX12_count_26 : decode cX12_count 26 = .ok (.getfield 58, 3) := by decide +kernel
theorem dX12_count_29 : decode cX12_count 29 = .ok (.goto 19, 3) := by decide +kernel
theorem dX12_count_32 : decode cX12_count 32 = .ok (.iload_n 1, 1) := by decide +kernel
theorem dX12_count_33 : decode cX12_count 33 = .ok (.iconst 4, 1) := by decide +kernel
theorem dX12_count_34 : decode cX12_count 34 = .ok (.if_icmp .ne 10, 3) := by decide +kernel
theorem dX12_count_37 : decode cX12_count 37 = .ok (.aload_n 0, 1) := by decide +kernel
theorem dX12_count_38 : decode cX12_count 38 = .ok (.getfield 119, 3) := by decide +kernel
theorem dX12_count_41 : decode cX12_count 41 = .ok (.goto 7, 3) := by decide +kernel
theorem dX12_count_44 : decode cX12_count 44 = .ok (.aload_n 0, 1) := by decide +kernel
theorem dX12_count_45 : decode cX12_count 45 = .ok (.getfield 89, 3) := by decide +kernel
theorem dX12_count_48 : decode cX12_count 48 = .ok (.ireturn, 1) := by decide +kernel
theorem dX12_count_49 : decode cX12_count 49 = .ok (.iconst 0, 1) := by decide +kernel
theorem dX12_count_50 : decode cX12_count 50 = .ok (.istore_n 2, 1) := by decide +kernel
theorem dX12_count_51 : decode cX12_count 51 = .ok (.iconst 0, 1) := by decide +kernel
theorem dX12_count_52 : decode cX12_count 52 = .ok (.istore_n 3, 1) := by decide +kernel
theorem dX12_count_53 : decode cX12_count 53 = .ok (.iload_n 3, 1) := by decide +kernel
theorem dX12_count_54 : decode cX12_count 54 = .ok (.bipush 10, 2) := by decide +kernel
theorem dX12_count_56 : decode cX12_count 56 = .ok (.if_icmp .ge 27, 3) := by decide +kernel
theorem dX12_count_59 : decode cX12_count 59 = .ok (.iload_n 1, 1) := by decide +kernel
theorem dX12_count_60 : decode cX12_count 60 = .ok (.iconst 1, 1) := by decide +kernel
theorem dX12_count_61 : decode cX12_count 61 = .ok (.if_icmp .ne 22, 3) := by decide +kernel
theorem dX12_count_64 : decode cX12_count 64 = .ok (.iload_n 2, 1) := by decide +kernel
theorem dX12_count_65 : decode cX12_count 65 = .ok (.aload_n 0, 1) := by decide +kernel
theorem dX12_count_66 : decode cX12_count 66 = .ok (.getfield 23, 3) := by decide +kernel
theorem dX12_count_69 : decode cX12_count 69 = .ok (.iconst 3, 1) := by decide +kernel
theorem dX12_count_70 : decode cX12_count 70 = .ok (.iaload, 1) := by decide +kernel
theorem dX12_count_71 : decode cX12_count 71 = .ok (.iload_n 3, 1) := by decide +kernel
theorem dX12_count_72 : decode cX12_count 72 = .ok (.ishr, 1) := by decide +kernel
theorem dX12_count_73 : decode cX12_count 73 = .ok (.iconst 1, 1) := by decide +kernel
theorem dX12_count_74 : decode cX12_count 74 = .ok (.iand, 1) := by decide +kernel
theorem dX12_count_75 : decode cX12_count 75 = .ok (.iadd, 1) := by decide +kernel
theorem dX12_count_76 : decode cX12_count 76 = .ok (.istore_n 2, 1) := by decide +kernel
theorem dX12_count_77 : decode cX12_count 77 = .ok (.iinc 3 1, 3) := by decide +kernel
theorem dX12_count_80 : decode cX12_count 80 = .ok (.goto (-27), 3) := by decide +kernel
theorem dX12_count_83 : decode cX12_count 83 = .ok (.iconst 0, 1) := by decide +kernel
theorem dX12_count_84 : decode cX12_count 84 = .ok (.istore_n 3, 1) := by decide +kernel
theorem dX12_count_85 : decode cX12_count 85 = .ok (.iload_n 3, 1) := by decide +kernel
theorem dX12_count_86 : decode cX12_count 86 = .ok (.aload_n 0, 1) := by decide +kernel
theorem dX12_count_87 : decode cX12_count 87 = .ok (.getfield 61, 3) := by decide +kernel
theorem dX12_count_90 : decode cX12_count 90 = .ok (.if_icmp .ge 27, 3) := by decide +kernel
theorem dX12_count_93 : decode cX12_count 93 = .ok (.iload_n 1, 1) := by decide +kernel
theorem dX12_count_94 : decode cX12_count 94 = .ok (.iconst 2, 1) := by decide +kernel
theorem dX12_count_95 : decode cX12_count 95 = .ok (.if_icmp .ne 22, 3) := by decide +kernel
theorem dX12_count_98 : decode cX12_count 98 = .ok (.iload_n 2, 1) := by decide +kernel
theorem dX12_count_99 : decode cX12_count 99 = .ok (.aload_n 0, 1) := by decide +kernel
theorem dX12_count_100 : decode cX12_count 100 = .ok (.getfield 29, 3) := by decide +kernel
theorem dX12_count_103 : decode cX12_count 103 = .ok (.iconst 4, 1) := by decide +kernel
theorem dX12_count_104 : decode cX12_count 104 = .ok (.iload_n 3, 1) := by decide +kernel
theorem dX12_count_105 : decode cX12_count 105 = .ok (.imul, 1) := by decide +kernel
theorem dX12_count_106 : decode cX12_count 106 = .ok (.iconst 3, 1) := by decide +kernel
theorem dX12_count_107 : decode cX12_count 107 = .ok (.iadd, 1) := by decide +kernel
theorem dX12_count_108 : decode cX12_count 108 = .ok (.iaload, 1) := by decide +kernel
theorem dX12_count_109 : decode cX12_count 109 = .ok (.iadd, 1) := by decide +kernel
theorem dX12_count_110 : decode cX12_count 110 = .ok (.istore_n 2, 1) := by decide +kernel
theorem dX12_count_111 : decode cX12_count 111 = .ok (.iinc 3 1, 3) := by decide +kernel
theorem dX12_count_114 : decode cX12_count 114 = .ok (.goto (-29), 3) := by decide +kernel
theorem dX12_count_117 : decode cX12_count 117 = .ok (.iload_n 1, 1) := by decide +kernel
theorem dX12_count_118 : decode cX12_count 118 = .ok (.ifCond .ne 10, 3) := by decide +kernel
theorem dX12_count_121 : decode cX12_count 121 = .ok (.aload_n 0, 1) := by decide +kernel
theorem dX12_count_122 : decode cX12_count 122 = .ok (.getfield 61, 3) := by decide +kernel
theorem dX12_count_125 : decode cX12_count 125 = .ok (.goto 4, 3) := by decide +kernel
theorem dX12_count_128 : decode cX12_count 128 = .ok (.iload_n 2, 1) := by decide +kernel
theorem dX12_count_129 : decode cX12_count 129 = .ok (.ireturn, 1) := by decide +kernel
theorem dX12_isSheet_0 : decode cX12_isSheet 0 = .ok (.iload_n 0, 1) := by decide +kernel
theorem dX12_isSheet_1 : decode cX12_isSheet 1 = .ok (.i2l, 1) := by decide +kernel
theorem dX12_isSheet_2 : decode cX12_isSheet 2 = .ok (.lconst 0, 1) := by decide +kernel
theorem dX12_isSheet_3 : decode cX12_isSheet 3 = .ok (.ldc2_w 377, 3) := by decide +kernel
theorem dX12_isSheet_6 : decode cX12_isSheet 6 = .ok (.invokestatic 64, 3) := by decide +kernel
theorem dX12_isSheet_9 : decode cX12_isSheet 9 = .ok (.ireturn, 1) := by decide +kernel
theorem dX12_sheet_0 : decode cX12_sheet 0 = .ok (.iload_n 1, 1) := by decide +kernel
theorem dX12_sheet_1 : decode cX12_sheet 1 = .ok (.invokestatic 354, 3) := by decide +kernel
theorem dX12_sheet_4 : decode cX12_sheet 4 = .ok (.ifCond .eq 27, 3) := by decide +kernel
theorem dX12_sheet_7 : decode cX12_sheet 7 = .ok (.iload_n 2, 1) := by decide +kernel
theorem dX12_sheet_8 : decode cX12_sheet 8 = .ok (.i2l, 1) := by decide +kernel
theorem dX12_sheet_9 : decode cX12_sheet 9 = .ok (.ldc2_w 379, 3) := by decide +kernel
theorem dX12_sheet_12 : decode cX12_sheet 12 = .ok (.ldc2_w 381, 3) := by decide +kernel
theorem dX12_sheet_15 : decode cX12_sheet 15 = .ok (.invokestatic 64, 3) := by decide +kernel
theorem dX12_sheet_18 : decode cX12_sheet 18 = .ok (.ifCond .eq 13, 3) := by decide +kernel
theorem dX12_sheet_21 : decode cX12_sheet 21 = .ok (.iload_n 2, 1) := by decide +kernel
theorem dX12_sheet_22 : decode cX12_sheet 22 = .ok (.ifCond .lt 12, 3) := by decide +kernel
theorem dX12_sheet_25 : decode cX12_sheet 25 = .ok (.iload_n 3, 1) := by decide +kernel
theorem dX12_sheet_26 : decode cX12_sheet 26 = .ok (.bipush 40, 2) := by decide +kernel
theorem dX12_sheet_28 : decode cX12_sheet 28 = .ok (.if_icmp .le 6, 3) := by decide +kernel
theorem dX12_sheet_31 : decode cX12_sheet 31 = .ok (.bipush (-2), 2) := by decide +kernel
theorem dX12_sheet_33 : decode cX12_sheet 33 = .ok (.ireturn, 1) := by decide +kernel
theorem dX12_sheet_34 : decode cX12_sheet 34 = .ok (.iload_n 2, 1) := by decide +kernel
theorem dX12_sheet_35 : decode cX12_sheet 35 = .ok (.ifCond .lt 10, 3) := by decide +kernel
theorem dX12_sheet_38 : decode cX12_sheet 38 = .ok (.iload_n 3, 1) := by decide +kernel
theorem dX12_sheet_39 : decode cX12_sheet 39 = .ok (.ifCond .ge 6, 3) := by decide +kernel
theorem dX12_sheet_42 : decode cX12_sheet 42 = .ok (.bipush (-14), 2) := by decide +kernel
theorem dX12_sheet_44 : decode cX12_sheet 44 = .ok (.ireturn, 1) := by decide +kernel
theorem dX12_sheet_45 : decode cX12_sheet 45 = .ok (.aload_n 0, 1) := by decide +kernel
theorem dX12_sheet_46 : decode cX12_sheet 46 = .ok (.getfield 41, 3) := by decide +kernel
theorem dX12_sheet_49 : decode cX12_sheet 49 = .ok (.iload_n 1, 1) := by decide +kernel
theorem dX12_sheet_50 : decode cX12_sheet 50 = .ok (.iload_n 2, 1) := by decide +kernel
theorem dX12_sheet_51 : decode cX12_sheet 51 = .ok (.ifCond .lt 7, 3) := by decide +kernel
theorem dX12_sheet_54 : decode cX12_sheet 54 = .ok (.iconst 1, 1) := by decide +kernel
theorem dX12_sheet_55 : decode cX12_sheet 55 = .ok (.goto 4, 3) := by decide +kernel
theorem dX12_sheet_58 : decode cX12_sheet 58 = .ok (.iconst 0, 1) := by decide +kernel
theorem dX12_sheet_59 : decode cX12_sheet 59 = .ok (.bastore, 1) := by decide +kernel
theorem dX12_sheet_60 : decode cX12_sheet 60 = .ok (.aload_n 0, 1) := by decide +kernel
theorem dX12_sheet_61 : decode cX12_sheet 61 = .ok (.getfield 45, 3) := by decide +kernel
theorem dX12_sheet_64 : decode cX12_sheet 64 = .ok (.iload_n 1, 1) := by decide +kernel
theorem dX12_sheet_65 : decode cX12_sheet 65 = .ok (.iload_n 2, 1) := by decide +kernel
theorem dX12_sheet_66 : decode cX12_sheet 66 = .ok (.iastore, 1) := by decide +kernel
theorem dX12_sheet_67 : decode cX12_sheet 67 = .ok (.aload_n 0, 1) := by decide +kernel
theorem dX12_sheet_68 : decode cX12_sheet 68 = .ok (.getfield 48, 3) := by decide +kernel
theorem dX12_sheet_71 : decode cX12_sheet 71 = .ok (.iload_n 1, 1) := by decide +kernel
theorem dX12_sheet_72 : decode cX12_sheet 72 = .ok (.iload_n 3, 1) := by decide +kernel
theorem dX12_sheet_73 : decode cX12_sheet 73 = .ok (.iastore, 1) := by decide +kernel
theorem dX12_sheet_74 : decode cX12_sheet 74 = .ok (.iconst 0, 1) := by decide +kernel
theorem dX12_sheet_75 : decode cX12_sheet 75 = .ok (.istore 4, 2) := by decide +kernel
theorem dX12_sheet_77 : decode cX12_sheet 77 = .ok (.iload 4, 2) := by decide +kernel
theorem dX12_sheet_79 : decode cX12_sheet 79 = .ok (.iload_n 3, 1) := by decide +kernel
theorem dX12_sheet_80 : decode cX12_sheet 80 = .ok (.if_icmp .ge 26, 3) := by decide +kernel
theorem dX12_sheet_83 : decode cX12_sheet 83 = .ok (.iload_n 2, 1) := by decide +kernel
theorem dX12_sheet_84 : decode cX12_sheet 84 = .ok (.ifCond .lt 22, 3) := by decide +kernel
theorem dX12_sheet_87 : decode cX12_sheet 87 = .ok (.aload_n 0, 1) := by decide +kernel
theorem dX12_sheet_88 : decode cX12_sheet 88 = .ok (.getfield 51, 3) := by decide +kernel
theorem dX12_sheet_91 : decode cX12_sheet 91 = .ok (.bipush 40, 2) := by decide +kernel
theorem dX12_sheet_93 : decode cX12_sheet 93 = .ok (.iload_n 1, 1) := by decide +kernel
theorem dX12_sheet_94 : decode cX12_sheet 94 = .ok (.imul, 1) := by decide +kernel
theorem dX12_sheet_95 : decode cX12_sheet 95 = .ok (.iload 4, 2) := by decide +kernel
theorem dX12_sheet_97 : decode cX12_sheet 97 = .ok (.iadd, 1) := by decide +kernel
theorem dX12_sheet_98 : decode cX12_sheet 98 = .ok (.iconst 0, 1) := by decide +kernel
theorem dX12_sheet_99 : decode cX12_sheet 99 = .ok (.iastore, 1) := by decide +kernel
theorem dX12_sheet_100 : decode cX12_sheet 100 = .ok (.iinc 4 1, 3) := by decide +kernel
theorem dX12_sheet_103 : decode cX12_sheet 103 = .ok (.goto (-26), 3) := by decide +kernel
theorem dX12_sheet_106 : decode cX12_sheet 106 = .ok (.iconst 1, 1) := by decide +kernel
theorem dX12_sheet_107 : decode cX12_sheet 107 = .ok (.ireturn, 1) := by decide +kernel
theorem dX12_cell_0 : decode cX12_cell 0 = .ok (.iload_n 1, 1) := by decide +kernel
theorem dX12_cell_1 : decode cX12_cell 1 = .ok (.invokestatic 354, 3) := by decide +kernel
theorem dX12_cell_4 : decode cX12_cell 4 = .ok (.ifCond .ne 6, 3) := by decide +kernel
theorem dX12_cell_7 : decode cX12_cell 7 = .ok (.bipush (-2), 2) := by decide +kernel
theorem dX12_cell_9 : decode cX12_cell 9 = .ok (.ireturn, 1) := by decide +kernel
theorem dX12_cell_10 : decode cX12_cell 10 = .ok (.aload_n 0, 1) := by decide +kernel
theorem dX12_cell_11 : decode cX12_cell 11 = .ok (.getfield 41, 3) := by decide +kernel
theorem dX12_cell_14 : decode cX12_cell 14 = .ok (.iload_n 1, 1) := by decide +kernel
theorem dX12_cell_15 : decode cX12_cell 15 = .ok (.baload, 1) := by decide +kernel
theorem dX12_cell_16 : decode cX12_cell 16 = .ok (.ifCond .ne 6, 3) := by decide +kernel
theorem dX12_cell_19 : decode cX12_cell 19 = .ok (.bipush (-11), 2) := by decide +kernel
theorem dX12_cell_21 : decode cX12_cell 21 = .ok (.ireturn, 1) := by decide +kernel
theorem dX12_cell_22 : decode cX12_cell 22 = .ok (.iload_n 2, 1) := by decide +kernel
theorem dX12_cell_23 : decode cX12_cell 23 = .ok (.i2l, 1) := by decide +kernel
theorem dX12_cell_24 : decode cX12_cell 24 = .ok (.lconst 0, 1) := by decide +kernel
theorem dX12_cell_25 : decode cX12_cell 25 = .ok (.aload_n 0, 1) := by decide +kernel
theorem dX12_cell_26 : decode cX12_cell 26 = .ok (.getfield 48, 3) := by decide +kernel
theorem dX12_cell_29 : decode cX12_cell 29 = .ok (.iload_n 1, 1) := by decide +kernel
theorem dX12_cell_30 : decode cX12_cell 30 = .ok (.iaload, 1) := by decide +kernel
theorem dX12_cell_31 : decode cX12_cell 31 = .ok (.iconst 1, 1) := by decide +kernel
theorem dX12_cell_32 : decode cX12_cell 32 = .ok (.isub, 1) := by decide +kernel
theorem dX12_cell_33 : decode cX12_cell 33 = .ok (.i2l, 1) := by decide +kernel
theorem dX12_cell_34 : decode cX12_cell 34 = .ok (.invokestatic 64, 3) := by decide +kernel
theorem dX12_cell_37 : decode cX12_cell 37 = .ok (.ifCond .ne 6, 3) := by decide +kernel
theorem dX12_cell_40 : decode cX12_cell 40 = .ok (.bipush (-12), 2) := by decide +kernel
theorem dX12_cell_42 : decode cX12_cell 42 = .ok (.ireturn, 1) := by decide +kernel
theorem dX12_cell_43 : decode cX12_cell 43 = .ok (.aload_n 0, 1) := by decide +kernel
theorem dX12_cell_44 : decode cX12_cell 44 = .ok (.getfield 51, 3) := by decide +kernel
theorem dX12_cell_47 : decode cX12_cell 47 = .ok (.bipush 40, 2) := by decide +kernel
theorem dX12_cell_49 : decode cX12_cell 49 = .ok (.iload_n 1, 1) := by decide +kernel
theorem dX12_cell_50 : decode cX12_cell 50 = .ok (.imul, 1) := by decide +kernel
theorem dX12_cell_51 : decode cX12_cell 51 = .ok (.iload_n 2, 1) := by decide +kernel
theorem dX12_cell_52 : decode cX12_cell 52 = .ok (.iadd, 1) := by decide +kernel
theorem dX12_cell_53 : decode cX12_cell 53 = .ok (.aload_n 0, 1) := by decide +kernel
theorem dX12_cell_54 : decode cX12_cell 54 = .ok (.getfield 45, 3) := by decide +kernel
theorem dX12_cell_57 : decode cX12_cell 57 = .ok (.iload_n 1, 1) := by decide +kernel
theorem dX12_cell_58 : decode cX12_cell 58 = .ok (.iaload, 1) := by decide +kernel
theorem dX12_cell_59 : decode cX12_cell 59 = .ok (.ifCond .ne 8, 3) := by decide +kernel
theorem dX12_cell_62 : decode cX12_cell 62 = .ok (.iload_n 3, 1) := by decide +kernel
theorem dX12_cell_63 : decode cX12_cell 63 = .ok (.i2b, 1) := by decide +kernel
theorem dX12_cell_64 : decode cX12_cell 64 = .ok (.goto 19, 3) := by decide +kernel
theorem dX12_cell_67 : decode cX12_cell 67 = .ok (.aload_n 0, 1) := by decide +kernel
theorem dX12_cell_68 : decode cX12_cell 68 = .ok (.getfield 45, 3) := by decide +kernel
theorem dX12_cell_71 : decode cX12_cell 71 = .ok (.iload_n 1, 1) := by decide +kernel
theorem dX12_cell_72 : decode cX12_cell 72 = .ok (.iaload, 1) := by decide +kernel
theorem dX12_cell_73 : decode cX12_cell 73 = .ok (.iconst 1, 1) := by decide +kernel
theorem dX12_cell_74 : decode cX12_cell 74 = .ok (.if_icmp .ne 8, 3) := by decide +kernel
theorem dX12_cell_77 : decode cX12_cell 77 = .ok (.iload_n 3, 1) := by decide +kernel
theorem dX12_cell_78 : decode cX12_cell 78 = .ok (.i2s, 1) := by decide +kernel
theorem dX12_cell_79 : decode cX12_cell 79 = .ok (.goto 4, 3) := by decide +kernel
theorem dX12_cell_82 : decode cX12_cell 82 = .ok (.iload_n 3, 1) := by decide +kernel
theorem dX12_cell_83 : decode cX12_cell 83 = .ok (.iastore, 1) := by decide +kernel
theorem dX12_cell_84 : decode cX12_cell 84 = .ok (.iconst 1, 1) := by decide +kernel
theorem dX12_cell_85 : decode cX12_cell 85 = .ok (.ireturn, 1) := by decide +kernel
theorem dX12_copy_0 : decode cX12_copy 0 = .ok (.iload_n 1, 1) := by decide +kernel
theorem dX12_copy_1 : decode cX12_copy 1 = .ok (.invokestatic 354, 3) := by decide +kernel
theorem dX12_copy_4 : decode cX12_copy 4 = .ok (.ifCond .eq 10, 3) := by decide +kernel
theorem dX12_copy_7 : decode cX12_copy 7 = .ok (.iload_n 3, 1) := by decide +kernel
theorem dX12_copy_8 : decode cX12_copy 8 = .ok (.invokestatic 354, 3) := by decide +kernel
theorem dX12_copy_11 : decode cX12_copy 11 = .ok (.ifCond .ne 6, 3) := by decide +kernel
theorem dX12_copy_14 : decode cX12_copy 14 = .ok (.bipush (-2), 2) := by decide +kernel
theorem dX12_copy_16 : decode cX12_copy 16 = .ok (.ireturn, 1) := by decide +kernel
theorem dX12_copy_17 : decode cX12_copy 17 = .ok (.aload_n 0, 1) := by decide +kernel
theorem dX12_copy_18 : decode cX12_copy 18 = .ok (.getfield 41, 3) := by decide +kernel
theorem dX12_copy_21 : decode cX12_copy 21 = .ok (.iload_n 1, 1) := by decide +kernel
theorem dX12_copy_22 : decode cX12_copy 22 = .ok (.baload, 1) := by decide +kernel
theorem dX12_copy_23 : decode cX12_copy 23 = .ok (.ifCond .eq 12, 3) := by decide +kernel
theorem dX12_copy_26 : decode cX12_copy 26 = .ok (.aload_n 0, 1) := by decide +kernel
theorem dX12_copy_27 : decode cX12_copy 27 = .ok (.getfield 41, 3) := by decide +kernel
theorem dX12_copy_30 : decode cX12_copy 30 = .ok (.iload_n 3, 1) := by decide +kernel
theorem dX12_copy_31 : decode cX12_copy 31 = .ok (.baload, 1) := by decide +kernel
theorem dX12_copy_32 : decode cX12_copy 32 = .ok (.ifCond .ne 6, 3) := by decide +kernel
theorem dX12_copy_35 : decode cX12_copy 35 = .ok (.bipush (-11), 2) := by decide +kernel
theorem dX12_copy_37 : decode cX12_copy 37 = .ok (.ireturn, 1) := by decide +kernel
theorem dX12_copy_38 : decode cX12_copy 38 = .ok (.aload_n 0, 1) := by decide +kernel
theorem dX12_copy_39 : decode cX12_copy 39 = .ok (.getfield 45, 3) := by decide +kernel
theorem dX12_copy_42 : decode cX12_copy 42 = .ok (.iload_n 1, 1) := by decide +kernel
theorem dX12_copy_43 : decode cX12_copy 43 = .ok (.iaload, 1) := by decide +kernel
theorem dX12_copy_44 : decode cX12_copy 44 = .ok (.aload_n 0, 1) := by decide +kernel
theorem dX12_copy_45 : decode cX12_copy 45 = .ok (.getfield 45, 3) := by decide +kernel
theorem dX12_copy_48 : decode cX12_copy 48 = .ok (.iload_n 3, 1) := by decide +kernel
theorem dX12_copy_49 : decode cX12_copy 49 = .ok (.iaload, 1) := by decide +kernel
theorem dX12_copy_50 : decode cX12_copy 50 = .ok (.if_icmp .eq 6, 3) := by decide +kernel
theorem dX12_copy_53 : decode cX12_copy 53 = .ok (.bipush (-13), 2) := by decide +kernel
theorem dX12_copy_55 : decode cX12_copy 55 = .ok (.ireturn, 1) := by decide +kernel
theorem dX12_copy_56 : decode cX12_copy 56 = .ok (.iload 5, 2) := by decide +kernel
theorem dX12_copy_58 : decode cX12_copy 58 = .ok (.ifCond .lt 39, 3) := by decide +kernel
theorem dX12_copy_61 : decode cX12_copy 61 = .ok (.iload_n 2, 1) := by decide +kernel
theorem dX12_copy_62 : decode cX12_copy 62 = .ok (.ifCond .lt 35, 3) := by decide +kernel
theorem dX12_copy_65 : decode cX12_copy 65 = .ok (.iload 4, 2) := by decide +kernel
theorem dX12_copy_67 : decode cX12_copy 67 = .ok (.ifCond .lt 30, 3) := by decide +kernel
theorem dX12_copy_70 : decode cX12_copy 70 = .ok (.iload_n 2, 1) := by decide +kernel
theorem dX12_copy_71 : decode cX12_copy 71 = .ok (.aload_n 0, 1) := by decide +kernel
theorem dX12_copy_72 : decode cX12_copy 72 = .ok (.getfield 48, 3) := by decide +kernel
theorem dX12_copy_75 : decode cX12_copy 75 = .ok (.iload_n 1, 1) := by decide +kernel
theorem dX12_copy_76 : decode cX12_copy 76 = .ok (.iaload, 1) := by decide +kernel
theorem dX12_copy_77 : decode cX12_copy 77 = .ok (.iload 5, 2) := by decide +kernel
theorem dX12_copy_79 : decode cX12_copy 79 = .ok (.isub, 1) := by decide +kernel
theorem dX12_copy_80 : decode cX12_copy 80 = .ok (.if_icmp .gt 17, 3) := by decide +kernel
theorem dX12_copy_83 : decode cX12_copy 83 = .ok (.iload 4, 2) := by decide +kernel
theorem dX12_copy_85 : decode cX12_copy 85 = .ok (.aload_n 0, 1) := by decide +kernel
theorem dX12_copy_86 : decode cX12_copy 86 = .ok (.getfield 48, 3) := by decide +kernel
theorem dX12_copy_89 : decode cX12_copy 89 = .ok (.iload_n 3, 1) := by decide +kernel
theorem dX12_copy_90 : decode cX12_copy 90 = .ok (.iaload, 1) := by decide +kernel
theorem dX12_copy_91 : decode cX12_copy 91 = .ok (.iload 5, 2) := by decide +kernel
theorem dX12_copy_93 : decode cX12_copy 93 = .ok (.isub, 1) := by decide +kernel
theorem dX12_copy_94 : decode cX12_copy 94 = .ok (.if_icmp .le 6, 3) := by decide +kernel
theorem dX12_copy_97 : decode cX12_copy 97 = .ok (.bipush (-12), 2) := by decide +kernel
theorem dX12_copy_99 : decode cX12_copy 99 = .ok (.ireturn, 1) := by decide +kernel
theorem dX12_copy_100 : decode cX12_copy 100 = .ok (.iload_n 1, 1) := by decide +kernel
theorem dX12_copy_101 : decode cX12_copy 101 = .ok (.iload_n 3, 1) := by decide +kernel
theorem dX12_copy_102 : decode cX12_copy 102 = .ok (.if_icmp .ne 13, 3) := by decide +kernel
theorem dX12_copy_105 : decode cX12_copy 105 = .ok (.iload_n 2, 1) := by decide +kernel
theorem dX12_copy_106 : decode cX12_copy 106 = .ok (.iload 4, 2) := by decide +kernel
theorem dX12_copy_108 : decode cX12_copy 108 = .ok (.if_icmp .ge 7, 3) := by decide +kernel
theorem dX12_copy_111 : decode cX12_copy 111 = .ok (.iconst 1, 1) := by decide +kernel
theorem dX12_copy_112 : decode cX12_copy 112 = .ok (.goto 4, 3) := by decide +kernel
theorem dX12_copy_115 : decode cX12_copy 115 = .ok (.iconst 0, 1) := by decide +kernel
theorem dX12_copy_116 : decode cX12_copy 116 = .ok (.istore 6, 2) := by decide +kernel
theorem dX12_copy_118 : decode cX12_copy 118 = .ok (.iconst 0, 1) := by decide +kernel
theorem dX12_copy_119 : decode cX12_copy 119 = .ok (.istore 7, 2) := by decide +kernel
theorem dX12_copy_121 : decode cX12_copy 121 = .ok (.iload 7, 2) := by decide +kernel
theorem dX12_copy_123 : decode cX12_copy 123 = .ok (.iload 5, 2) := by decide +kernel
theorem dX12_copy_125 : decode cX12_copy 125 = .ok (.if_icmp .ge 57, 3) := by decide +kernel
theorem dX12_copy_128 : decode cX12_copy 128 = .ok (.iload 6, 2) := by decide +kernel
theorem dX12_copy_130 : decode cX12_copy 130 = .ok (.ifCond .eq 13, 3) := by decide +kernel
theorem dX12_copy_133 : decode cX12_copy 133 = .ok (.iload 5, 2) := by decide +kernel
theorem dX12_copy_135 : decode cX12_copy 135 = .ok (.iconst 1, 1) := by decide +kernel
theorem dX12_copy_136 : decode cX12_copy 136 = .ok (.isub, 1) := by decide +kernel
theorem dX12_copy_137 : decode cX12_copy 137 = .ok (.iload 7, 2) := by decide +kernel
theorem dX12_copy_139 : decode cX12_copy 139 = .ok (.isub, 1) := by decide +kernel
theorem dX12_copy_140 : decode cX12_copy 140 = .ok (.goto 5, 3) := by decide +kernel
theorem dX12_copy_143 : decode cX12_copy 143 = .ok (.iload 7, 2) := by decide +kernel
theorem dX12_copy_145 : decode cX12_copy 145 = .ok (.istore 8, 2) := by decide +kernel
theorem dX12_copy_147 : decode cX12_copy 147 = .ok (.aload_n 0, 1) := by decide +kernel
theorem dX12_copy_148 : decode cX12_copy 148 = .ok (.getfield 51, 3) := by decide +kernel
theorem dX12_copy_151 : decode cX12_copy 151 = .ok (.bipush 40, 2) := by decide +kernel
theorem dX12_copy_153 : decode cX12_copy 153 = .ok (.iload_n 3, 1) := by decide +kernel
theorem dX12_copy_154 : decode cX12_copy 154 = .ok (.imul, 1) := by decide +kernel
theorem dX12_copy_155 : decode cX12_copy 155 = .ok (.iload 4, 2) := by decide +kernel
theorem dX12_copy_157 : decode cX12_copy 157 = .ok (.iadd, 1) := by decide +kernel
theorem dX12_copy_158 : decode cX12_copy 158 = .ok (.iload 8, 2) := by decide +kernel
theorem dX12_copy_160 : decode cX12_copy 160 = .ok (.iadd, 1) := by decide +kernel
theorem dX12_copy_161 : decode cX12_copy 161 = .ok (.aload_n 0, 1) := by decide +kernel
theorem dX12_copy_162 : decode cX12_copy 162 = .ok (.getfield 51, 3) := by decide +kernel
theorem dX12_copy_165 : decode cX12_copy 165 = .ok (.bipush 40, 2) := by decide +kernel
theorem dX12_copy_167 : decode cX12_copy 167 = .ok (.iload_n 1, 1) := by decide +kernel
theorem dX12_copy_168 : decode cX12_copy 168 = .ok (.imul, 1) := by decide +kernel
theorem dX12_copy_169 : decode cX12_copy 169 = .ok (.iload_n 2, 1) := by decide +kernel
theorem dX12_copy_170 : decode cX12_copy 170 = .ok (.iadd, 1) := by decide +kernel
theorem dX12_copy_171 : decode cX12_copy 171 = .ok (.iload 8, 2) := by decide +kernel
theorem dX12_copy_173 : decode cX12_copy 173 = .ok (.iadd, 1) := by decide +kernel
theorem dX12_copy_174 : decode cX12_copy 174 = .ok (.iaload, 1) := by decide +kernel
theorem dX12_copy_175 : decode cX12_copy 175 = .ok (.iastore, 1) := by decide +kernel
theorem dX12_copy_176 : decode cX12_copy 176 = .ok (.iinc 7 1, 3) := by decide +kernel
theorem dX12_copy_179 : decode cX12_copy 179 = .ok (.goto (-58), 3) := by decide +kernel
theorem dX12_copy_182 : decode cX12_copy 182 = .ok (.iload 5, 2) := by decide +kernel
theorem dX12_copy_184 : decode cX12_copy 184 = .ok (.ireturn, 1) := by decide +kernel
theorem dX12_customers_0 : decode cX12_customers 0 = .ok (.iload_n 1, 1) := by decide +kernel
theorem dX12_customers_1 : decode cX12_customers 1 = .ok (.invokestatic 354, 3) := by decide +kernel
theorem dX12_customers_4 : decode cX12_customers 4 = .ok (.ifCond .eq 28, 3) := by decide +kernel
theorem dX12_customers_7 : decode cX12_customers 7 = .ok (.iload_n 2, 1) := by decide +kernel
theorem dX12_customers_8 : decode cX12_customers 8 = .ok (.i2l, 1) := by decide +kernel
theorem dX12_customers_9 : decode cX12_customers 9 = .ok (.lconst 0, 1) := by decide +kernel
theorem dX12_customers_10 : decode cX12_customers 10 = .ok (.ldc2_w 381, 3) := by decide +kernel
theorem dX12_customers_13 : decode cX12_customers 13 = .ok (.invokestatic 64, 3) := by decide +kernel
theorem dX12_customers_16 : decode cX12_customers 16 = .ok (.ifCond .eq 16, 3) := by decide +kernel
theorem dX12_customers_19 : decode cX12_customers 19 = .ok (.iload 4, 2) := by decide +kernel
theorem dX12_customers_21 : decode cX12_customers 21 = .ok (.i2l, 1) := by decide +kernel
theorem dX12_customers_22 : decode cX12_customers 22 = .ok (.lconst 0, 1) := by decide +kernel
theorem dX12_customers_23 : decode cX12_customers 23 = .ok (.ldc2_w 383, 3) := by decide +kernel
theorem dX12_customers_26 : decode cX12_customers 26 = .ok (.invokestatic 64, 3) := by decide +kernel
theorem dX12_customers_29 : decode cX12_customers 29 = .ok (.ifCond .ne 6, 3) := by decide +kernel
theorem dX12_customers_32 : decode cX12_customers 32 = .ok (.bipush (-2), 2) := by decide +kernel
theorem dX12_customers_34 : decode cX12_customers 34 = .ok (.ireturn, 1) := by decide +kernel
theorem dX12_customers_35 : decode cX12_customers 35 = .ok (.aload_n 0, 1) := by decide +kernel
theorem dX12_customers_36 : decode cX12_customers 36 = .ok (.getfield 41, 3) := by decide +kernel
theorem dX12_customers_39 : decode cX12_customers 39 = .ok (.iload_n 1, 1) := by decide +kernel
theorem dX12_customers_40 : decode cX12_customers 40 = .ok (.baload, 1) := by decide +kernel
theorem dX12_customers_41 : decode cX12_customers 41 = .ok (.ifCond .eq 16, 3) := by decide +kernel
theorem dX12_customers_44 : decode cX12_customers 44 = .ok (.aload_n 0, 1) := by decide +kernel
theorem dX12_customers_45 : decode cX12_customers 45 = .ok (.getfield 45, 3) := by decide +kernel
theorem dX12_customers_48 : decode cX12_customers 48 = .ok (.iload_n 1, 1) := by decide +kernel
theorem dX12_customers_49 : decode cX12_customers 49 = .ok (.iaload, 1) := by decide +kernel
theorem dX12_customers_50 : decode cX12_customers 50 = .ok (.iload_n 2, 1) := by decide +kernel
theorem dX12_customers_51 : decode cX12_customers 51 = .ok (.if_icmp .eq 6, 3) := by decide +kernel
theorem dX12_customers_54 : decode cX12_customers 54 = .ok (.bipush (-13), 2) := by decide +kernel
theorem dX12_customers_56 : decode cX12_customers 56 = .ok (.ireturn, 1) := by decide +kernel
theorem dX12_customers_57 : decode cX12_customers 57 = .ok (.aload_n 0, 1) := by decide +kernel
theorem dX12_customers_58 : decode cX12_customers 58 = .ok (.getfield 41, 3) := by decide +kernel
theorem dX12_customers_61 : decode cX12_customers 61 = .ok (.iload_n 1, 1) := by decide +kernel
theorem dX12_customers_62 : decode cX12_customers 62 = .ok (.baload, 1) := by decide +kernel
theorem dX12_customers_63 : decode cX12_customers 63 = .ok (.ifCond .ne 6, 3) := by decide +kernel
theorem dX12_customers_66 : decode cX12_customers 66 = .ok (.bipush (-11), 2) := by decide +kernel
theorem dX12_customers_68 : decode cX12_customers 68 = .ok (.ireturn, 1) := by decide +kernel
theorem dX12_customers_69 : decode cX12_customers 69 = .ok (.iconst 0, 1) := by decide +kernel
theorem dX12_customers_70 : decode cX12_customers 70 = .ok (.istore 5, 2) := by decide +kernel
theorem dX12_customers_72 : decode cX12_customers 72 = .ok (.iconst 0, 1) := by decide +kernel
theorem dX12_customers_73 : decode cX12_customers 73 = .ok (.istore 6, 2) := by decide +kernel
theorem dX12_customers_75 : decode cX12_customers 75 = .ok (.iload 6, 2) := by decide +kernel
theorem dX12_customers_77 : decode cX12_customers 77 = .ok (.iload 4, 2) := by decide +kernel
theorem dX12_customers_79 : decode cX12_customers 79 = .ok (.if_icmp .ge 88, 3) := by decide +kernel
theorem dX12_customers_82 : decode cX12_customers 82 = .ok (.iload_n 3, 1) := by decide +kernel
theorem dX12_customers_83 : decode cX12_customers 83 = .ok (.ifCond .lt 20, 3) := by decide +kernel
theorem dX12_customers_86 : decode cX12_customers 86 = .ok (.iload_n 3, 1) := by decide +kernel
theorem dX12_customers_87 : decode cX12_customers 87 = .ok (.aload_n 0, 1) := by decide +kernel
theorem dX12_customers_88 : decode cX12_customers 88 = .ok (.getfield 48, 3) := by decide +kernel
theorem dX12_customers_91 : decode cX12_customers 91 = .ok (.iload_n 1, 1) := by decide +kernel
theorem dX12_customers_92 : decode cX12_customers 92 = .ok (.iaload, 1) := by decide +kernel
theorem dX12_customers_93 : decode cX12_customers 93 = .ok (.iconst 3, 1) := by decide +kernel
theorem dX12_customers_94 : decode cX12_customers 94 = .ok (.iload 6, 2) := by decide +kernel
theorem dX12_customers_96 : decode cX12_customers 96 = .ok (.imul, 1) := by decide +kernel
theorem dX12_customers_97 : decode cX12_customers 97 = .ok (.isub, 1) := by decide +kernel
theorem dX12_customers_98 : decode cX12_customers 98 = .ok (.iconst 3, 1) := by decide +kernel
theorem dX12_customers_99 : decode cX12_customers 99 = .ok (.isub, 1) := by decide +kernel
theorem dX12_customers_100 : decode cX12_customers 100 = .ok (.if_icmp .le 6, 3) := by decide +kernel
theorem dX12_customers_103 : decode cX12_customers 103 = .ok (.bipush (-12), 2) := by decide +kernel
theorem dX12_customers_105 : decode cX12_customers 105 = .ok (.ireturn, 1) := by decide +kernel
theorem dX12_customers_106 : decode cX12_customers 106 = .ok (.bipush 40, 2) := by decide +kernel
theorem dX12_customers_108 : decode cX12_customers 108 = .ok (.iload_n 1, 1) := by decide +kernel
theorem dX12_customers_109 : decode cX12_customers 109 = .ok (.imul, 1) := by decide +kernel
theorem dX12_customers_110 : decode cX12_customers 110 = .ok (.iload_n 3, 1) := by decide +kernel
theorem dX12_customers_111 : decode cX12_customers 111 = .ok (.iadd, 1) := by decide +kernel
theorem dX12_customers_112 : decode cX12_customers 112 = .ok (.iconst 3, 1) := by decide +kernel
theorem dX12_customers_113 : decode cX12_customers 113 = .ok (.iload 6, 2) := by decide +kernel
theorem dX12_customers_115 : decode cX12_customers 115 = .ok (.imul, 1) := by decide +kernel
theorem dX12_customers_116 : decode cX12_customers 116 = .ok (.iadd, 1) := by decide +kernel
theorem dX12_customers_117 : decode cX12_customers 117 = .ok (.istore 7, 2) := by decide +kernel
theorem dX12_customers_119 : decode cX12_customers 119 = .ok (.iload 5, 2) := by decide +kernel
theorem dX12_customers_121 : decode cX12_customers 121 = .ok (.aload_n 0, 1) := by decide +kernel
theorem dX12_customers_122 : decode cX12_customers 122 = .ok (.aload_n 0, 1) := by decide +kernel
theorem dX12_customers_123 : decode cX12_customers 123 = .ok (.getfield 51, 3) := by decide +kernel
theorem dX12_customers_126 : decode cX12_customers 126 = .ok (.iload 7, 2) := by decide +kernel
theorem dX12_customers_128 : decode cX12_customers 128 = .ok (.iaload, 1) := by decide +kernel
theorem dX12_customers_129 : decode cX12_customers 129 = .ok (.aload_n 0, 1) := by decide +kernel
theorem dX12_customers_130 : decode cX12_customers 130 = .ok (.getfield 51, 3) := by decide +kernel
theorem dX12_customers_133 : decode cX12_customers 133 = .ok (.iload 7, 2) := by decide +kernel
theorem dX12_customers_135 : decode cX12_customers 135 = .ok (.iconst 1, 1) := by decide +kernel
theorem dX12_customers_136 : decode cX12_customers 136 = .ok (.iadd, 1) := by decide +kernel
theorem dX12_customers_137 : decode cX12_customers 137 = .ok (.iaload, 1) := by decide +kernel
theorem dX12_customers_138 : decode cX12_customers 138 = .ok (.aload_n 0, 1) := by decide +kernel
theorem dX12_customers_139 : decode cX12_customers 139 = .ok (.getfield 51, 3) := by decide +kernel
theorem dX12_customers_142 : decode cX12_customers 142 = .ok (.iload 7, 2) := by decide +kernel
theorem dX12_customers_144 : decode cX12_customers 144 = .ok (.iconst 2, 1) := by decide +kernel
theorem dX12_customers_145 : decode cX12_customers 145 = .ok (.iadd, 1) := by decide +kernel
theorem dX12_customers_146 : decode cX12_customers 146 = .ok (.iaload, 1) := by decide +kernel
theorem dX12_customers_147 : decode cX12_customers 147 = .ok (.invokevirtual 385, 3) := by decide +kernel
theorem dX12_customers_150 : decode cX12_customers 150 = .ok (.ifCond .lt 7, 3) := by decide +kernel
theorem dX12_customers_153 : decode cX12_customers 153 = .ok (.iconst 1, 1) := by decide +kernel
theorem dX12_customers_154 : decode cX12_customers 154 = .ok (.goto 4, 3) := by decide +kernel
theorem dX12_customers_157 : decode cX12_customers 157 = .ok (.iconst 0, 1) := by decide +kernel
theorem dX12_customers_158 : decode cX12_customers 158 = .ok (.iadd, 1) := by decide +kernel
theorem dX12_customers_159 : decode cX12_customers 159 = .ok (.istore 5, 2) := by decide +kernel
theorem dX12_customers_161 : decode cX12_customers 161 = .ok (.iinc 6 1, 3) := by decide +kernel
theorem dX12_customers_164 : decode cX12_customers 164 = .ok (.goto (-89), 3) := by decide +kernel
theorem dX12_customers_167 : decode cX12_customers 167 = .ok (.iload 5, 2) := by decide +kernel
theorem dX12_customers_169 : decode cX12_customers 169 = .ok (.ireturn, 1) := by decide +kernel
theorem dX12_over_0 : decode cX12_over 0 = .ok (.iload_n 0, 1) := by decide +kernel
theorem dX12_over_1 : decode cX12_over 1 = .ok (.ifCond .ne 7, 3) := by decide +kernel
theorem dX12_over_4 : decode cX12_over 4 = .ok (.iconst (-1), 1) := by decide +kernel
theorem dX12_over_5 : decode cX12_over 5 = .ok (.goto 22, 3) := by decide +kernel
theorem dX12_over_8 : decode cX12_over 8 = .ok (.iload_n 0, 1) := by decide +kernel
theorem dX12_over_9 : decode cX12_over 9 = .ok (.iconst 3, 1) := by decide +kernel
theorem dX12_over_10 : decode cX12_over 10 = .ok (.if_icmp .ne 7, 3) := by decide +kernel
theorem dX12_over_13 : decode cX12_over 13 = .ok (.iconst 1, 1) := by decide +kernel
theorem dX12_over_14 : decode cX12_over 14 = .ok (.goto 13, 3) := by decide +kernel
theorem dX12_over_17 : decode cX12_over 17 = .ok (.iload_n 0, 1) := by decide +kernel
theorem dX12_over_18 : decode cX12_over 18 = .ok (.iconst 4, 1) := by decide +kernel
theorem dX12_over_19 : decode cX12_over 19 = .ok (.if_icmp .ne 7, 3) := by decide +kernel
theorem dX12_over_22 : decode cX12_over 22 = .ok (.iconst 2, 1) := by decide +kernel
theorem dX12_over_23 : decode cX12_over 23 = .ok (.goto 4, 3) := by decide +kernel
theorem dX12_over_26 : decode cX12_over 26 = .ok (.iconst 0, 1) := by decide +kernel
theorem dX12_over_27 : decode cX12_over 27 = .ok (.ireturn, 1) := by decide +kernel
theorem dX12_taken_0 : decode cX12_taken 0 = .ok (.iload_n 2, 1) := by decide +kernel
theorem dX12_taken_1 : decode cX12_taken 1 = .ok (.i2l, 1) := by decide +kernel
theorem dX12_taken_2 : decode cX12_taken 2 = .ok (.lconst 0, 1) := by decide +kernel
theorem dX12_taken_3 : decode cX12_taken 3 = .ok (.ldc2_w 92, 3) := by decide +kernel
theorem dX12_taken_6 : decode cX12_taken 6 = .ok (.invokestatic 64, 3) := by decide +kernel
theorem dX12_taken_9 : decode cX12_taken 9 = .ok (.ifCond .ne 6, 3) := by decide +kernel
theorem dX12_taken_12 : decode cX12_taken 12 = .ok (.bipush (-2), 2) := by decide +kernel
theorem dX12_taken_14 : decode cX12_taken 14 = .ok (.ireturn, 1) := by decide +kernel
theorem dX12_taken_15 : decode cX12_taken 15 = .ok (.aload_n 0, 1) := by decide +kernel
theorem dX12_taken_16 : decode cX12_taken 16 = .ok (.iload_n 1, 1) := by decide +kernel
theorem dX12_taken_17 : decode cX12_taken 17 = .ok (.invokevirtual 70, 3) := by decide +kernel
theorem dX12_taken_20 : decode cX12_taken 20 = .ok (.ifCond .ne 6, 3) := by decide +kernel
theorem dX12_taken_23 : decode cX12_taken 23 = .ok (.bipush (-11), 2) := by decide +kernel
theorem dX12_taken_25 : decode cX12_taken 25 = .ok (.ireturn, 1) := by decide +kernel
theorem dX12_taken_26 : decode cX12_taken 26 = .ok (.aload_n 0, 1) := by decide +kernel
theorem dX12_taken_27 : decode cX12_taken 27 = .ok (.getfield 26, 3) := by decide +kernel
theorem dX12_taken_30 : decode cX12_taken 30 = .ok (.iload_n 1, 1) := by decide +kernel
theorem dX12_taken_31 : decode cX12_taken 31 = .ok (.iaload, 1) := by decide +kernel
theorem dX12_taken_32 : decode cX12_taken 32 = .ok (.istore_n 3, 1) := by decide +kernel
theorem dX12_taken_33 : decode cX12_taken 33 = .ok (.iload_n 3, 1) := by decide +kernel
theorem dX12_taken_34 : decode cX12_taken 34 = .ok (.iconst (-1), 1) := by decide +kernel
theorem dX12_taken_35 : decode cX12_taken 35 = .ok (.if_icmp .eq 16, 3) := by decide +kernel
theorem dX12_taken_38 : decode cX12_taken 38 = .ok (.iload_n 3, 1) := by decide +kernel
theorem dX12_taken_39 : decode cX12_taken 39 = .ok (.iload_n 2, 1) := by decide +kernel
theorem dX12_taken_40 : decode cX12_taken 40 = .ok (.if_icmp .eq 11, 3) := by decide +kernel
theorem dX12_taken_43 : decode cX12_taken 43 = .ok (.iload_n 3, 1) := by decide +kernel
theorem dX12_taken_44 : decode cX12_taken 44 = .ok (.invokestatic 388, 3) := by decide +kernel
theorem dX12_taken_47 : decode cX12_taken 47 = .ok (.istore_n 3, 1) := by decide +kernel
theorem dX12_taken_48 : decode cX12_taken 48 = .ok (.goto (-15), 3) := by decide +kernel
theorem dX12_taken_51 : decode cX12_taken 51 = .ok (.iload_n 3, 1) := by decide +kernel
theorem dX12_taken_52 : decode cX12_taken 52 = .ok (.iload_n 2, 1) := by decide +kernel
theorem dX12_taken_53 : decode cX12_taken 53 = .ok (.if_icmp .ne 14, 3) := by decide +kernel
theorem dX12_taken_56 : decode cX12_taken 56 = .ok (.aload_n 0, 1) := by decide +kernel
theorem dX12_taken_57 : decode cX12_taken 57 = .ok (.getfield 29, 3) := by decide +kernel
theorem dX12_taken_60 : decode cX12_taken 60 = .ok (.iconst 4, 1) := by decide +kernel
theorem dX12_taken_61 : decode cX12_taken 61 = .ok (.iload_n 1, 1) := by decide +kernel
theorem dX12_taken_62 : decode cX12_taken 62 = .ok (.imul, 1) := by decide +kernel
theorem dX12_taken_63 : decode cX12_taken 63 = .ok (.iaload, 1) := by decide +kernel
theorem dX12_taken_64 : decode cX12_taken 64 = .ok (.goto 5, 3) := by decide +kernel
theorem dX12_taken_67 : decode cX12_taken 67 = .ok (.bipush (-13), 2) := by decide +kernel
theorem dX12_taken_69 : decode cX12_taken 69 = .ok (.ireturn, 1) := by decide +kernel
