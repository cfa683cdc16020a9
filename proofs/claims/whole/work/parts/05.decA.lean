theorem dX0_init_0 : decode cX0_init 0 = .ok (.aload_n 0, 1) := by decide +kernel
theorem dX0_init_1 : decode cX0_init 1 = .ok (.invokespecial 3, 3) := by decide +kernel
theorem dX0_init_4 : decode cX0_init 4 = .ok (.return_, 1) := by decide +kernel
theorem dX0_begin_0 : decode cX0_begin 0 = .ok (.aload_n 0, 1) := by decide +kernel
theorem dX0_begin_1 : decode cX0_begin 1 = .ok (.iconst 0, 1) := by decide +kernel
theorem dX0_begin_2 : decode cX0_begin 2 = .ok (.putfield 9, 3) := by decide +kernel
theorem dX0_begin_5 : decode cX0_begin 5 = .ok (.aload_n 0, 1) := by decide +kernel
theorem dX0_begin_6 : decode cX0_begin 6 = .ok (.iconst (-1), 1) := by decide +kernel
theorem dX0_begin_7 : decode cX0_begin 7 = .ok (.putfield 15, 3) := by decide +kernel
theorem dX0_begin_10 : decode cX0_begin 10 = .ok (.aload_n 0, 1) := by decide +kernel
theorem dX0_begin_11 : decode cX0_begin 11 = .ok (.iconst 0, 1) := by decide +kernel
theorem dX0_begin_12 : decode cX0_begin 12 = .ok (.putfield 19, 3) := by decide +kernel
theorem dX0_begin_15 : decode cX0_begin 15 = .ok (.return_, 1) := by decide +kernel
theorem dX0_beginWith_0 : decode cX0_beginWith 0 = .ok (.aload_n 0, 1) := by decide +kernel
theorem dX0_beginWith_1 : decode cX0_beginWith 1 = .ok (.iconst 1, 1) := by decide +kernel
theorem dX0_beginWith_2 : decode cX0_beginWith 2 = .ok (.putfield 9, 3) := by decide +kernel
theorem dX0_beginWith_5 : decode cX0_beginWith 5 = .ok (.aload_n 0, 1) := by decide +kernel
theorem dX0_beginWith_6 : decode cX0_beginWith 6 = .ok (.iload_n 1, 1) := by decide +kernel
theorem dX0_beginWith_7 : decode cX0_beginWith 7 = .ok (.putfield 15, 3) := by decide +kernel
theorem dX0_beginWith_10 : decode cX0_beginWith 10 = .ok (.aload_n 0, 1) := by decide +kernel
theorem dX0_beginWith_11 : decode cX0_beginWith 11 = .ok (.iload_n 2, 1) := by decide +kernel
theorem dX0_beginWith_12 : decode cX0_beginWith 12 = .ok (.putfield 19, 3) := by decide +kernel
theorem dX0_beginWith_15 : decode cX0_beginWith 15 = .ok (.return_, 1) := by decide +kernel
theorem dX0_offer_0 : decode cX0_offer 0 = .ok (.aload_n 0, 1) := by decide +kernel
theorem dX0_offer_1 : decode cX0_offer 1 = .ok (.getfield 9, 3) := by decide +kernel
theorem dX0_offer_4 : decode cX0_offer 4 = .ok (.ifCond .eq 11, 3) := by decide +kernel
theorem dX0_offer_7 : decode cX0_offer 7 = .ok (.iload_n 2, 1) := by decide +kernel
theorem dX0_offer_8 : decode cX0_offer 8 = .ok (.aload_n 0, 1) := by decide +kernel
theorem dX0_offer_9 : decode cX0_offer 9 = .ok (.getfield 19, 3) := by decide +kernel
theorem dX0_offer_12 : decode cX0_offer 12 = .ok (.if_icmp .le 9, 3) := by decide +kernel
theorem dX0_offer_15 : decode cX0_offer 15 = .ok (.aload_n 0, 1) := by decide +kernel
theorem dX0_offer_16 : decode cX0_offer 16 = .ok (.iload_n 1, 1) := by decide +kernel
theorem dX0_offer_17 : decode cX0_offer 17 = .ok (.iload_n 2, 1) := by decide +kernel
theorem dX0_offer_18 : decode cX0_offer 18 = .ok (.invokevirtual 22, 3) := by decide +kernel
theorem dX0_offer_21 : decode cX0_offer 21 = .ok (.return_, 1) := by decide +kernel
theorem dX0_answer_0 : decode cX0_answer 0 = .ok (.iload_n 1, 1) := by decide +kernel
theorem dX0_answer_1 : decode cX0_answer 1 = .ok (.ifCond .ne 10, 3) := by decide +kernel
theorem dX0_answer_4 : decode cX0_answer 4 = .ok (.aload_n 0, 1) := by decide +kernel
theorem dX0_answer_5 : decode cX0_answer 5 = .ok (.getfield 15, 3) := by decide +kernel
theorem dX0_answer_8 : decode cX0_answer 8 = .ok (.goto 7, 3) := by decide +kernel
theorem dX0_answer_11 : decode cX0_answer 11 = .ok (.aload_n 0, 1) := by decide +kernel
theorem dX0_answer_12 : decode cX0_answer 12 = .ok (.getfield 19, 3) := by decide +kernel
theorem dX0_answer_15 : decode cX0_answer 15 = .ok (.ireturn, 1) := by decide +kernel
theorem dX1_init_0 : decode cX1_init 0 = .ok (.aload_n 0, 1) := by decide +kernel
theorem dX1_init_1 : decode cX1_init 1 = .ok (.invokespecial 3, 3) := by decide +kernel
theorem dX1_init_4 : decode cX1_init 4 = .ok (.return_, 1) := by decide +kernel
theorem dX1_come_0 : decode cX1_come 0 = .ok (.aload_n 0, 1) := by decide +kernel
theorem dX1_come_1 : decode cX1_come 1 = .ok (.iload_n 1, 1) := by decide +kernel
theorem dX1_come_2 : decode cX1_come 2 = .ok (.putfield 9, 3) := by decide +kernel
theorem dX1_come_5 : decode cX1_come 5 = .ok (.aload_n 0, 1) := by decide +kernel
theorem dX1_come_6 : decode cX1_come 6 = .ok (.iload_n 2, 1) := by decide +kernel
theorem dX1_come_7 : decode cX1_come 7 = .ok (.putfield 15, 3) := by decide +kernel
theorem dX1_come_10 : decode cX1_come 10 = .ok (.aload_n 0, 1) := by decide +kernel
theorem dX1_come_11 : decode cX1_come 11 = .ok (.iload_n 3, 1) := by decide +kernel
theorem dX1_come_12 : decode cX1_come 12 = .ok (.putfield 18, 3) := by decide +kernel
theorem dX1_come_15 : decode cX1_come 15 = .ok (.aload_n 0, 1) := by decide +kernel
theorem dX1_come_16 : decode cX1_come 16 = .ok (.bipush 20, 2) := by decide +kernel
theorem dX1_come_18 : decode cX1_come 18 = .ok (.putfield 21, 3) := by decide +kernel
theorem dX1_come_21 : decode cX1_come 21 = .ok (.aload_n 0, 1) := by decide +kernel
theorem dX1_come_22 : decode cX1_come 22 = .ok (.iconst 0, 1) := by decide +kernel
theorem dX1_come_23 : decode cX1_come 23 = .ok (.putfield 24, 3) := by decide +kernel
theorem dX1_come_26 : decode cX1_come 26 = .ok (.return_, 1) := by decide +kernel
theorem dX1_become_0 : decode cX1_become 0 = .ok (.aload_n 0, 1) := by decide +kernel
theorem dX1_become_1 : decode cX1_become 1 = .ok (.aload_n 1, 1) := by decide +kernel
theorem dX1_become_2 : decode cX1_become 2 = .ok (.getfield 9, 3) := by decide +kernel
theorem dX1_become_5 : decode cX1_become 5 = .ok (.putfield 9, 3) := by decide +kernel
theorem dX1_become_8 : decode cX1_become 8 = .ok (.aload_n 0, 1) := by decide +kernel
theorem dX1_become_9 : decode cX1_become 9 = .ok (.aload_n 1, 1) := by decide +kernel
theorem dX1_become_10 : decode cX1_become 10 = .ok (.getfield 15, 3) := by decide +kernel
theorem dX1_become_13 : decode cX1_become 13 = .ok (.putfield 15, 3) := by decide +kernel
theorem dX1_become_16 : decode cX1_become 16 = .ok (.aload_n 0, 1) := by decide +kernel
theorem dX1_become_17 : decode cX1_become 17 = .ok (.aload_n 1, 1) := by decide +kernel
theorem dX1_become_18 : decode cX1_become 18 = .ok (.getfield 18, 3) := by decide +kernel
theorem dX1_become_21 : decode cX1_become 21 = .ok (.putfield 18, 3) := by decide +kernel
theorem dX1_become_24 : decode cX1_become 24 = .ok (.aload_n 0, 1) := by decide +kernel
theorem dX1_become_25 : decode cX1_become 25 = .ok (.aload_n 1, 1) := by decide +kernel
theorem dX1_become_26 : decode cX1_become 26 = .ok (.getfield 21, 3) := by decide +kernel
theorem dX1_become_29 : decode cX1_become 29 = .ok (.putfield 21, 3) := by decide +kernel
theorem dX1_become_32 : decode cX1_become 32 = .ok (.aload_n 0, 1) := by decide +kernel
theorem dX1_become_33 : decode cX1_become 33 = .ok (.aload_n 1, 1) := by decide +kernel
theorem dX1_become_34 : decode cX1_become 34 = .ok (.getfield 24, 3) := by decide +kernel
theorem dX1_become_37 : decode cX1_become 37 = .ok (.putfield 24, 3) := by decide +kernel
theorem dX1_become_40 : decode cX1_become 40 = .ok (.return_, 1) := by decide +kernel
theorem dX1_reading_0 : decode cX1_reading 0 = .ok (.iload_n 1, 1) := by decide +kernel
theorem dX1_reading_1 : decode cX1_reading 1 = .ok (.tableswitch 51 5 8 #[31, 36, 41, 46], 31) := by decide +kernel
theorem dX1_reading_32 : decode cX1_reading 32 = .ok (.aload_n 0, 1) := by decide +kernel
theorem dX1_reading_33 : decode cX1_reading 33 = .ok (.getfield 15, 3) := by decide +kernel
theorem dX1_reading_36 : decode cX1_reading 36 = .ok (.ireturn, 1) := by decide +kernel
theorem dX1_reading_37 : decode cX1_reading 37 = .ok (.aload_n 0, 1) := by decide +kernel
theorem dX1_reading_38 : decode cX1_reading 38 = .ok (.getfield 18, 3) := by decide +kernel
theorem dX1_reading_41 : decode cX1_reading 41 = .ok (.ireturn, 1) := by decide +kernel
theorem dX1_reading_42 : decode cX1_reading 42 = .ok (.aload_n 0, 1) := by decide +kernel
theorem dX1_reading_43 : decode cX1_reading 43 = .ok (.getfield 21, 3) := by decide +kernel
theorem dX1_reading_46 : decode cX1_reading 46 = .ok (.ireturn, 1) := by decide +kernel
theorem dX1_reading_47 : decode cX1_reading 47 = .ok (.aload_n 0, 1) := by decide +kernel
theorem dX1_reading_48 : decode cX1_reading 48 = .ok (.getfield 9, 3) := by decide +kernel
theorem dX1_reading_51 : decode cX1_reading 51 = .ok (.ireturn, 1) := by decide +kernel
theorem dX1_reading_52 : decode cX1_reading 52 = .ok (.aload_n 0, 1) := by decide +kernel
theorem dX1_reading_53 : decode cX1_reading 53 = .ok (.getfield 24, 3) := by decide +kernel
theorem dX1_reading_56 : decode cX1_reading 56 = .ok (.ireturn, 1) := by decide +kernel
theorem dX1_lay_0 : decode cX1_lay 0 = .ok (.iload_n 1, 1) := by decide +kernel
theorem dX1_lay_1 : decode cX1_lay 1 = .ok (.tableswitch 51 5 7 #[27, 35, 43], 27) := by decide +kernel
theorem dX1_lay_28 : decode cX1_lay 28 = .ok (.aload_n 0, 1) := by decide +kernel
theorem dX1_lay_29 : decode cX1_lay 29 = .ok (.iload_n 2, 1) := by decide +kernel
theorem dX1_lay_30 : decode cX1_lay 30 = .ok (.putfield 15, 3) := by decide +kernel
theorem dX1_lay_33 : decode cX1_lay 33 = .ok (.goto 19, 3) := by decide +kernel
theorem dX1_lay_36 : decode cX1_lay 36 = .ok (.aload_n 0, 1) := by decide +kernel
theorem dX1_lay_37 : decode cX1_lay 37 = .ok (.iload_n 2, 1) := by decide +kernel
theorem dX1_lay_38 : decode cX1_lay 38 = .ok (.putfield 18, 3) := by decide +kernel
theorem dX1_lay_41 : decode cX1_lay 41 = .ok (.goto 11, 3) := by decide +kernel
theorem dX1_lay_44 : decode cX1_lay 44 = .ok (.aload_n 0, 1) := by decide +kernel
theorem dX1_lay_45 : decode cX1_lay 45 = .ok (.iload_n 2, 1) := by decide +kernel
theorem dX1_lay_46 : decode cX1_lay 46 = .ok (.putfield 21, 3) := by decide +kernel
theorem dX1_lay_49 : decode cX1_lay 49 = .ok (.goto 3, 3) := by decide +kernel
theorem dX1_lay_52 : decode cX1_lay 52 = .ok (.return_, 1) := by decide +kernel
theorem dX2_init_0 : decode cX2_init 0 = .ok (.aload_n 0, 1) := by decide +kernel
theorem dX2_init_1 : decode cX2_init 1 = .ok (.invokespecial 1, 3) := by decide +kernel
theorem dX2_init_4 : decode cX2_init 4 = .ok (.aload_n 0, 1) := by decide +kernel
theorem dX2_init_5 : decode cX2_init 5 = .ok (.lconst 0, 1) := by decide +kernel
theorem dX2_init_6 : decode cX2_init 6 = .ok (.putfield 7, 3) := by decide +kernel
theorem dX2_init_9 : decode cX2_init 9 = .ok (.aload_n 0, 1) := by decide +kernel
theorem dX2_init_10 : decode cX2_init 10 = .ok (.lconst 1, 1) := by decide +kernel
theorem dX2_init_11 : decode cX2_init 11 = .ok (.putfield 13, 3) := by decide +kernel
theorem dX2_init_14 : decode cX2_init 14 = .ok (.return_, 1) := by decide +kernel
theorem dX2_lay_0 : decode cX2_lay 0 = .ok (.lload_n 1, 1) := by decide +kernel
theorem dX2_lay_1 : decode cX2_lay 1 = .ok (.lload_n 3, 1) := by decide +kernel
theorem dX2_lay_2 : decode cX2_lay 2 = .ok (.invokestatic 16, 3) := by decide +kernel
theorem dX2_lay_5 : decode cX2_lay 5 = .ok (.lstore 5, 2) := by decide +kernel
theorem dX2_lay_7 : decode cX2_lay 7 = .ok (.aload_n 0, 1) := by decide +kernel
theorem dX2_lay_8 : decode cX2_lay 8 = .ok (.lload 5, 2) := by decide +kernel
theorem dX2_lay_10 : decode cX2_lay 10 = .ok (.lconst 0, 1) := by decide +kernel
theorem dX2_lay_11 : decode cX2_lay 11 = .ok (.lcmp, 1) := by decide +kernel
theorem dX2_lay_12 : decode cX2_lay 12 = .ok (.ifCond .le 10, 3) := by decide +kernel
theorem dX2_lay_15 : decode cX2_lay 15 = .ok (.lload_n 1, 1) := by decide +kernel
theorem dX2_lay_16 : decode cX2_lay 16 = .ok (.lload 5, 2) := by decide +kernel
theorem dX2_lay_18 : decode cX2_lay 18 = .ok (.ldiv, 1) := by decide +kernel
theorem dX2_lay_19 : decode cX2_lay 19 = .ok (.goto 4, 3) := by decide +kernel
theorem dX2_lay_22 : decode cX2_lay 22 = .ok (.lload_n 1, 1) := by decide +kernel
theorem dX2_lay_23 : decode cX2_lay 23 = .ok (.putfield 7, 3) := by decide +kernel
theorem dX2_lay_26 : decode cX2_lay 26 = .ok (.aload_n 0, 1) := by decide +kernel
theorem dX2_lay_27 : decode cX2_lay 27 = .ok (.lload 5, 2) := by decide +kernel
theorem dX2_lay_29 : decode cX2_lay 29 = .ok (.lconst 0, 1) := by decide +kernel
theorem dX2_lay_30 : decode cX2_lay 30 = .ok (.lcmp, 1) := by decide +kernel
theorem dX2_lay_31 : decode cX2_lay 31 = .ok (.ifCond .le 10, 3) := by decide +kernel
theorem dX2_lay_34 : decode cX2_lay 34 = .ok (.lload_n 3, 1) := by decide +kernel
theorem dX2_lay_35 : decode cX2_lay 35 = .ok (.lload 5, 2) := by decide +kernel
theorem dX2_lay_37 : decode cX2_lay 37 = .ok (.ldiv, 1) := by decide +kernel
theorem dX2_lay_38 : decode cX2_lay 38 = .ok (.goto 4, 3) := by decide +kernel
theorem dX2_lay_41 : decode cX2_lay 41 = .ok (.lload_n 3, 1) := by decide +kernel
theorem dX2_lay_42 : decode cX2_lay 42 = .ok (.putfield 13, 3) := by decide +kernel
theorem dX2_lay_45 : decode cX2_lay 45 = .ok (.return_, 1) := by decide +kernel
theorem dX2_plus_0 : decode cX2_plus 0 = .ok (.aload_n 0, 1) := by decide +kernel
theorem dX2_plus_1 : decode cX2_plus 1 = .ok (.aload_n 0, 1) := by decide +kernel
theorem dX2_plus_2 : decode cX2_plus 2 = .ok (.getfield 7, 3) := by decide +kernel
theorem dX2_plus_5 : decode cX2_plus 5 = .ok (.lload_n 3, 1) := by decide +kernel
theorem dX2_plus_6 : decode cX2_plus 6 = .ok (.lmul, 1) := by decide +kernel
theorem dX2_plus_7 : decode cX2_plus 7 = .ok (.lload_n 1, 1) := by decide +kernel
theorem dX2_plus_8 : decode cX2_plus 8 = .ok (.aload_n 0, 1) := by decide +kernel
theorem dX2_plus_9 : decode cX2_plus 9 = .ok (.getfield 13, 3) := by decide +kernel
theorem dX2_plus_12 : decode cX2_plus 12 = .ok (.lmul, 1) := by decide +kernel
theorem dX2_plus_13 : decode cX2_plus 13 = .ok (.ladd, 1) := by decide +kernel
theorem dX2_plus_14 : decode cX2_plus 14 = .ok (.aload_n 0, 1) := by decide +kernel
theorem dX2_plus_15 : decode cX2_plus 15 = .ok (.getfield 13, 3) := by decide +kernel
theorem dX2_plus_18 : decode cX2_plus 18 = .ok (.lload_n 3, 1) := by decide +kernel
theorem dX2_plus_19 : decode cX2_plus 19 = .ok (.lmul, 1) := by decide +kernel
theorem dX2_plus_20 : decode cX2_plus 20 = .ok (.invokevirtual 20, 3) := by decide +kernel
theorem dX2_plus_23 : decode cX2_plus 23 = .ok (.return_, 1) := by decide +kernel
theorem dX2_times_0 : decode cX2_times 0 = .ok (.aload_n 0, 1) := by decide +kernel
theorem dX2_times_1 : decode cX2_times 1 = .ok (.aload_n 0, 1) := by decide +kernel
theorem dX2_times_2 : decode cX2_times 2 = .ok (.getfield 7, 3) := by decide +kernel
theorem dX2_times_5 : decode cX2_times 5 = .ok (.lload_n 1, 1) := by decide +kernel
theorem dX2_times_6 : decode cX2_times 6 = .ok (.lmul, 1) := by decide +kernel
theorem dX2_times_7 : decode cX2_times 7 = .ok (.aload_n 0, 1) := by decide +kernel
theorem dX2_times_8 : decode cX2_times 8 = .ok (.getfield 13, 3) := by decide +kernel
theorem dX2_times_11 : decode cX2_times 11 = .ok (.lload_n 3, 1) := by decide +kernel
theorem dX2_times_12 : decode cX2_times 12 = .ok (.lmul, 1) := by decide +kernel
theorem dX2_times_13 : decode cX2_times 13 = .ok (.invokevirtual 20, 3) := by decide +kernel
theorem dX2_times_16 : decode cX2_times 16 = .ok (.return_, 1) := by decide +kernel
theorem dX2_part_0 : decode cX2_part 0 = .ok (.iload_n 1, 1) := by decide +kernel
theorem dX2_part_1 : decode cX2_part 1 = .ok (.ifCond .ne 10, 3) := by decide +kernel
theorem dX2_part_4 : decode cX2_part 4 = .ok (.aload_n 0, 1) := by decide +kernel
theorem dX2_part_5 : decode cX2_part 5 = .ok (.getfield 7, 3) := by decide +kernel
theorem dX2_part_8 : decode cX2_part 8 = .ok (.goto 7, 3) := by decide +kernel
theorem dX2_part_11 : decode cX2_part 11 = .ok (.aload_n 0, 1) := by decide +kernel
theorem dX2_part_12 : decode cX2_part 12 = .ok (.getfield 13, 3) := by decide +kernel
theorem dX2_part_15 : decode cX2_part 15 = .ok (.lreturn, 1) := by decide +kernel
theorem dX2_commonOf_0 : decode cX2_commonOf 0 = .ok (.lload_n 0, 1) := by decide +kernel
theorem dX2_commonOf_1 : decode cX2_commonOf 1 = .ok (.lstore 4, 2) := by decide +kernel
theorem dX2_commonOf_3 : decode cX2_commonOf 3 = .ok (.lload_n 2, 1) := by decide +kernel
theorem dX2_commonOf_4 : decode cX2_commonOf 4 = .ok (.lstore 6, 2) := by decide +kernel
theorem dX2_commonOf_6 : decode cX2_commonOf 6 = .ok (.iconst 0, 1) := by decide +kernel
theorem dX2_commonOf_7 : decode cX2_commonOf 7 = .ok (.istore 8, 2) := by decide +kernel
theorem dX2_commonOf_9 : decode cX2_commonOf 9 = .ok (.iload 8, 2) := by decide +kernel
theorem dX2_commonOf_11 : decode cX2_commonOf 11 = .ok (.sipush 200, 3) := by decide +kernel
theorem dX2_commonOf_14 : decode cX2_commonOf 14 = .ok (.if_icmp .ge 31, 3) := by decide +kernel
theorem dX2_commonOf_17 : decode cX2_commonOf 17 = .ok (.lload 6, 2) := by decide +kernel
theorem dX2_commonOf_19 : decode cX2_commonOf 19 = .ok (.lconst 0, 1) := by decide +kernel
theorem dX2_commonOf_20 : decode cX2_commonOf 20 = .ok (.lcmp, 1) := by decide +kernel
theorem dX2_commonOf_21 : decode cX2_commonOf 21 = .ok (.ifCond .eq 24, 3) := by decide +kernel
theorem dX2_commonOf_24 : decode cX2_commonOf 24 = .ok (.lload 4, 2) := by decide +kernel
theorem dX2_commonOf_26 : decode cX2_commonOf 26 = .ok (.lload 6, 2) := by decide +kernel
theorem dX2_commonOf_28 : decode cX2_commonOf 28 = .ok (.lrem, 1) := by decide +kernel
theorem dX2_commonOf_29 : decode cX2_commonOf 29 = .ok (.lstore 9, 2) := by decide +kernel
theorem dX2_commonOf_31 : decode cX2_commonOf 31 = .ok (.lload 6, 2) := by decide +kernel
theorem dX2_commonOf_33 : decode cX2_commonOf 33 = .ok (.lstore 4, 2) := by decide +kernel
theorem dX2_commonOf_35 : decode cX2_commonOf 35 = .ok (.lload 9, 2) := by decide +kernel
theorem dX2_commonOf_37 : decode cX2_commonOf 37 = .ok (.lstore 6, 2) := by decide +kernel
theorem dX2_commonOf_39 : decode cX2_commonOf 39 = .ok (.iinc 8 1, 3) := by decide +kernel
theorem dX2_commonOf_42 : decode cX2_commonOf 42 = .ok (.goto (-33), 3) := by decide +kernel
theorem dX2_commonOf_45 : decode cX2_commonOf 45 = .ok (.lload 4, 2) := by decide +kernel
theorem dX2_commonOf_47 : decode cX2_commonOf 47 = .ok (.lreturn, 1) := by decide +kernel
theorem dX3_init_0 : decode cX3_init 0 = .ok (.aload_n 0, 1) := by decide +kernel
theorem dX3_init_1 : decode cX3_init 1 = .ok (.invokespecial 3, 3) := by decide +kernel
theorem dX3_init_4 : decode cX3_init 4 = .ok (.aload_n 0, 1) := by decide +kernel
theorem dX3_init_5 : decode cX3_init 5 = .ok (.new 9, 3) := by decide +kernel
theorem dX3_init_8 : decode cX3_init 8 = .ok (.dup, 1) := by decide +kernel
theorem dX3_init_9 : decode cX3_init 9 = .ok (.invokespecial 11, 3) := by decide +kernel
theorem dX3_init_12 : decode cX3_init 12 = .ok (.putfield 12, 3) := by decide +kernel
theorem dX3_init_15 : decode cX3_init 15 = .ok (.aload_n 0, 1) := by decide +kernel
theorem dX3_init_16 : decode cX3_init 16 = .ok (.iconst 0, 1) := by decide +kernel
theorem dX3_init_17 : decode cX3_init 17 = .ok (.putfield 18, 3) := by decide +kernel
theorem dX3_init_20 : decode cX3_init 20 = .ok (.aload_n 0, 1) := by decide +kernel
theorem dX3_init_21 : decode cX3_init 21 = .ok (.iconst (-1), 1) := by decide +kernel
theorem dX3_init_22 : decode cX3_init 22 = .ok (.putfield 22, 3) := by decide +kernel
theorem dX3_init_25 : decode cX3_init 25 = .ok (.return_, 1) := by decide +kernel
theorem dX3_read_0 : decode cX3_read 0 = .ok (.aload_n 0, 1) := by decide +kernel
theorem dX3_read_1 : decode cX3_read 1 = .ok (.getfield 12, 3) := by decide +kernel
theorem dX3_read_4 : decode cX3_read 4 = .ok (.aload_n 1, 1) := by decide +kernel
theorem dX3_read_5 : decode cX3_read 5 = .ok (.invokevirtual 25, 3) := by decide +kernel
theorem dX3_read_8 : decode cX3_read 8 = .ok (.aload_n 0, 1) := by decide +kernel
theorem dX3_read_9 : decode cX3_read 9 = .ok (.iconst 0, 1) := by decide +kernel
theorem dX3_read_10 : decode cX3_read 10 = .ok (.putfield 18, 3) := by decide +kernel
theorem dX3_read_13 : decode cX3_read 13 = .ok (.aload_n 0, 1) := by decide +kernel
theorem dX3_read_14 : decode cX3_read 14 = .ok (.iconst (-1), 1) := by decide +kernel
theorem dX3_read_15 : decode cX3_read 15 = .ok (.putfield 22, 3) := by decide +kernel
theorem dX3_read_18 : decode cX3_read 18 = .ok (.aload_n 2, 1) := by decide +kernel
theorem dX3_read_19 : decode cX3_read 19 = .ok (.iconst 0, 1) := by decide +kernel
theorem dX3_read_20 : decode cX3_read 20 = .ok (.putfield 29, 3) := by decide +kernel
theorem dX3_read_23 : decode cX3_read 23 = .ok (.iconst 0, 1) := by decide +kernel
theorem dX3_read_24 : decode cX3_read 24 = .ok (.istore_n 3, 1) := by decide +kernel
theorem dX3_read_25 : decode cX3_read 25 = .ok (.iload_n 3, 1) := by decide +kernel
theorem dX3_read_26 : decode cX3_read 26 = .ok (.iconst 3, 1) := by decide +kernel
theorem dX3_read_27 : decode cX3_read 27 = .ok (.if_icmp .ge 35, 3) := by decide +kernel
theorem dX3_read_30 : decode cX3_read 30 = .ok (.aload_n 0, 1) := by decide +kernel
theorem dX3_read_31 : decode cX3_read 31 = .ok (.bipush 6, 2) := by decide +kernel
theorem dX3_read_33 : decode cX3_read 33 = .ok (.iload_n 3, 1) := by decide +kernel
theorem dX3_read_34 : decode cX3_read 34 = .ok (.iadd, 1) := by decide +kernel
theorem dX3_read_35 : decode cX3_read 35 = .ok (.invokevirtual 34, 3) := by decide +kernel
theorem dX3_read_38 : decode cX3_read 38 = .ok (.aload_n 0, 1) := by decide +kernel
theorem dX3_read_39 : decode cX3_read 39 = .ok (.aload_n 2, 1) := by decide +kernel
theorem dX3_read_40 : decode cX3_read 40 = .ok (.iconst 0, 1) := by decide +kernel
theorem dX3_read_41 : decode cX3_read 41 = .ok (.iconst 0, 1) := by decide +kernel
theorem dX3_read_42 : decode cX3_read 42 = .ok (.invokevirtual 38, 3) := by decide +kernel
theorem dX3_read_45 : decode cX3_read 45 = .ok (.aload_n 0, 1) := by decide +kernel
theorem dX3_read_46 : decode cX3_read 46 = .ok (.bipush 14, 2) := by decide +kernel
theorem dX3_read_48 : decode cX3_read 48 = .ok (.invokevirtual 34, 3) := by decide +kernel
theorem dX3_read_51 : decode cX3_read 51 = .ok (.aload_n 2, 1) := by decide +kernel
theorem dX3_read_52 : decode cX3_read 52 = .ok (.iload_n 3, 1) := by decide +kernel
theorem dX3_read_53 : decode cX3_read 53 = .ok (.invokevirtual 42, 3) := by decide +kernel
theorem dX3_read_56 : decode cX3_read 56 = .ok (.iinc 3 1, 3) := by decide +kernel
theorem dX3_read_59 : decode cX3_read 59 = .ok (.goto (-34), 3) := by decide +kernel
theorem dX3_read_62 : decode cX3_read 62 = .ok (.aload_n 0, 1) := by decide +kernel
theorem dX3_read_63 : decode cX3_read 63 = .ok (.bipush 21, 2) := by decide +kernel
theorem dX3_read_65 : decode cX3_read 65 = .ok (.invokevirtual 34, 3) := by decide +kernel
theorem dX3_read_68 : decode cX3_read 68 = .ok (.aload_n 0, 1) := by decide +kernel
theorem dX3_read_69 : decode cX3_read 69 = .ok (.getfield 22, 3) := by decide +kernel
theorem dX3_read_72 : decode cX3_read 72 = .ok (.ireturn, 1) := by decide +kernel
theorem dX3_fail_0 : decode cX3_fail 0 = .ok (.aload_n 0, 1) := by decide +kernel
theorem dX3_fail_1 : decode cX3_fail 1 = .ok (.getfield 22, 3) := by decide +kernel
theorem dX3_fail_4 : decode cX3_fail 4 = .ok (.iconst (-1), 1) := by decide +kernel
theorem dX3_fail_5 : decode cX3_fail 5 = .ok (.if_icmp .ne 18, 3) := by decide +kernel
theorem dX3_fail_8 : decode cX3_fail 8 = .ok (.aload_n 0, 1) := by decide +kernel
theorem dX3_fail_9 : decode cX3_fail 9 = .ok (.aload_n 0, 1) := by decide +kernel
theorem dX3_fail_10 : decode cX3_fail 10 = .ok (.getfield 12, 3) := by decide +kernel
theorem dX3_fail_13 : decode cX3_fail 13 = .ok (.aload_n 0, 1) := by decide +kernel
theorem dX3_fail_14 : decode cX3_fail 14 = .ok (.getfield 18, 3) := by decide +kernel
theorem dX3_fail_17 : decode cX3_fail 17 = .ok (.invokevirtual 45, 3) := by decide +kernel
theorem dX3_fail_20 : decode cX3_fail 20 = .ok (.putfield 22, 3) := by decide +kernel
theorem dX3_fail_23 : decode cX3_fail 23 = .ok (.return_, 1) := by decide +kernel
theorem dX3_pass_0 : decode cX3_pass 0 = .ok (.aload_n 0, 1) := by decide +kernel
theorem dX3_pass_1 : decode cX3_pass 1 = .ok (.getfield 22, 3) := by decide +kernel
theorem dX3_pass_4 : decode cX3_pass 4 = .ok (.iconst (-1), 1) := by decide +kernel
theorem dX3_pass_5 : decode cX3_pass 5 = .ok (.if_icmp .ne 31, 3) := by decide +kernel
theorem dX3_pass_8 : decode cX3_pass 8 = .ok (.aload_n 0, 1) := by decide +kernel
theorem dX3_pass_9 : decode cX3_pass 9 = .ok (.getfield 12, 3) := by decide +kernel
theorem dX3_pass_12 : decode cX3_pass 12 = .ok (.aload_n 0, 1) := by decide +kernel
theorem dX3_pass_13 : decode cX3_pass 13 = .ok (.getfield 18, 3) := by decide +kernel
theorem dX3_pass_16 : decode cX3_pass 16 = .ok (.invokevirtual 49, 3) := by decide +kernel
theorem dX3_pass_19 : decode cX3_pass 19 = .ok (.iload_n 1, 1) := by decide +kernel
theorem dX3_pass_20 : decode cX3_pass 20 = .ok (.if_icmp .ne 16, 3) := by decide +kernel
theorem dX3_pass_23 : decode cX3_pass 23 = .ok (.aload_n 0, 1) := by decide +kernel
theorem dX3_pass_24 : decode cX3_pass 24 = .ok (.dup, 1) := by decide +kernel
theorem dX3_pass_25 : decode cX3_pass 25 = .ok (.getfield 18, 3) := by decide +kernel
theorem dX3_pass_28 : decode cX3_pass 28 = .ok (.iconst 1, 1) := by decide +kernel
theorem dX3_pass_29 : decode cX3_pass 29 = .ok (.iadd, 1) := by decide +kernel
theorem dX3_pass_30 : decode cX3_pass 30 = .ok (.putfield 18, 3) := by decide +kernel
theorem dX3_pass_33 : decode cX3_pass 33 = .ok (.goto 7, 3) := by decide +kernel
theorem dX3_pass_36 : decode cX3_pass 36 = .ok (.aload_n 0, 1) := by decide +kernel
theorem dX3_pass_37 : decode cX3_pass 37 = .ok (.invokevirtual 52, 3) := by decide +kernel
theorem dX3_pass_40 : decode cX3_pass 40 = .ok (.return_, 1) := by decide +kernel
theorem dX3_readLevel_0 : decode cX3_readLevel 0 = .ok (.iload_n 2, 1) := by decide +kernel
theorem dX3_readLevel_1 : decode cX3_readLevel 1 = .ok (.iconst 4, 1) := by decide +kernel
theorem dX3_readLevel_2 : decode cX3_readLevel 2 = .ok (.if_icmp .le 10, 3) := by decide +kernel
theorem dX3_readLevel_5 : decode cX3_readLevel 5 = .ok (.aload_n 0, 1) := by decide +kernel
theorem dX3_readLevel_6 : decode cX3_readLevel 6 = .ok (.aload_n 1, 1) := by decide +kernel
theorem dX3_readLevel_7 : decode cX3_readLevel 7 = .ok (.iload_n 3, 1) := by decide +kernel
theorem dX3_readLevel_8 : decode cX3_readLevel 8 = .ok (.invokevirtual 55, 3) := by decide +kernel
theorem dX3_readLevel_11 : decode cX3_readLevel 11 = .ok (.return_, 1) := by decide +kernel
theorem dX3_readLevel_12 : decode cX3_readLevel 12 = .ok (.iload_n 2, 1) := by decide +kernel
theorem dX3_readLevel_13 : decode cX3_readLevel 13 = .ok (.iconst 2, 1) := by decide +kernel
theorem dX3_readLevel_14 : decode cX3_readLevel 14 = .ok (.if_icmp .ne 26, 3) := by decide +kernel
theorem dX3_readLevel_17 : decode cX3_readLevel 17 = .ok (.aload_n 0, 1) := by decide +kernel
theorem dX3_readLevel_18 : decode cX3_readLevel 18 = .ok (.getfield 12, 3) := by decide +kernel
theorem dX3_readLevel_21 : decode cX3_readLevel 21 = .ok (.aload_n 0, 1) := by decide +kernel
theorem dX3_readLevel_22 : decode cX3_readLevel 22 = .ok (.getfield 18, 3) := by decide +kernel
theorem dX3_readLevel_25 : decode cX3_readLevel 25 = .ok (.invokevirtual 49, 3) := by decide +kernel
theorem dX3_readLevel_28 : decode cX3_readLevel 28 = .ok (.bipush 11, 2) := by decide +kernel
theorem dX3_readLevel_30 : decode cX3_readLevel 30 = .ok (.if_icmp .ne 10, 3) := by decide +kernel
theorem dX3_readLevel_33 : decode cX3_readLevel 33 = .ok (.aload_n 0, 1) := by decide +kernel
theorem dX3_readLevel_34 : decode cX3_readLevel 34 = .ok (.aload_n 1, 1) := by decide +kernel
theorem dX3_readLevel_35 : decode cX3_readLevel 35 = .ok (.iload_n 3, 1) := by decide +kernel
theorem dX3_readLevel_36 : decode cX3_readLevel 36 = .ok (.invokevirtual 59, 3) := by decide +kernel
theorem dX3_readLevel_39 : decode cX3_readLevel 39 = .ok (.return_, 1) := by decide +kernel
theorem dX3_readLevel_40 : decode cX3_readLevel 40 = .ok (.aload_n 0, 1) := by decide +kernel
theorem dX3_readLevel_41 : decode cX3_readLevel 41 = .ok (.aload_n 1, 1) := by decide +kernel
theorem dX3_readLevel_42 : decode cX3_readLevel 42 = .ok (.iload_n 2, 1) := by decide +kernel
theorem dX3_readLevel_43 : decode cX3_readLevel 43 = .ok (.iconst 1, 1) := by decide +kernel
theorem dX3_readLevel_44 : decode cX3_readLevel 44 = .ok (.iadd, 1) := by decide +kernel
theorem dX3_readLevel_45 : decode cX3_readLevel 45 = .ok (.iload_n 3, 1) := by decide +kernel
theorem dX3_readLevel_46 : decode cX3_readLevel 46 = .ok (.invokevirtual 38, 3) := by decide +kernel
theorem dX3_readLevel_49 : decode cX3_readLevel 49 = .ok (.iconst 0, 1) := by decide +kernel
theorem dX3_readLevel_50 : decode cX3_readLevel 50 = .ok (.istore 4, 2) := by decide +kernel
theorem dX3_readLevel_52 : decode cX3_readLevel 52 = .ok (.iload 4, 2) := by decide +kernel
theorem dX3_readLevel_54 : decode cX3_readLevel 54 = .ok (.sipush 160, 3) := by decide +kernel
theorem dX3_readLevel_57 : decode cX3_readLevel 57 = .ok (.if_icmp .ge 71, 3) := by decide +kernel
theorem dX3_readLevel_60 : decode cX3_readLevel 60 = .ok (.aload_n 0, 1) := by decide +kernel
theorem dX3_readLevel_61 : decode cX3_readLevel 61 = .ok (.getfield 22, 3) := by decide +kernel
theorem dX3_readLevel_64 : decode cX3_readLevel 64 = .ok (.iconst (-1), 1) := by decide +kernel
theorem dX3_readLevel_65 : decode cX3_readLevel 65 = .ok (.if_icmp .ne 63, 3) := by decide +kernel
theorem dX3_readLevel_68 : decode cX3_readLevel 68 = .ok (.aload_n 0, 1) := by decide +kernel
theorem dX3_readLevel_69 : decode cX3_readLevel 69 = .ok (.getfield 12, 3) := by decide +kernel
theorem dX3_readLevel_72 : decode cX3_readLevel 72 = .ok (.aload_n 0, 1) := by decide +kernel
theorem dX3_readLevel_73 : decode cX3_readLevel 73 = .ok (.getfield 18, 3) := by decide +kernel
theorem dX3_readLevel_76 : decode cX3_readLevel 76 = .ok (.invokevirtual 49, 3) := by decide +kernel
theorem dX3_readLevel_79 : decode cX3_readLevel 79 = .ok (.istore 5, 2) := by decide +kernel
theorem dX3_readLevel_81 : decode cX3_readLevel 81 = .ok (.iload 5, 2) := by decide +kernel
theorem dX3_readLevel_83 : decode cX3_readLevel 83 = .ok (.invokestatic 62, 3) := by decide +kernel
theorem dX3_readLevel_86 : decode cX3_readLevel 86 = .ok (.iload_n 2, 1) := by decide +kernel
theorem dX3_readLevel_87 : decode cX3_readLevel 87 = .ok (.if_icmp .eq 4, 3) := by decide +kernel
theorem dX3_readLevel_90 : decode cX3_readLevel 90 = .ok (.return_, 1) := by decide +kernel
theorem dX3_readLevel_91 : decode cX3_readLevel 91 = .ok (.aload_n 0, 1) := by decide +kernel
theorem dX3_readLevel_92 : decode cX3_readLevel 92 = .ok (.dup, 1) := by decide +kernel
theorem dX3_readLevel_93 : decode cX3_readLevel 93 = .ok (.getfield 18, 3) := by decide +kernel
theorem dX3_readLevel_96 : decode cX3_readLevel 96 = .ok (.iconst 1, 1) := by decide +kernel
theorem dX3_readLevel_97 : decode cX3_readLevel 97 = .ok (.iadd, 1) := by decide +kernel
theorem dX3_readLevel_98 : decode cX3_readLevel 98 = .ok (.putfield 18, 3) := by decide +kernel
theorem dX3_readLevel_101 : decode cX3_readLevel 101 = .ok (.aload_n 0, 1) := by decide +kernel
theorem dX3_readLevel_102 : decode cX3_readLevel 102 = .ok (.aload_n 1, 1) := by decide +kernel
theorem dX3_readLevel_103 : decode cX3_readLevel 103 = .ok (.iload_n 2, 1) := by decide +kernel
theorem dX3_readLevel_104 : decode cX3_readLevel 104 = .ok (.iconst 1, 1) := by decide +kernel
theorem dX3_readLevel_105 : decode cX3_readLevel 105 = .ok (.iadd, 1) := by decide +kernel
theorem dX3_readLevel_106 : decode cX3_readLevel 106 = .ok (.iload_n 3, 1) := by decide +kernel
theorem dX3_readLevel_107 : decode cX3_readLevel 107 = .ok (.invokevirtual 38, 3) := by decide +kernel
theorem dX3_readLevel_110 : decode cX3_readLevel 110 = .ok (.aload_n 1, 1) := by decide +kernel
theorem dX3_readLevel_111 : decode cX3_readLevel 111 = .ok (.iload 5, 2) := by decide +kernel
theorem dX3_readLevel_113 : decode cX3_readLevel 113 = .ok (.invokevirtual 65, 3) := by decide +kernel
theorem dX3_readLevel_116 : decode cX3_readLevel 116 = .ok (.iload_n 2, 1) := by decide +kernel
theorem dX3_readLevel_117 : decode cX3_readLevel 117 = .ok (.iconst 2, 1) := by decide +kernel
theorem dX3_readLevel_118 : decode cX3_readLevel 118 = .ok (.if_icmp .ne 4, 3) := by decide +kernel
theorem dX3_readLevel_121 : decode cX3_readLevel 121 = .ok (.return_, 1) := by decide +kernel
theorem dX3_readLevel_122 : decode cX3_readLevel 122 = .ok (.iinc 4 1, 3) := by decide +kernel
theorem dX3_readLevel_125 : decode cX3_readLevel 125 = .ok (.goto (-73), 3) := by decide +kernel
theorem dX3_readLevel_128 : decode cX3_readLevel 128 = .ok (.return_, 1) := by decide +kernel
theorem dX3_readNot_0 : decode cX3_readNot 0 = .ok (.aload_n 0, 1) := by decide +kernel
theorem dX3_readNot_1 : decode cX3_readNot 1 = .ok (.getfield 22, 3) := by decide +kernel
theorem dX3_readNot_4 : decode cX3_readNot 4 = .ok (.iconst (-1), 1) := by decide +kernel
theorem dX3_readNot_5 : decode cX3_readNot 5 = .ok (.if_icmp .ne 8, 3) := by decide +kernel
theorem dX3_readNot_8 : decode cX3_readNot 8 = .ok (.iload_n 2, 1) := by decide +kernel
theorem dX3_readNot_9 : decode cX3_readNot 9 = .ok (.iconst 5, 1) := by decide +kernel
theorem dX3_readNot_10 : decode cX3_readNot 10 = .ok (.if_icmp .lt 8, 3) := by decide +kernel
theorem dX3_readNot_13 : decode cX3_readNot 13 = .ok (.aload_n 0, 1) := by decide +kernel
theorem dX3_readNot_14 : decode cX3_readNot 14 = .ok (.invokevirtual 52, 3) := by decide +kernel
theorem dX3_readNot_17 : decode cX3_readNot 17 = .ok (.return_, 1) := by decide +kernel
theorem dX3_readNot_18 : decode cX3_readNot 18 = .ok (.aload_n 0, 1) := by decide +kernel
theorem dX3_readNot_19 : decode cX3_readNot 19 = .ok (.dup, 1) := by decide +kernel
theorem dX3_readNot_20 : decode cX3_readNot 20 = .ok (.getfield 18, 3) := by decide +kernel
theorem dX3_readNot_23 : decode cX3_readNot 23 = .ok (.iconst 1, 1) := by decide +kernel
theorem dX3_readNot_24 : decode cX3_readNot 24 = .ok (.iadd, 1) := by decide +kernel
theorem dX3_readNot_25 : decode cX3_readNot 25 = .ok (.putfield 18, 3) := by decide +kernel
theorem dX3_readNot_28 : decode cX3_readNot 28 = .ok (.aload_n 0, 1) := by decide +kernel
theorem dX3_readNot_29 : decode cX3_readNot 29 = .ok (.aload_n 1, 1) := by decide +kernel
theorem dX3_readNot_30 : decode cX3_readNot 30 = .ok (.iconst 2, 1) := by decide +kernel
theorem dX3_readNot_31 : decode cX3_readNot 31 = .ok (.iload_n 2, 1) := by decide +kernel
theorem dX3_readNot_32 : decode cX3_readNot 32 = .ok (.iconst 1, 1) := by decide +kernel
theorem dX3_readNot_33 : decode cX3_readNot 33 = .ok (.iadd, 1) := by decide +kernel
theorem dX3_readNot_34 : decode cX3_readNot 34 = .ok (.invokevirtual 38, 3) := by decide +kernel
theorem dX3_readNot_37 : decode cX3_readNot 37 = .ok (.aload_n 1, 1) := by decide +kernel
theorem dX3_readNot_38 : decode cX3_readNot 38 = .ok (.bipush 11, 2) := by decide +kernel
theorem dX3_readNot_40 : decode cX3_readNot 40 = .ok (.invokevirtual 65, 3) := by decide +kernel
theorem dX3_readNot_43 : decode cX3_readNot 43 = .ok (.return_, 1) := by decide +kernel
theorem dX3_readOne_0 : decode cX3_readOne 0 = .ok (.aload_n 0, 1) := by decide +kernel
theorem dX3_readOne_1 : decode cX3_readOne 1 = .ok (.getfield 12, 3) := by decide +kernel
theorem dX3_readOne_4 : decode cX3_readOne 4 = .ok (.aload_n 0, 1) := by decide +kernel
theorem dX3_readOne_5 : decode cX3_readOne 5 = .ok (.getfield 18, 3) := by decide +kernel
theorem dX3_readOne_8 : decode cX3_readOne 8 = .ok (.invokevirtual 49, 3) := by decide +kernel
theorem dX3_readOne_11 : decode cX3_readOne 11 = .ok (.istore_n 3, 1) := by decide +kernel
theorem dX3_readOne_12 : decode cX3_readOne 12 = .ok (.aload_n 0, 1) := by decide +kernel
theorem dX3_readOne_13 : decode cX3_readOne 13 = .ok (.getfield 22, 3) := by decide +kernel
theorem dX3_readOne_16 : decode cX3_readOne 16 = .ok (.iconst (-1), 1) := by decide +kernel
theorem dX3_readOne_17 : decode cX3_readOne 17 = .ok (.if_icmp .eq 4, 3) := by decide +kernel
theorem dX3_readOne_20 : decode cX3_readOne 20 = .ok (.return_, 1) := by decide +kernel
theorem dX3_readOne_21 : decode cX3_readOne 21 = .ok (.iload_n 3, 1) := by decide +kernel
theorem dX3_readOne_22 : decode cX3_readOne 22 = .ok (.iconst 5, 1) := by decide +kernel
theorem dX3_readOne_23 : decode cX3_readOne 23 = .ok (.if_icmp .le 9, 3) := by decide +kernel
theorem dX3_readOne_26 : decode cX3_readOne 26 = .ok (.iload_n 3, 1) := by decide +kernel
theorem dX3_readOne_27 : decode cX3_readOne 27 = .ok (.bipush 100, 2) := by decide +kernel
theorem dX3_readOne_29 : decode cX3_readOne 29 = .ok (.if_icmp .lt 21, 3) := by decide +kernel
theorem dX3_readOne_32 : decode cX3_readOne 32 = .ok (.aload_n 0, 1) := by decide +kernel
theorem dX3_readOne_33 : decode cX3_readOne 33 = .ok (.dup, 1) := by decide +kernel
theorem dX3_readOne_34 : decode cX3_readOne 34 = .ok (.getfield 18, 3) := by decide +kernel
theorem dX3_readOne_37 : decode cX3_readOne 37 = .ok (.iconst 1, 1) := by decide +kernel
theorem dX3_readOne_38 : decode cX3_readOne 38 = .ok (.iadd, 1) := by decide +kernel
theorem dX3_readOne_39 : decode cX3_readOne 39 = .ok (.putfield 18, 3) := by decide +kernel
theorem dX3_readOne_42 : decode cX3_readOne 42 = .ok (.aload_n 1, 1) := by decide +kernel
theorem dX3_readOne_43 : decode cX3_readOne 43 = .ok (.iload_n 3, 1) := by decide +kernel
theorem dX3_readOne_44 : decode cX3_readOne 44 = .ok (.invokevirtual 65, 3) := by decide +kernel
theorem dX3_readOne_47 : decode cX3_readOne 47 = .ok (.goto 84, 3) := by decide +kernel
theorem dX3_readOne_50 : decode cX3_readOne 50 = .ok (.iload_n 3, 1) := by decide +kernel
theorem dX3_readOne_51 : decode cX3_readOne 51 = .ok (.bipush 16, 2) := by decide +kernel
theorem dX3_readOne_53 : decode cX3_readOne 53 = .ok (.if_icmp .ne 35, 3) := by decide +kernel
theorem dX3_readOne_56 : decode cX3_readOne 56 = .ok (.iload_n 2, 1) := by decide +kernel
theorem dX3_readOne_57 : decode cX3_readOne 57 = .ok (.iconst 5, 1) := by decide +kernel
theorem dX3_readOne_58 : decode cX3_readOne 58 = .ok (.if_icmp .ge 30, 3) := by decide +kernel
theorem dX3_readOne_61 : decode cX3_readOne 61 = .ok (.aload_n 0, 1) := by decide +kernel
theorem dX3_readOne_62 : decode cX3_readOne 62 = .ok (.dup, 1) := by decide +kernel
theorem dX3_readOne_63 : decode cX3_readOne 63 = .ok (.getfield 18, 3) := by decide +kernel
theorem dX3_readOne_66 : decode cX3_readOne 66 = .ok (.iconst 1, 1) := by decide +kernel
theorem dX3_readOne_67 : decode cX3_readOne 67 = .ok (.iadd, 1) := by decide +kernel
theorem dX3_readOne_68 : decode cX3_readOne 68 = .ok (.putfield 18, 3) := by decide +kernel
theorem dX3_readOne_71 : decode cX3_readOne 71 = .ok (.aload_n 0, 1) := by decide +kernel
theorem dX3_readOne_72 : decode cX3_readOne 72 = .ok (.aload_n 1, 1) := by decide +kernel
theorem dX3_readOne_73 : decode cX3_readOne 73 = .ok (.iload_n 2, 1) := by decide +kernel
theorem dX3_readOne_74 : decode cX3_readOne 74 = .ok (.iconst 1, 1) := by decide +kernel
theorem dX3_readOne_75 : decode cX3_readOne 75 = .ok (.iadd, 1) := by decide +kernel
theorem dX3_readOne_76 : decode cX3_readOne 76 = .ok (.invokevirtual 55, 3) := by decide +kernel
theorem dX3_readOne_79 : decode cX3_readOne 79 = .ok (.aload_n 1, 1) := by decide +kernel
theorem dX3_readOne_80 : decode cX3_readOne 80 = .ok (.bipush 20, 2) := by decide +kernel
theorem dX3_readOne_82 : decode cX3_readOne 82 = .ok (.invokevirtual 65, 3) := by decide +kernel
theorem dX3_readOne_85 : decode cX3_readOne 85 = .ok (.goto 46, 3) := by decide +kernel
theorem dX3_readOne_88 : decode cX3_readOne 88 = .ok (.iload_n 3, 1) := by decide +kernel
theorem dX3_readOne_89 : decode cX3_readOne 89 = .ok (.bipush 12, 2) := by decide +kernel
theorem dX3_readOne_91 : decode cX3_readOne 91 = .ok (.if_icmp .ne 36, 3) := by decide +kernel
theorem dX3_readOne_94 : decode cX3_readOne 94 = .ok (.iload_n 2, 1) := by decide +kernel
theorem dX3_readOne_95 : decode cX3_readOne 95 = .ok (.iconst 5, 1) := by decide +kernel
theorem dX3_readOne_96 : decode cX3_readOne 96 = .ok (.if_icmp .ge 31, 3) := by decide +kernel
theorem dX3_readOne_99 : decode cX3_readOne 99 = .ok (.aload_n 0, 1) := by decide +kernel
theorem dX3_readOne_100 : decode cX3_readOne 100 = .ok (.dup, 1) := by decide +kernel
theorem dX3_readOne_101 : decode cX3_readOne 101 = .ok (.getfield 18, 3) := by decide +kernel
theorem dX3_readOne_104 : decode cX3_readOne 104 = .ok (.iconst 1, 1) := by decide +kernel
theorem dX3_readOne_105 : decode cX3_readOne 105 = .ok (.iadd, 1) := by decide +kernel
theorem dX3_readOne_106 : decode cX3_readOne 106 = .ok (.putfield 18, 3) := by decide +kernel
theorem dX3_readOne_109 : decode cX3_readOne 109 = .ok (.aload_n 0, 1) := by decide +kernel
theorem dX3_readOne_110 : decode cX3_readOne 110 = .ok (.aload_n 1, 1) := by decide +kernel
theorem dX3_readOne_111 : decode cX3_readOne 111 = .ok (.iconst 0, 1) := by decide +kernel
theorem dX3_readOne_112 : decode cX3_readOne 112 = .ok (.iload_n 2, 1) := by decide +kernel
theorem dX3_readOne_113 : decode cX3_readOne 113 = .ok (.iconst 1, 1) := by decide +kernel
theorem dX3_readOne_114 : decode cX3_readOne 114 = .ok (.iadd, 1) := by decide +kernel
theorem dX3_readOne_115 : decode cX3_readOne 115 = .ok (.invokevirtual 38, 3) := by decide +kernel
theorem dX3_readOne_118 : decode cX3_readOne 118 = .ok (.aload_n 0, 1) := by decide +kernel
theorem dX3_readOne_119 : decode cX3_readOne 119 = .ok (.bipush 13, 2) := by decide +kernel
theorem dX3_readOne_121 : decode cX3_readOne 121 = .ok (.invokevirtual 34, 3) := by decide +kernel
theorem dX3_readOne_124 : decode cX3_readOne 124 = .ok (.goto 7, 3) := by decide +kernel
theorem dX3_readOne_127 : decode cX3_readOne 127 = .ok (.aload_n 0, 1) := by decide +kernel
theorem dX3_readOne_128 : decode cX3_readOne 128 = .ok (.invokevirtual 52, 3) := by decide +kernel
theorem dX3_readOne_131 : decode cX3_readOne 131 = .ok (.return_, 1) := by decide +kernel
theorem dX3_levelOf_0 : decode cX3_levelOf 0 = .ok (.iload_n 0, 1) := by decide +kernel
theorem dX3_levelOf_1 : decode cX3_levelOf 1 = .ok (.tableswitch 69 9 19 #[59, 61, 69, 69, 69, 69, 65, 65, 67, 63, 63], 59) := by decide +kernel
theorem dX3_levelOf_60 : decode cX3_levelOf 60 = .ok (.iconst 0, 1) := by decide +kernel
theorem dX3_levelOf_61 : decode cX3_levelOf 61 = .ok (.ireturn, 1) := by decide +kernel
theorem dX3_levelOf_62 : decode cX3_levelOf 62 = .ok (.iconst 1, 1) := by decide +kernel
theorem dX3_levelOf_63 : decode cX3_levelOf 63 = .ok (.ireturn, 1) := by decide +kernel
theorem dX3_levelOf_64 : decode cX3_levelOf 64 = .ok (.iconst 2, 1) := by decide +kernel
theorem dX3_levelOf_65 : decode cX3_levelOf 65 = .ok (.ireturn, 1) := by decide +kernel
theorem dX3_levelOf_66 : decode cX3_levelOf 66 = .ok (.iconst 3, 1) := by decide +kernel
theorem dX3_levelOf_67 : decode cX3_levelOf 67 = .ok (.ireturn, 1) := by decide +kernel
theorem dX3_levelOf_68 : decode cX3_levelOf 68 = .ok (.iconst 4, 1) := by decide +kernel
theorem dX3_levelOf_69 : decode cX3_levelOf 69 = .ok (.ireturn, 1) := by decide +kernel
theorem dX3_levelOf_70 : decode cX3_levelOf 70 = .ok (.iconst (-1), 1) := by decide +kernel
theorem dX3_levelOf_71 : decode cX3_levelOf 71 = .ok (.ireturn, 1) := by decide +kernel
theorem dX4_init_0 : decode cX4_init 0 = .ok (.aload_n 0, 1) := by decide +kernel
theorem dX4_init_1 : decode cX4_init 1 = .ok (.invokespecial 3, 3) := by decide +kernel
theorem dX4_init_4 : decode cX4_init 4 = .ok (.aload_n 0, 1) := by decide +kernel
theorem dX4_init_5 : decode cX4_init 5 = .ok (.aload_n 1, 1) := by decide +kernel
theorem dX4_init_6 : decode cX4_init 6 = .ok (.putfield 9, 3) := by decide +kernel
theorem dX4_init_9 : decode cX4_init 9 = .ok (.return_, 1) := by decide +kernel
theorem dX4_eatsOf_0 : decode cX4_eatsOf 0 = .ok (.aload_n 2, 1) := by decide +kernel
theorem dX4_eatsOf_1 : decode cX4_eatsOf 1 = .ok (.getfield 15, 3) := by decide +kernel
theorem dX4_eatsOf_4 : decode cX4_eatsOf 4 = .ok (.iconst 4, 1) := by decide +kernel
theorem dX4_eatsOf_5 : decode cX4_eatsOf 5 = .ok (.if_icmp .ne 13, 3) := by decide +kernel
theorem dX4_eatsOf_8 : decode cX4_eatsOf 8 = .ok (.aload_n 1, 1) := by decide +kernel
theorem dX4_eatsOf_9 : decode cX4_eatsOf 9 = .ok (.getfield 21, 3) := by decide +kernel
theorem dX4_eatsOf_12 : decode cX4_eatsOf 12 = .ok (.iconst 1, 1) := by decide +kernel
theorem dX4_eatsOf_13 : decode cX4_eatsOf 13 = .ok (.if_icmp .ne 5, 3) := by decide +kernel
theorem dX4_eatsOf_16 : decode cX4_eatsOf 16 = .ok (.iconst 1, 1) := by decide +kernel
theorem dX4_eatsOf_17 : decode cX4_eatsOf 17 = .ok (.ireturn, 1) := by decide +kernel
theorem dX4_eatsOf_18 : decode cX4_eatsOf 18 = .ok (.aload_n 0, 1) := by decide +kernel
theorem dX4_eatsOf_19 : decode cX4_eatsOf 19 = .ok (.getfield 9, 3) := by decide +kernel
theorem dX4_eatsOf_22 : decode cX4_eatsOf 22 = .ok (.aload_n 1, 1) := by decide +kernel
theorem dX4_eatsOf_23 : decode cX4_eatsOf 23 = .ok (.invokevirtual 26, 3) := by decide +kernel
theorem dX4_eatsOf_26 : decode cX4_eatsOf 26 = .ok (.iconst 0, 1) := by decide +kernel
theorem dX4_eatsOf_27 : decode cX4_eatsOf 27 = .ok (.aload_n 1, 1) := by decide +kernel
theorem dX4_eatsOf_28 : decode cX4_eatsOf 28 = .ok (.aload_n 2, 1) := by decide +kernel
theorem dX4_eatsOf_29 : decode cX4_eatsOf 29 = .ok (.invokevirtual 32, 3) := by decide +kernel
theorem dX4_eatsOf_32 : decode cX4_eatsOf 32 = .ok (.istore_n 3, 1) := by decide +kernel
theorem dX4_eatsOf_33 : decode cX4_eatsOf 33 = .ok (.aload_n 2, 1) := by decide +kernel
theorem dX4_eatsOf_34 : decode cX4_eatsOf 34 = .ok (.getfield 15, 3) := by decide +kernel
theorem dX4_eatsOf_37 : decode cX4_eatsOf 37 = .ok (.tableswitch 86 1 5 #[35, 44, 58, 44, 75], 35) := by decide +kernel
theorem dX4_eatsOf_72 : decode cX4_eatsOf 72 = .ok (.iconst 2, 1) := by decide +kernel
theorem dX4_eatsOf_73 : decode cX4_eatsOf 73 = .ok (.iload_n 3, 1) := by decide +kernel
theorem dX4_eatsOf_74 : decode cX4_eatsOf 74 = .ok (.imul, 1) := by decide +kernel
theorem dX4_eatsOf_75 : decode cX4_eatsOf 75 = .ok (.bipush 99, 2) := by decide +kernel
theorem dX4_eatsOf_77 : decode cX4_eatsOf 77 = .ok (.invokestatic 38, 3) := by decide +kernel
theorem dX4_eatsOf_80 : decode cX4_eatsOf 80 = .ok (.ireturn, 1) := by decide +kernel
theorem dX4_eatsOf_81 : decode cX4_eatsOf 81 = .ok (.iload_n 3, 1) := by decide +kernel
theorem dX4_eatsOf_82 : decode cX4_eatsOf 82 = .ok (.aload_n 1, 1) := by decide +kernel
theorem dX4_eatsOf_83 : decode cX4_eatsOf 83 = .ok (.getfield 42, 3) := by decide +kernel
theorem dX4_eatsOf_86 : decode cX4_eatsOf 86 = .ok (.invokestatic 45, 3) := by decide +kernel
theorem dX4_eatsOf_89 : decode cX4_eatsOf 89 = .ok (.bipush 99, 2) := by decide +kernel
theorem dX4_eatsOf_91 : decode cX4_eatsOf 91 = .ok (.invokestatic 38, 3) := by decide +kernel
theorem dX4_eatsOf_94 : decode cX4_eatsOf 94 = .ok (.ireturn, 1) := by decide +kernel
theorem dX4_eatsOf_95 : decode cX4_eatsOf 95 = .ok (.iconst 2, 1) := by decide +kernel
theorem dX4_eatsOf_96 : decode cX4_eatsOf 96 = .ok (.iload_n 3, 1) := by decide +kernel
theorem dX4_eatsOf_97 : decode cX4_eatsOf 97 = .ok (.imul, 1) := by decide +kernel
theorem dX4_eatsOf_98 : decode cX4_eatsOf 98 = .ok (.aload_n 2, 1) := by decide +kernel
theorem dX4_eatsOf_99 : decode cX4_eatsOf 99 = .ok (.getfield 50, 3) := by decide +kernel
theorem dX4_eatsOf_102 : decode cX4_eatsOf 102 = .ok (.bipush 10, 2) := by decide +kernel
theorem dX4_eatsOf_104 : decode cX4_eatsOf 104 = .ok (.idiv, 1) := by decide +kernel
theorem dX4_eatsOf_105 : decode cX4_eatsOf 105 = .ok (.iadd, 1) := by decide +kernel
theorem dX4_eatsOf_106 : decode cX4_eatsOf 106 = .ok (.bipush 99, 2) := by decide +kernel
theorem dX4_eatsOf_108 : decode cX4_eatsOf 108 = .ok (.invokestatic 38, 3) := by decide +kernel
theorem dX4_eatsOf_111 : decode cX4_eatsOf 111 = .ok (.ireturn, 1) := by decide +kernel
theorem dX4_eatsOf_112 : decode cX4_eatsOf 112 = .ok (.iload_n 3, 1) := by decide +kernel
theorem dX4_eatsOf_113 : decode cX4_eatsOf 113 = .ok (.iconst 1, 1) := by decide +kernel
theorem dX4_eatsOf_114 : decode cX4_eatsOf 114 = .ok (.invokestatic 45, 3) := by decide +kernel
theorem dX4_eatsOf_117 : decode cX4_eatsOf 117 = .ok (.bipush 99, 2) := by decide +kernel
theorem dX4_eatsOf_119 : decode cX4_eatsOf 119 = .ok (.invokestatic 38, 3) := by decide +kernel
theorem dX4_eatsOf_122 : decode cX4_eatsOf 122 = .ok (.ireturn, 1) := by decide +kernel
theorem dX4_eatsOf_123 : decode cX4_eatsOf 123 = .ok (.iload_n 3, 1) := by decide +kernel
theorem dX4_eatsOf_124 : decode cX4_eatsOf 124 = .ok (.ireturn, 1) := by decide +kernel
theorem dX4_triesOf_0 : decode cX4_triesOf 0 = .ok (.aload_n 2, 1) := by decide +kernel
theorem dX4_triesOf_1 : decode cX4_triesOf 1 = .ok (.getfield 15, 3) := by decide +kernel
theorem dX4_triesOf_4 : decode cX4_triesOf 4 = .ok (.iconst 1, 1) := by decide +kernel
theorem dX4_triesOf_5 : decode cX4_triesOf 5 = .ok (.if_icmp .eq 11, 3) := by decide +kernel
theorem dX4_triesOf_8 : decode cX4_triesOf 8 = .ok (.aload_n 2, 1) := by decide +kernel
theorem dX4_triesOf_9 : decode cX4_triesOf 9 = .ok (.getfield 15, 3) := by decide +kernel
theorem dX4_triesOf_12 : decode cX4_triesOf 12 = .ok (.iconst 4, 1) := by decide +kernel
theorem dX4_triesOf_13 : decode cX4_triesOf 13 = .ok (.if_icmp .ne 5, 3) := by decide +kernel
theorem dX4_triesOf_16 : decode cX4_triesOf 16 = .ok (.iconst 0, 1) := by decide +kernel
theorem dX4_triesOf_17 : decode cX4_triesOf 17 = .ok (.ireturn, 1) := by decide +kernel
theorem dX4_triesOf_18 : decode cX4_triesOf 18 = .ok (.aload_n 2, 1) := by decide +kernel
theorem dX4_triesOf_19 : decode cX4_triesOf 19 = .ok (.getfield 15, 3) := by decide +kernel
theorem dX4_triesOf_22 : decode cX4_triesOf 22 = .ok (.iconst 5, 1) := by decide +kernel
theorem dX4_triesOf_23 : decode cX4_triesOf 23 = .ok (.if_icmp .ne 13, 3) := by decide +kernel
theorem dX4_triesOf_26 : decode cX4_triesOf 26 = .ok (.aload_n 1, 1) := by decide +kernel
theorem dX4_triesOf_27 : decode cX4_triesOf 27 = .ok (.getfield 42, 3) := by decide +kernel
theorem dX4_triesOf_30 : decode cX4_triesOf 30 = .ok (.iconst 3, 1) := by decide +kernel
theorem dX4_triesOf_31 : decode cX4_triesOf 31 = .ok (.if_icmp .le 5, 3) := by decide +kernel
theorem dX4_triesOf_34 : decode cX4_triesOf 34 = .ok (.iconst 1, 1) := by decide +kernel
theorem dX4_triesOf_35 : decode cX4_triesOf 35 = .ok (.ireturn, 1) := by decide +kernel
theorem dX4_triesOf_36 : decode cX4_triesOf 36 = .ok (.aload_n 0, 1) := by decide +kernel
theorem dX4_triesOf_37 : decode cX4_triesOf 37 = .ok (.getfield 9, 3) := by decide +kernel
theorem dX4_triesOf_40 : decode cX4_triesOf 40 = .ok (.aload_n 1, 1) := by decide +kernel
theorem dX4_triesOf_41 : decode cX4_triesOf 41 = .ok (.invokevirtual 26, 3) := by decide +kernel
theorem dX4_triesOf_44 : decode cX4_triesOf 44 = .ok (.iconst 1, 1) := by decide +kernel
theorem dX4_triesOf_45 : decode cX4_triesOf 45 = .ok (.aload_n 1, 1) := by decide +kernel
theorem dX4_triesOf_46 : decode cX4_triesOf 46 = .ok (.aload_n 2, 1) := by decide +kernel
theorem dX4_triesOf_47 : decode cX4_triesOf 47 = .ok (.invokevirtual 32, 3) := by decide +kernel
theorem dX4_triesOf_50 : decode cX4_triesOf 50 = .ok (.istore_n 3, 1) := by decide +kernel
theorem dX4_triesOf_51 : decode cX4_triesOf 51 = .ok (.aload_n 2, 1) := by decide +kernel
theorem dX4_triesOf_52 : decode cX4_triesOf 52 = .ok (.getfield 15, 3) := by decide +kernel
theorem dX4_triesOf_55 : decode cX4_triesOf 55 = .ok (.lookupswitch 46 #[(2, 25), (3, 34)], 25) := by decide +kernel
theorem dX4_triesOf_80 : decode cX4_triesOf 80 = .ok (.iconst 2, 1) := by decide +kernel
theorem dX4_triesOf_81 : decode cX4_triesOf 81 = .ok (.iload_n 3, 1) := by decide +kernel
theorem dX4_triesOf_82 : decode cX4_triesOf 82 = .ok (.imul, 1) := by decide +kernel
theorem dX4_triesOf_83 : decode cX4_triesOf 83 = .ok (.bipush 99, 2) := by decide +kernel
theorem dX4_triesOf_85 : decode cX4_triesOf 85 = .ok (.invokestatic 38, 3) := by decide +kernel
theorem dX4_triesOf_88 : decode cX4_triesOf 88 = .ok (.ireturn, 1) := by decide +kernel
theorem dX4_triesOf_89 : decode cX4_triesOf 89 = .ok (.iload_n 3, 1) := by decide +kernel
theorem dX4_triesOf_90 : decode cX4_triesOf 90 = .ok (.aload_n 2, 1) := by decide +kernel
theorem dX4_triesOf_91 : decode cX4_triesOf 91 = .ok (.getfield 53, 3) := by decide +kernel
theorem dX4_triesOf_94 : decode cX4_triesOf 94 = .ok (.iadd, 1) := by decide +kernel
theorem dX4_triesOf_95 : decode cX4_triesOf 95 = .ok (.bipush 99, 2) := by decide +kernel
theorem dX4_triesOf_97 : decode cX4_triesOf 97 = .ok (.invokestatic 38, 3) := by decide +kernel
theorem dX4_triesOf_100 : decode cX4_triesOf 100 = .ok (.ireturn, 1) := by decide +kernel
theorem dX4_triesOf_101 : decode cX4_triesOf 101 = .ok (.iload_n 3, 1) := by decide +kernel
theorem dX4_triesOf_102 : decode cX4_triesOf 102 = .ok (.ireturn, 1) := by decide +kernel
theorem dX4_spendsOf_0 : decode cX4_spendsOf 0 = .ok (.aload_n 2, 1) := by decide +kernel
theorem dX4_spendsOf_1 : decode cX4_spendsOf 1 = .ok (.getfield 15, 3) := by decide +kernel
theorem dX4_spendsOf_4 : decode cX4_spendsOf 4 = .ok (.iconst 1, 1) := by decide +kernel
theorem dX4_spendsOf_5 : decode cX4_spendsOf 5 = .ok (.if_icmp .ne 5, 3) := by decide +kernel
theorem dX4_spendsOf_8 : decode cX4_spendsOf 8 = .ok (.iconst 0, 1) := by decide +kernel
theorem dX4_spendsOf_9 : decode cX4_spendsOf 9 = .ok (.ireturn, 1) := by decide +kernel
theorem dX4_spendsOf_10 : decode cX4_spendsOf 10 = .ok (.aload_n 2, 1) := by decide +kernel
theorem dX4_spendsOf_11 : decode cX4_spendsOf 11 = .ok (.getfield 15, 3) := by decide +kernel
theorem dX4_spendsOf_14 : decode cX4_spendsOf 14 = .ok (.iconst 3, 1) := by decide +kernel
theorem dX4_spendsOf_15 : decode cX4_spendsOf 15 = .ok (.if_icmp .ne 5, 3) := by decide +kernel
theorem dX4_spendsOf_18 : decode cX4_spendsOf 18 = .ok (.iconst 3, 1) := by decide +kernel
theorem dX4_spendsOf_19 : decode cX4_spendsOf 19 = .ok (.ireturn, 1) := by decide +kernel
theorem dX4_spendsOf_20 : decode cX4_spendsOf 20 = .ok (.aload_n 0, 1) := by decide +kernel
theorem dX4_spendsOf_21 : decode cX4_spendsOf 21 = .ok (.getfield 9, 3) := by decide +kernel
theorem dX4_spendsOf_24 : decode cX4_spendsOf 24 = .ok (.aload_n 1, 1) := by decide +kernel
theorem dX4_spendsOf_25 : decode cX4_spendsOf 25 = .ok (.invokevirtual 26, 3) := by decide +kernel
theorem dX4_spendsOf_28 : decode cX4_spendsOf 28 = .ok (.iconst 2, 1) := by decide +kernel
theorem dX4_spendsOf_29 : decode cX4_spendsOf 29 = .ok (.aload_n 1, 1) := by decide +kernel
theorem dX4_spendsOf_30 : decode cX4_spendsOf 30 = .ok (.aload_n 2, 1) := by decide +kernel
theorem dX4_spendsOf_31 : decode cX4_spendsOf 31 = .ok (.invokevirtual 32, 3) := by decide +kernel
theorem dX4_spendsOf_34 : decode cX4_spendsOf 34 = .ok (.istore_n 3, 1) := by decide +kernel
theorem dX4_spendsOf_35 : decode cX4_spendsOf 35 = .ok (.aload_n 2, 1) := by decide +kernel
theorem dX4_spendsOf_36 : decode cX4_spendsOf 36 = .ok (.getfield 15, 3) := by decide +kernel
theorem dX4_spendsOf_39 : decode cX4_spendsOf 39 = .ok (.tableswitch 55 2 5 #[29, 55, 29, 39], 29) := by decide +kernel
theorem dX4_spendsOf_68 : decode cX4_spendsOf 68 = .ok (.iload_n 3, 1) := by decide +kernel
theorem dX4_spendsOf_69 : decode cX4_spendsOf 69 = .ok (.iconst 2, 1) := by decide +kernel
theorem dX4_spendsOf_70 : decode cX4_spendsOf 70 = .ok (.idiv, 1) := by decide +kernel
theorem dX4_spendsOf_71 : decode cX4_spendsOf 71 = .ok (.sipush 999, 3) := by decide +kernel
theorem dX4_spendsOf_74 : decode cX4_spendsOf 74 = .ok (.invokestatic 38, 3) := by decide +kernel
theorem dX4_spendsOf_77 : decode cX4_spendsOf 77 = .ok (.ireturn, 1) := by decide +kernel
theorem dX4_spendsOf_78 : decode cX4_spendsOf 78 = .ok (.iload_n 3, 1) := by decide +kernel
theorem dX4_spendsOf_79 : decode cX4_spendsOf 79 = .ok (.bipush 10, 2) := by decide +kernel
theorem dX4_spendsOf_81 : decode cX4_spendsOf 81 = .ok (.aload_n 2, 1) := by decide +kernel
theorem dX4_spendsOf_82 : decode cX4_spendsOf 82 = .ok (.getfield 53, 3) := by decide +kernel
theorem dX4_spendsOf_85 : decode cX4_spendsOf 85 = .ok (.imul, 1) := by decide +kernel
theorem dX4_spendsOf_86 : decode cX4_spendsOf 86 = .ok (.iadd, 1) := by decide +kernel
theorem dX4_spendsOf_87 : decode cX4_spendsOf 87 = .ok (.sipush 999, 3) := by decide +kernel
theorem dX4_spendsOf_90 : decode cX4_spendsOf 90 = .ok (.invokestatic 38, 3) := by decide +kernel
theorem dX4_spendsOf_93 : decode cX4_spendsOf 93 = .ok (.ireturn, 1) := by decide +kernel
theorem dX4_spendsOf_94 : decode cX4_spendsOf 94 = .ok (.iload_n 3, 1) := by decide +kernel
theorem dX4_spendsOf_95 : decode cX4_spendsOf 95 = .ok (.ireturn, 1) := by decide +kernel
theorem dX4_eatenBy_0 : decode cX4_eatenBy 0 = .ok (.aload_n 1, 1) := by decide +kernel
theorem dX4_eatenBy_1 : decode cX4_eatenBy 1 = .ok (.aload_n 2, 1) := by decide +kernel
theorem dX4_eatenBy_2 : decode cX4_eatenBy 2 = .ok (.invokevirtual 56, 3) := by decide +kernel
theorem dX4_eatenBy_5 : decode cX4_eatenBy 5 = .ok (.ifCond .eq 12, 3) := by decide +kernel
theorem dX4_eatenBy_8 : decode cX4_eatenBy 8 = .ok (.aload_n 0, 1) := by decide +kernel
theorem dX4_eatenBy_9 : decode cX4_eatenBy 9 = .ok (.aload_n 1, 1) := by decide +kernel
theorem dX4_eatenBy_10 : decode cX4_eatenBy 10 = .ok (.aload_n 2, 1) := by decide +kernel
theorem dX4_eatenBy_11 : decode cX4_eatenBy 11 = .ok (.invokevirtual 60, 3) := by decide +kernel
theorem dX4_eatenBy_14 : decode cX4_eatenBy 14 = .ok (.goto 4, 3) := by decide +kernel
theorem dX4_eatenBy_17 : decode cX4_eatenBy 17 = .ok (.iconst 0, 1) := by decide +kernel
theorem dX4_eatenBy_18 : decode cX4_eatenBy 18 = .ok (.ireturn, 1) := by decide +kernel
theorem dX4_triesIfThere_0 : decode cX4_triesIfThere 0 = .ok (.aload_n 1, 1) := by decide +kernel
theorem dX4_triesIfThere_1 : decode cX4_triesIfThere 1 = .ok (.aload_n 2, 1) := by decide +kernel
theorem dX4_triesIfThere_2 : decode cX4_triesIfThere 2 = .ok (.invokevirtual 56, 3) := by decide +kernel
theorem dX4_triesIfThere_5 : decode cX4_triesIfThere 5 = .ok (.ifCond .eq 12, 3) := by decide +kernel
theorem dX4_triesIfThere_8 : decode cX4_triesIfThere 8 = .ok (.aload_n 0, 1) := by decide +kernel
theorem dX4_triesIfThere_9 : decode cX4_triesIfThere 9 = .ok (.aload_n 1, 1) := by decide +kernel
theorem dX4_triesIfThere_10 : decode cX4_triesIfThere 10 = .ok (.aload_n 2, 1) := by decide +kernel
theorem dX4_triesIfThere_11 : decode cX4_triesIfThere 11 = .ok (.invokevirtual 64, 3) := by decide +kernel
theorem dX4_triesIfThere_14 : decode cX4_triesIfThere 14 = .ok (.goto 4, 3) := by decide +kernel
theorem dX4_triesIfThere_17 : decode cX4_triesIfThere 17 = .ok (.iconst 0, 1) := by decide +kernel
theorem dX4_triesIfThere_18 : decode cX4_triesIfThere 18 = .ok (.ireturn, 1) := by decide +kernel
theorem dX4_costOf_0 : decode cX4_costOf 0 = .ok (.aload_n 1, 1) := by decide +kernel
theorem dX4_costOf_1 : decode cX4_costOf 1 = .ok (.aload_n 0, 1) := by decide +kernel
theorem dX4_costOf_2 : decode cX4_costOf 2 = .ok (.aload_n 1, 1) := by decide +kernel
theorem dX4_costOf_3 : decode cX4_costOf 3 = .ok (.aload_n 2, 1) := by decide +kernel
theorem dX4_costOf_4 : decode cX4_costOf 4 = .ok (.invokevirtual 67, 3) := by decide +kernel
theorem dX4_costOf_7 : decode cX4_costOf 7 = .ok (.invokestatic 70, 3) := by decide +kernel
theorem dX4_costOf_10 : decode cX4_costOf 10 = .ok (.ireturn, 1) := by decide +kernel
theorem dX4_gainOf_0 : decode cX4_gainOf 0 = .ok (.aload_n 1, 1) := by decide +kernel
theorem dX4_gainOf_1 : decode cX4_gainOf 1 = .ok (.aload_n 2, 1) := by decide +kernel
theorem dX4_gainOf_2 : decode cX4_gainOf 2 = .ok (.invokevirtual 56, 3) := by decide +kernel
theorem dX4_gainOf_5 : decode cX4_gainOf 5 = .ok (.ifCond .ne 5, 3) := by decide +kernel
theorem dX4_gainOf_8 : decode cX4_gainOf 8 = .ok (.iconst 0, 1) := by decide +kernel
theorem dX4_gainOf_9 : decode cX4_gainOf 9 = .ok (.ireturn, 1) := by decide +kernel
theorem dX4_gainOf_10 : decode cX4_gainOf 10 = .ok (.aload_n 0, 1) := by decide +kernel
theorem dX4_gainOf_11 : decode cX4_gainOf 11 = .ok (.aload_n 1, 1) := by decide +kernel
theorem dX4_gainOf_12 : decode cX4_gainOf 12 = .ok (.aload_n 2, 1) := by decide +kernel
theorem dX4_gainOf_13 : decode cX4_gainOf 13 = .ok (.invokevirtual 64, 3) := by decide +kernel
theorem dX4_gainOf_16 : decode cX4_gainOf 16 = .ok (.istore_n 3, 1) := by decide +kernel
theorem dX4_gainOf_17 : decode cX4_gainOf 17 = .ok (.iload_n 3, 1) := by decide +kernel
theorem dX4_gainOf_18 : decode cX4_gainOf 18 = .ok (.ifCond .le 18, 3) := by decide +kernel
theorem dX4_gainOf_21 : decode cX4_gainOf 21 = .ok (.aload_n 0, 1) := by decide +kernel
theorem dX4_gainOf_22 : decode cX4_gainOf 22 = .ok (.aload_n 1, 1) := by decide +kernel
theorem dX4_gainOf_23 : decode cX4_gainOf 23 = .ok (.aload_n 2, 1) := by decide +kernel
theorem dX4_gainOf_24 : decode cX4_gainOf 24 = .ok (.invokevirtual 74, 3) := by decide +kernel
theorem dX4_gainOf_27 : decode cX4_gainOf 27 = .ok (.sipush 1000, 3) := by decide +kernel
theorem dX4_gainOf_30 : decode cX4_gainOf 30 = .ok (.imul, 1) := by decide +kernel
theorem dX4_gainOf_31 : decode cX4_gainOf 31 = .ok (.iload_n 3, 1) := by decide +kernel
theorem dX4_gainOf_32 : decode cX4_gainOf 32 = .ok (.idiv, 1) := by decide +kernel
theorem dX4_gainOf_33 : decode cX4_gainOf 33 = .ok (.goto 4, 3) := by decide +kernel
theorem dX4_gainOf_36 : decode cX4_gainOf 36 = .ok (.iconst 0, 1) := by decide +kernel
theorem dX4_gainOf_37 : decode cX4_gainOf 37 = .ok (.istore 4, 2) := by decide +kernel
theorem dX4_gainOf_39 : decode cX4_gainOf 39 = .ok (.iload 4, 2) := by decide +kernel
theorem dX4_gainOf_41 : decode cX4_gainOf 41 = .ok (.sipush 1000, 3) := by decide +kernel
theorem dX4_gainOf_44 : decode cX4_gainOf 44 = .ok (.aload_n 1, 1) := by decide +kernel
theorem dX4_gainOf_45 : decode cX4_gainOf 45 = .ok (.aload_n 0, 1) := by decide +kernel
theorem dX4_gainOf_46 : decode cX4_gainOf 46 = .ok (.aload_n 1, 1) := by decide +kernel
theorem dX4_gainOf_47 : decode cX4_gainOf 47 = .ok (.aload_n 2, 1) := by decide +kernel
theorem dX4_gainOf_48 : decode cX4_gainOf 48 = .ok (.invokevirtual 60, 3) := by decide +kernel
theorem dX4_gainOf_51 : decode cX4_gainOf 51 = .ok (.invokestatic 70, 3) := by decide +kernel
theorem dX4_gainOf_54 : decode cX4_gainOf 54 = .ok (.imul, 1) := by decide +kernel
theorem dX4_gainOf_55 : decode cX4_gainOf 55 = .ok (.isub, 1) := by decide +kernel
theorem dX4_gainOf_56 : decode cX4_gainOf 56 = .ok (.ireturn, 1) := by decide +kernel
theorem dX4_priceOf_0 : decode cX4_priceOf 0 = .ok (.iload_n 1, 1) := by decide +kernel
theorem dX4_priceOf_1 : decode cX4_priceOf 1 = .ok (.aload_n 0, 1) := by decide +kernel
theorem dX4_priceOf_2 : decode cX4_priceOf 2 = .ok (.getfield 77, 3) := by decide +kernel
theorem dX4_priceOf_5 : decode cX4_priceOf 5 = .ok (.imul, 1) := by decide +kernel
theorem dX4_priceOf_6 : decode cX4_priceOf 6 = .ok (.aload_n 0, 1) := by decide +kernel
theorem dX4_priceOf_7 : decode cX4_priceOf 7 = .ok (.getfield 80, 3) := by decide +kernel
theorem dX4_priceOf_10 : decode cX4_priceOf 10 = .ok (.imul, 1) := by decide +kernel
theorem dX4_priceOf_11 : decode cX4_priceOf 11 = .ok (.bipush 10, 2) := by decide +kernel
theorem dX4_priceOf_13 : decode cX4_priceOf 13 = .ok (.idiv, 1) := by decide +kernel
theorem dX4_priceOf_14 : decode cX4_priceOf 14 = .ok (.ireturn, 1) := by decide +kernel
theorem dX4_allGainOf_0 : decode cX4_allGainOf 0 = .ok (.iconst 0, 1) := by decide +kernel
theorem dX4_allGainOf_1 : decode cX4_allGainOf 1 = .ok (.istore_n 2, 1) := by decide +kernel
theorem dX4_allGainOf_2 : decode cX4_allGainOf 2 = .ok (.iconst 0, 1) := by decide +kernel
theorem dX4_allGainOf_3 : decode cX4_allGainOf 3 = .ok (.istore_n 3, 1) := by decide +kernel
theorem dX4_allGainOf_4 : decode cX4_allGainOf 4 = .ok (.iload_n 3, 1) := by decide +kernel
theorem dX4_allGainOf_5 : decode cX4_allGainOf 5 = .ok (.aload_n 1, 1) := by decide +kernel
theorem dX4_allGainOf_6 : decode cX4_allGainOf 6 = .ok (.getfield 83, 3) := by decide +kernel
theorem dX4_allGainOf_9 : decode cX4_allGainOf 9 = .ok (.if_icmp .ge 29, 3) := by decide +kernel
theorem dX4_allGainOf_12 : decode cX4_allGainOf 12 = .ok (.iload_n 3, 1) := by decide +kernel
theorem dX4_allGainOf_13 : decode cX4_allGainOf 13 = .ok (.bipush 8, 2) := by decide +kernel
theorem dX4_allGainOf_15 : decode cX4_allGainOf 15 = .ok (.if_icmp .ge 23, 3) := by decide +kernel
theorem dX4_allGainOf_18 : decode cX4_allGainOf 18 = .ok (.iload_n 2, 1) := by decide +kernel
theorem dX4_allGainOf_19 : decode cX4_allGainOf 19 = .ok (.aload_n 0, 1) := by decide +kernel
theorem dX4_allGainOf_20 : decode cX4_allGainOf 20 = .ok (.aload_n 1, 1) := by decide +kernel
theorem dX4_allGainOf_21 : decode cX4_allGainOf 21 = .ok (.aload_n 1, 1) := by decide +kernel
theorem dX4_allGainOf_22 : decode cX4_allGainOf 22 = .ok (.getfield 86, 3) := by decide +kernel
theorem dX4_allGainOf_25 : decode cX4_allGainOf 25 = .ok (.iload_n 3, 1) := by decide +kernel
theorem dX4_allGainOf_26 : decode cX4_allGainOf 26 = .ok (.aaload, 1) := by decide +kernel
theorem dX4_allGainOf_27 : decode cX4_allGainOf 27 = .ok (.invokevirtual 90, 3) := by decide +kernel
theorem dX4_allGainOf_30 : decode cX4_allGainOf 30 = .ok (.iadd, 1) := by decide +kernel
theorem dX4_allGainOf_31 : decode cX4_allGainOf 31 = .ok (.istore_n 2, 1) := by decide +kernel
theorem dX4_allGainOf_32 : decode cX4_allGainOf 32 = .ok (.iinc 3 1, 3) := by decide +kernel
theorem dX4_allGainOf_35 : decode cX4_allGainOf 35 = .ok (.goto (-31), 3) := by decide +kernel
theorem dX4_allGainOf_38 : decode cX4_allGainOf 38 = .ok (.iload_n 2, 1) := by decide +kernel
theorem dX4_allGainOf_39 : decode cX4_allGainOf 39 = .ok (.ireturn, 1) := by decide +kernel
theorem dX4_allCostOf_0 : decode cX4_allCostOf 0 = .ok (.iconst 0, 1) := by decide +kernel
theorem dX4_allCostOf_1 : decode cX4_allCostOf 1 = .ok (.istore_n 2, 1) := by decide +kernel
theorem dX4_allCostOf_2 : decode cX4_allCostOf 2 = .ok (.iconst 0, 1) := by decide +kernel
theorem dX4_allCostOf_3 : decode cX4_allCostOf 3 = .ok (.istore_n 3, 1) := by decide +kernel
theorem dX4_allCostOf_4 : decode cX4_allCostOf 4 = .ok (.iload_n 3, 1) := by decide +kernel
theorem dX4_allCostOf_5 : decode cX4_allCostOf 5 = .ok (.aload_n 1, 1) := by decide +kernel
theorem dX4_allCostOf_6 : decode cX4_allCostOf 6 = .ok (.getfield 83, 3) := by decide +kernel
theorem dX4_allCostOf_9 : decode cX4_allCostOf 9 = .ok (.if_icmp .ge 29, 3) := by decide +kernel
theorem dX4_allCostOf_12 : decode cX4_allCostOf 12 = .ok (.iload_n 3, 1) := by decide +kernel
theorem dX4_allCostOf_13 : decode cX4_allCostOf 13 = .ok (.bipush 8, 2) := by decide +kernel
theorem dX4_allCostOf_15 : decode cX4_allCostOf 15 = .ok (.if_icmp .ge 23, 3) := by decide +kernel
theorem dX4_allCostOf_18 : decode cX4_allCostOf 18 = .ok (.iload_n 2, 1) := by decide +kernel
theorem dX4_allCostOf_19 : decode cX4_allCostOf 19 = .ok (.aload_n 0, 1) := by decide +kernel
theorem dX4_allCostOf_20 : decode cX4_allCostOf 20 = .ok (.aload_n 1, 1) := by decide +kernel
theorem dX4_allCostOf_21 : decode cX4_allCostOf 21 = .ok (.aload_n 1, 1) := by decide +kernel
theorem dX4_allCostOf_22 : decode cX4_allCostOf 22 = .ok (.getfield 86, 3) := by decide +kernel
theorem dX4_allCostOf_25 : decode cX4_allCostOf 25 = .ok (.iload_n 3, 1) := by decide +kernel
theorem dX4_allCostOf_26 : decode cX4_allCostOf 26 = .ok (.aaload, 1) := by decide +kernel
theorem dX4_allCostOf_27 : decode cX4_allCostOf 27 = .ok (.invokevirtual 93, 3) := by decide +kernel
theorem dX4_allCostOf_30 : decode cX4_allCostOf 30 = .ok (.iadd, 1) := by decide +kernel
theorem dX4_allCostOf_31 : decode cX4_allCostOf 31 = .ok (.istore_n 2, 1) := by decide +kernel
theorem dX4_allCostOf_32 : decode cX4_allCostOf 32 = .ok (.iinc 3 1, 3) := by decide +kernel
theorem dX4_allCostOf_35 : decode cX4_allCostOf 35 = .ok (.goto (-31), 3) := by decide +kernel
theorem dX4_allCostOf_38 : decode cX4_allCostOf 38 = .ok (.iload_n 2, 1) := by decide +kernel
theorem dX4_allCostOf_39 : decode cX4_allCostOf 39 = .ok (.ireturn, 1) := by decide +kernel
theorem dX4_allEatenOf_0 : decode cX4_allEatenOf 0 = .ok (.iconst 0, 1) := by decide +kernel
theorem dX4_allEatenOf_1 : decode cX4_allEatenOf 1 = .ok (.istore_n 2, 1) := by decide +kernel
theorem dX4_allEatenOf_2 : decode cX4_allEatenOf 2 = .ok (.iconst 0, 1) := by decide +kernel
theorem dX4_allEatenOf_3 : decode cX4_allEatenOf 3 = .ok (.istore_n 3, 1) := by decide +kernel
theorem dX4_allEatenOf_4 : decode cX4_allEatenOf 4 = .ok (.iload_n 3, 1) := by decide +kernel
theorem dX4_allEatenOf_5 : decode cX4_allEatenOf 5 = .ok (.aload_n 1, 1) := by decide +kernel
theorem dX4_allEatenOf_6 : decode cX4_allEatenOf 6 = .ok (.getfield 83, 3) := by decide +kernel
theorem dX4_allEatenOf_9 : decode cX4_allEatenOf 9 = .ok (.if_icmp .ge 29, 3) := by decide +kernel
theorem dX4_allEatenOf_12 : decode cX4_allEatenOf 12 = .ok (.iload_n 3, 1) := by decide +kernel
theorem dX4_allEatenOf_13 : decode cX4_allEatenOf 13 = .ok (.bipush 8, 2) := by decide +kernel
theorem dX4_allEatenOf_15 : decode cX4_allEatenOf 15 = .ok (.if_icmp .ge 23, 3) := by decide +kernel
theorem dX4_allEatenOf_18 : decode cX4_allEatenOf 18 = .ok (.iload_n 2, 1) := by decide +kernel
theorem dX4_allEatenOf_19 : decode cX4_allEatenOf 19 = .ok (.aload_n 0, 1) := by decide +kernel
theorem dX4_allEatenOf_20 : decode cX4_allEatenOf 20 = .ok (.aload_n 1, 1) := by decide +kernel
theorem dX4_allEatenOf_21 : decode cX4_allEatenOf 21 = .ok (.aload_n 1, 1) := by decide +kernel
theorem dX4_allEatenOf_22 : decode cX4_allEatenOf 22 = .ok (.getfield 86, 3) := by decide +kernel
theorem dX4_allEatenOf_25 : decode cX4_allEatenOf 25 = .ok (.iload_n 3, 1) := by decide +kernel
theorem dX4_allEatenOf_26 : decode cX4_allEatenOf 26 = .ok (.aaload, 1) := by decide +kernel
theorem dX4_allEatenOf_27 : decode cX4_allEatenOf 27 = .ok (.invokevirtual 67, 3) := by decide +kernel
theorem dX4_allEatenOf_30 : decode cX4_allEatenOf 30 = .ok (.iadd, 1) := by decide +kernel
theorem dX4_allEatenOf_31 : decode cX4_allEatenOf 31 = .ok (.istore_n 2, 1) := by decide +kernel
theorem dX4_allEatenOf_32 : decode cX4_allEatenOf 32 = .ok (.iinc 3 1, 3) := by decide +kernel
theorem dX4_allEatenOf_35 : decode cX4_allEatenOf 35 = .ok (.goto (-31), 3) := by decide +kernel
theorem dX4_allEatenOf_38 : decode cX4_allEatenOf 38 = .ok (.iload_n 2, 1) := by decide +kernel
theorem dX4_allEatenOf_39 : decode cX4_allEatenOf 39 = .ok (.ireturn, 1) := by decide +kernel
theorem dX4_eatenIn_0 : decode cX4_eatenIn 0 = .ok (.iconst 0, 1) := by decide +kernel
theorem dX4_eatenIn_1 : decode cX4_eatenIn 1 = .ok (.istore_n 3, 1) := by decide +kernel
theorem dX4_eatenIn_2 : decode cX4_eatenIn 2 = .ok (.iconst 0, 1) := by decide +kernel
theorem dX4_eatenIn_3 : decode cX4_eatenIn 3 = .ok (.istore 4, 2) := by decide +kernel
theorem dX4_eatenIn_5 : decode cX4_eatenIn 5 = .ok (.iload 4, 2) := by decide +kernel
theorem dX4_eatenIn_7 : decode cX4_eatenIn 7 = .ok (.aload_n 1, 1) := by decide +kernel
theorem dX4_eatenIn_8 : decode cX4_eatenIn 8 = .ok (.getfield 83, 3) := by decide +kernel
theorem dX4_eatenIn_11 : decode cX4_eatenIn 11 = .ok (.if_icmp .ge 45, 3) := by decide +kernel
theorem dX4_eatenIn_14 : decode cX4_eatenIn 14 = .ok (.iload 4, 2) := by decide +kernel
theorem dX4_eatenIn_16 : decode cX4_eatenIn 16 = .ok (.bipush 8, 2) := by decide +kernel
theorem dX4_eatenIn_18 : decode cX4_eatenIn 18 = .ok (.if_icmp .ge 38, 3) := by decide +kernel
theorem dX4_eatenIn_21 : decode cX4_eatenIn 21 = .ok (.aload_n 1, 1) := by decide +kernel
theorem dX4_eatenIn_22 : decode cX4_eatenIn 22 = .ok (.getfield 86, 3) := by decide +kernel
theorem dX4_eatenIn_25 : decode cX4_eatenIn 25 = .ok (.iload 4, 2) := by decide +kernel
theorem dX4_eatenIn_27 : decode cX4_eatenIn 27 = .ok (.aaload, 1) := by decide +kernel
theorem dX4_eatenIn_28 : decode cX4_eatenIn 28 = .ok (.getfield 96, 3) := by decide +kernel
theorem dX4_eatenIn_31 : decode cX4_eatenIn 31 = .ok (.iload_n 2, 1) := by decide +kernel
theorem dX4_eatenIn_32 : decode cX4_eatenIn 32 = .ok (.if_icmp .ne 18, 3) := by decide +kernel
theorem dX4_eatenIn_35 : decode cX4_eatenIn 35 = .ok (.iload_n 3, 1) := by decide +kernel
theorem dX4_eatenIn_36 : decode cX4_eatenIn 36 = .ok (.aload_n 0, 1) := by decide +kernel
theorem dX4_eatenIn_37 : decode cX4_eatenIn 37 = .ok (.aload_n 1, 1) := by decide +kernel
theorem dX4_eatenIn_38 : decode cX4_eatenIn 38 = .ok (.aload_n 1, 1) := by decide +kernel
theorem dX4_eatenIn_39 : decode cX4_eatenIn 39 = .ok (.getfield 86, 3) := by decide +kernel
theorem dX4_eatenIn_42 : decode cX4_eatenIn 42 = .ok (.iload 4, 2) := by decide +kernel
theorem dX4_eatenIn_44 : decode cX4_eatenIn 44 = .ok (.aaload, 1) := by decide +kernel
theorem dX4_eatenIn_45 : decode cX4_eatenIn 45 = .ok (.invokevirtual 67, 3) := by decide +kernel
theorem dX4_eatenIn_48 : decode cX4_eatenIn 48 = .ok (.iadd, 1) := by decide +kernel
theorem dX4_eatenIn_49 : decode cX4_eatenIn 49 = .ok (.istore_n 3, 1) := by decide +kernel
theorem dX4_eatenIn_50 : decode cX4_eatenIn 50 = .ok (.iinc 4 1, 3) := by decide +kernel
theorem dX4_eatenIn_53 : decode cX4_eatenIn 53 = .ok (.goto (-48), 3) := by decide +kernel
theorem dX4_eatenIn_56 : decode cX4_eatenIn 56 = .ok (.iload_n 3, 1) := by decide +kernel
theorem dX4_eatenIn_57 : decode cX4_eatenIn 57 = .ok (.ireturn, 1) := by decide +kernel
theorem dX4_onlyEatersOf_0 : decode cX4_onlyEatersOf 0 = .ok (.iconst 0, 1) := by decide +kernel
theorem dX4_onlyEatersOf_1 : decode cX4_onlyEatersOf 1 = .ok (.istore_n 2, 1) := by decide +kernel
theorem dX4_onlyEatersOf_2 : decode cX4_onlyEatersOf 2 = .ok (.iconst 0, 1) := by decide +kernel
theorem dX4_onlyEatersOf_3 : decode cX4_onlyEatersOf 3 = .ok (.istore_n 3, 1) := by decide +kernel
theorem dX4_onlyEatersOf_4 : decode cX4_onlyEatersOf 4 = .ok (.iload_n 3, 1) := by decide +kernel
theorem dX4_onlyEatersOf_5 : decode cX4_onlyEatersOf 5 = .ok (.aload_n 1, 1) := by decide +kernel
theorem dX4_onlyEatersOf_6 : decode cX4_onlyEatersOf 6 = .ok (.getfield 83, 3) := by decide +kernel
theorem dX4_onlyEatersOf_9 : decode cX4_onlyEatersOf 9 = .ok (.if_icmp .ge 49, 3) := by decide +kernel
theorem dX4_onlyEatersOf_12 : decode cX4_onlyEatersOf 12 = .ok (.iload_n 3, 1) := by decide +kernel
theorem dX4_onlyEatersOf_13 : decode cX4_onlyEatersOf 13 = .ok (.bipush 8, 2) := by decide +kernel
theorem dX4_onlyEatersOf_15 : decode cX4_onlyEatersOf 15 = .ok (.if_icmp .ge 43, 3) := by decide +kernel
theorem dX4_onlyEatersOf_18 : decode cX4_onlyEatersOf 18 = .ok (.aload_n 1, 1) := by decide +kernel
theorem dX4_onlyEatersOf_19 : decode cX4_onlyEatersOf 19 = .ok (.getfield 86, 3) := by decide +kernel
theorem dX4_onlyEatersOf_22 : decode cX4_onlyEatersOf 22 = .ok (.iload_n 3, 1) := by decide +kernel
theorem dX4_onlyEatersOf_23 : decode cX4_onlyEatersOf 23 = .ok (.aaload, 1) := by decide +kernel
theorem dX4_onlyEatersOf_24 : decode cX4_onlyEatersOf 24 = .ok (.astore 4, 2) := by decide +kernel
theorem dX4_onlyEatersOf_26 : decode cX4_onlyEatersOf 26 = .ok (.aload_n 0, 1) := by decide +kernel
theorem dX4_onlyEatersOf_27 : decode cX4_onlyEatersOf 27 = .ok (.aload_n 1, 1) := by decide +kernel
theorem dX4_onlyEatersOf_28 : decode cX4_onlyEatersOf 28 = .ok (.aload 4, 2) := by decide +kernel
theorem dX4_onlyEatersOf_30 : decode cX4_onlyEatersOf 30 = .ok (.invokevirtual 67, 3) := by decide +kernel
theorem dX4_onlyEatersOf_33 : decode cX4_onlyEatersOf 33 = .ok (.ifCond .le 19, 3) := by decide +kernel
theorem dX4_onlyEatersOf_36 : decode cX4_onlyEatersOf 36 = .ok (.aload_n 0, 1) := by decide +kernel
theorem dX4_onlyEatersOf_37 : decode cX4_onlyEatersOf 37 = .ok (.aload_n 1, 1) := by decide +kernel
theorem dX4_onlyEatersOf_38 : decode cX4_onlyEatersOf 38 = .ok (.aload 4, 2) := by decide +kernel
theorem dX4_onlyEatersOf_40 : decode cX4_onlyEatersOf 40 = .ok (.invokevirtual 64, 3) := by decide +kernel
theorem dX4_onlyEatersOf_43 : decode cX4_onlyEatersOf 43 = .ok (.ifCond .ne 9, 3) := by decide +kernel
theorem dX4_onlyEatersOf_46 : decode cX4_onlyEatersOf 46 = .ok (.iload_n 2, 1) := by decide +kernel
theorem dX4_onlyEatersOf_47 : decode cX4_onlyEatersOf 47 = .ok (.iconst 1, 1) := by decide +kernel
theorem dX4_onlyEatersOf_48 : decode cX4_onlyEatersOf 48 = .ok (.iload_n 3, 1) := by decide +kernel
theorem dX4_onlyEatersOf_49 : decode cX4_onlyEatersOf 49 = .ok (.ishl, 1) := by decide +kernel
theorem dX4_onlyEatersOf_50 : decode cX4_onlyEatersOf 50 = .ok (.ior, 1) := by decide +kernel
theorem dX4_onlyEatersOf_51 : decode cX4_onlyEatersOf 51 = .ok (.istore_n 2, 1) := by decide +kernel
theorem dX4_onlyEatersOf_52 : decode cX4_onlyEatersOf 52 = .ok (.iinc 3 1, 3) := by decide +kernel
theorem dX4_onlyEatersOf_55 : decode cX4_onlyEatersOf 55 = .ok (.goto (-51), 3) := by decide +kernel
theorem dX4_onlyEatersOf_58 : decode cX4_onlyEatersOf 58 = .ok (.iload_n 2, 1) := by decide +kernel
theorem dX4_onlyEatersOf_59 : decode cX4_onlyEatersOf 59 = .ok (.ireturn, 1) := by decide +kernel
theorem dX4_drawn_0 : decode cX4_drawn 0 = .ok (.iload_n 2, 1) := by decide +kernel
theorem dX4_drawn_1 : decode cX4_drawn 1 = .ok (.istore 4, 2) := by decide +kernel
theorem dX4_drawn_3 : decode cX4_drawn 3 = .ok (.iconst 0, 1) := by decide +kernel
theorem dX4_drawn_4 : decode cX4_drawn 4 = .ok (.istore 5, 2) := by decide +kernel
theorem dX4_drawn_6 : decode cX4_drawn 6 = .ok (.iconst 0, 1) := by decide +kernel
theorem dX4_drawn_7 : decode cX4_drawn 7 = .ok (.istore 6, 2) := by decide +kernel
theorem dX4_drawn_9 : decode cX4_drawn 9 = .ok (.iload 6, 2) := by decide +kernel
theorem dX4_drawn_11 : decode cX4_drawn 11 = .ok (.aload_n 1, 1) := by decide +kernel
theorem dX4_drawn_12 : decode cX4_drawn 12 = .ok (.getfield 83, 3) := by decide +kernel
theorem dX4_drawn_15 : decode cX4_drawn 15 = .ok (.if_icmp .ge 104, 3) := by decide +kernel
theorem dX4_drawn_18 : decode cX4_drawn 18 = .ok (.iload 6, 2) := by decide +kernel
theorem dX4_drawn_20 : decode cX4_drawn 20 = .ok (.bipush 8, 2) := by decide +kernel
theorem dX4_drawn_22 : decode cX4_drawn 22 = .ok (.if_icmp .ge 97, 3) := by decide +kernel
theorem dX4_drawn_25 : decode cX4_drawn 25 = .ok (.aload_n 1, 1) := by decide +kernel
theorem dX4_drawn_26 : decode cX4_drawn 26 = .ok (.getfield 86, 3) := by decide +kernel
theorem dX4_drawn_29 : decode cX4_drawn 29 = .ok (.iload 6, 2) := by decide +kernel
theorem dX4_drawn_31 : decode cX4_drawn 31 = .ok (.aaload, 1) := by decide +kernel
theorem dX4_drawn_32 : decode cX4_drawn 32 = .ok (.astore 7, 2) := by decide +kernel
theorem dX4_drawn_34 : decode cX4_drawn 34 = .ok (.aload_n 1, 1) := by decide +kernel
theorem dX4_drawn_35 : decode cX4_drawn 35 = .ok (.aload 7, 2) := by decide +kernel
theorem dX4_drawn_37 : decode cX4_drawn 37 = .ok (.invokevirtual 56, 3) := by decide +kernel
theorem dX4_drawn_40 : decode cX4_drawn 40 = .ok (.ifCond .eq 73, 3) := by decide +kernel
theorem dX4_drawn_43 : decode cX4_drawn 43 = .ok (.iload 4, 2) := by decide +kernel
theorem dX4_drawn_45 : decode cX4_drawn 45 = .ok (.ldc 99, 2) := by decide +kernel
theorem dX4_drawn_47 : decode cX4_drawn 47 = .ok (.imul, 1) := by decide +kernel
theorem dX4_drawn_48 : decode cX4_drawn 48 = .ok (.sipush 12345, 3) := by decide +kernel
theorem dX4_drawn_51 : decode cX4_drawn 51 = .ok (.iadd, 1) := by decide +kernel
theorem dX4_drawn_52 : decode cX4_drawn 52 = .ok (.istore 4, 2) := by decide +kernel
theorem dX4_drawn_54 : decode cX4_drawn 54 = .ok (.aload_n 0, 1) := by decide +kernel
theorem dX4_drawn_55 : decode cX4_drawn 55 = .ok (.aload_n 1, 1) := by decide +kernel
theorem dX4_drawn_56 : decode cX4_drawn 56 = .ok (.aload 7, 2) := by decide +kernel
theorem dX4_drawn_58 : decode cX4_drawn 58 = .ok (.invokevirtual 64, 3) := by decide +kernel
theorem dX4_drawn_61 : decode cX4_drawn 61 = .ok (.istore 8, 2) := by decide +kernel
theorem dX4_drawn_63 : decode cX4_drawn 63 = .ok (.iload 8, 2) := by decide +kernel
theorem dX4_drawn_65 : decode cX4_drawn 65 = .ok (.ifCond .le 48, 3) := by decide +kernel
theorem dX4_drawn_68 : decode cX4_drawn 68 = .ok (.iload 4, 2) := by decide +kernel
theorem dX4_drawn_70 : decode cX4_drawn 70 = .ok (.bipush 9, 2) := by decide +kernel
theorem dX4_drawn_72 : decode cX4_drawn 72 = .ok (.iushr, 1) := by decide +kernel
theorem dX4_drawn_73 : decode cX4_drawn 73 = .ok (.iload 8, 2) := by decide +kernel
theorem dX4_drawn_75 : decode cX4_drawn 75 = .ok (.irem, 1) := by decide +kernel
theorem dX4_drawn_76 : decode cX4_drawn 76 = .ok (.ifCond .ne 37, 3) := by decide +kernel
theorem dX4_drawn_79 : decode cX4_drawn 79 = .ok (.iload 5, 2) := by decide +kernel
theorem dX4_drawn_81 : decode cX4_drawn 81 = .ok (.aload_n 0, 1) := by decide +kernel
theorem dX4_drawn_82 : decode cX4_drawn 82 = .ok (.aload_n 1, 1) := by decide +kernel
theorem dX4_drawn_83 : decode cX4_drawn 83 = .ok (.aload 7, 2) := by decide +kernel
theorem dX4_drawn_85 : decode cX4_drawn 85 = .ok (.invokevirtual 74, 3) := by decide +kernel
theorem dX4_drawn_88 : decode cX4_drawn 88 = .ok (.iadd, 1) := by decide +kernel
theorem dX4_drawn_89 : decode cX4_drawn 89 = .ok (.istore 5, 2) := by decide +kernel
theorem dX4_drawn_91 : decode cX4_drawn 91 = .ok (.iload_n 3, 1) := by decide +kernel
theorem dX4_drawn_92 : decode cX4_drawn 92 = .ok (.ifCond .eq 21, 3) := by decide +kernel
theorem dX4_drawn_95 : decode cX4_drawn 95 = .ok (.aload 7, 2) := by decide +kernel
theorem dX4_drawn_97 : decode cX4_drawn 97 = .ok (.aload 7, 2) := by decide +kernel
theorem dX4_drawn_99 : decode cX4_drawn 99 = .ok (.getfield 100, 3) := by decide +kernel
theorem dX4_drawn_102 : decode cX4_drawn 102 = .ok (.iconst 1, 1) := by decide +kernel
theorem dX4_drawn_103 : decode cX4_drawn 103 = .ok (.iadd, 1) := by decide +kernel
theorem dX4_drawn_104 : decode cX4_drawn 104 = .ok (.sipush 999, 3) := by decide +kernel
theorem dX4_drawn_107 : decode cX4_drawn 107 = .ok (.invokestatic 45, 3) := by decide +kernel
theorem dX4_drawn_110 : decode cX4_drawn 110 = .ok (.putfield 100, 3) := by decide +kernel
theorem dX4_drawn_113 : decode cX4_drawn 113 = .ok (.iinc 6 1, 3) := by decide +kernel
theorem dX4_drawn_116 : decode cX4_drawn 116 = .ok (.goto (-107), 3) := by decide +kernel
theorem dX4_drawn_119 : decode cX4_drawn 119 = .ok (.iload 5, 2) := by decide +kernel
theorem dX4_drawn_121 : decode cX4_drawn 121 = .ok (.ireturn, 1) := by decide +kernel
theorem dX5_init_0 : decode cX5_init 0 = .ok (.aload_n 0, 1) := by decide +kernel
theorem dX5_init_1 : decode cX5_init 1 = .ok (.invokespecial 3, 3) := by decide +kernel
theorem dX5_init_4 : decode cX5_init 4 = .ok (.aload_n 0, 1) := by decide +kernel
theorem dX5_init_5 : decode cX5_init 5 = .ok (.iconst (-1), 1) := by decide +kernel
theorem dX5_init_6 : decode cX5_init 6 = .ok (.putfield 9, 3) := by decide +kernel
theorem dX5_init_9 : decode cX5_init 9 = .ok (.aload_n 0, 1) := by decide +kernel
theorem dX5_init_10 : decode cX5_init 10 = .ok (.iconst 0, 1) := by decide +kernel
theorem dX5_init_11 : decode cX5_init 11 = .ok (.putfield 15, 3) := by decide +kernel
theorem dX5_init_14 : decode cX5_init 14 = .ok (.aload_n 0, 1) := by decide +kernel
theorem dX5_init_15 : decode cX5_init 15 = .ok (.bipush 40, 2) := by decide +kernel
theorem dX5_init_17 : decode cX5_init 17 = .ok (.newarray .int, 2) := by decide +kernel
theorem dX5_init_19 : decode cX5_init 19 = .ok (.putfield 18, 3) := by decide +kernel
theorem dX5_init_22 : decode cX5_init 22 = .ok (.return_, 1) := by decide +kernel
theorem dX5_isMissing_0 : decode cX5_isMissing 0 = .ok (.aload_n 0, 1) := by decide +kernel
theorem dX5_isMissing_1 : decode cX5_isMissing 1 = .ok (.getfield 9, 3) := by decide +kernel
theorem dX5_isMissing_4 : decode cX5_isMissing 4 = .ok (.iconst (-1), 1) := by decide +kernel
theorem dX5_isMissing_5 : decode cX5_isMissing 5 = .ok (.if_icmp .ne 7, 3) := by decide +kernel
theorem dX5_isMissing_8 : decode cX5_isMissing 8 = .ok (.iconst 1, 1) := by decide +kernel
theorem dX5_isMissing_9 : decode cX5_isMissing 9 = .ok (.goto 4, 3) := by decide +kernel
theorem dX5_isMissing_12 : decode cX5_isMissing 12 = .ok (.iconst 0, 1) := by decide +kernel
theorem dX5_isMissing_13 : decode cX5_isMissing 13 = .ok (.ireturn, 1) := by decide +kernel
theorem dX5_holds_0 : decode cX5_holds 0 = .ok (.iload_n 2, 1) := by decide +kernel
theorem dX5_holds_1 : decode cX5_holds 1 = .ok (.ifCond .lt 29, 3) := by decide +kernel
theorem dX5_holds_4 : decode cX5_holds 4 = .ok (.iload_n 1, 1) := by decide +kernel
theorem dX5_holds_5 : decode cX5_holds 5 = .ok (.ifCond .lt 25, 3) := by decide +kernel
theorem dX5_holds_8 : decode cX5_holds 8 = .ok (.iload_n 1, 1) := by decide +kernel
theorem dX5_holds_9 : decode cX5_holds 9 = .ok (.aload_n 0, 1) := by decide +kernel
theorem dX5_holds_10 : decode cX5_holds 10 = .ok (.getfield 15, 3) := by decide +kernel
theorem dX5_holds_13 : decode cX5_holds 13 = .ok (.if_icmp .gt 17, 3) := by decide +kernel
theorem dX5_holds_16 : decode cX5_holds 16 = .ok (.iload_n 2, 1) := by decide +kernel
theorem dX5_holds_17 : decode cX5_holds 17 = .ok (.aload_n 0, 1) := by decide +kernel
theorem dX5_holds_18 : decode cX5_holds 18 = .ok (.getfield 15, 3) := by decide +kernel
theorem dX5_holds_21 : decode cX5_holds 21 = .ok (.iload_n 1, 1) := by decide +kernel
theorem dX5_holds_22 : decode cX5_holds 22 = .ok (.isub, 1) := by decide +kernel
theorem dX5_holds_23 : decode cX5_holds 23 = .ok (.if_icmp .gt 7, 3) := by decide +kernel
theorem dX5_holds_26 : decode cX5_holds 26 = .ok (.iconst 1, 1) := by decide +kernel
theorem dX5_holds_27 : decode cX5_holds 27 = .ok (.goto 4, 3) := by decide +kernel
theorem dX5_holds_30 : decode cX5_holds 30 = .ok (.iconst 0, 1) := by decide +kernel
theorem dX5_holds_31 : decode cX5_holds 31 = .ok (.ireturn, 1) := by decide +kernel
theorem dX5_become_0 : decode cX5_become 0 = .ok (.aload_n 0, 1) := by decide +kernel
theorem dX5_become_1 : decode cX5_become 1 = .ok (.iload_n 1, 1) := by decide +kernel
theorem dX5_become_2 : decode cX5_become 2 = .ok (.putfield 9, 3) := by decide +kernel
theorem dX5_become_5 : decode cX5_become 5 = .ok (.aload_n 0, 1) := by decide +kernel
theorem dX5_become_6 : decode cX5_become 6 = .ok (.iload_n 2, 1) := by decide +kernel
theorem dX5_become_7 : decode cX5_become 7 = .ok (.bipush 40, 2) := by decide +kernel
theorem dX5_become_9 : decode cX5_become 9 = .ok (.invokestatic 22, 3) := by decide +kernel
theorem dX5_become_12 : decode cX5_become 12 = .ok (.putfield 15, 3) := by decide +kernel
theorem dX5_become_15 : decode cX5_become 15 = .ok (.iconst 0, 1) := by decide +kernel
theorem dX5_become_16 : decode cX5_become 16 = .ok (.istore_n 3, 1) := by decide +kernel
theorem dX5_become_17 : decode cX5_become 17 = .ok (.iload_n 3, 1) := by decide +kernel
theorem dX5_become_18 : decode cX5_become 18 = .ok (.bipush 40, 2) := by decide +kernel
theorem dX5_become_20 : decode cX5_become 20 = .ok (.if_icmp .ge 16, 3) := by decide +kernel
theorem dX5_become_23 : decode cX5_become 23 = .ok (.aload_n 0, 1) := by decide +kernel
theorem dX5_become_24 : decode cX5_become 24 = .ok (.getfield 18, 3) := by decide +kernel
theorem dX5_become_27 : decode cX5_become 27 = .ok (.iload_n 3, 1) := by decide +kernel
theorem dX5_become_28 : decode cX5_become 28 = .ok (.iconst 0, 1) := by decide +kernel
theorem dX5_become_29 : decode cX5_become 29 = .ok (.iastore, 1) := by decide +kernel
theorem dX5_become_30 : decode cX5_become 30 = .ok (.iinc 3 1, 3) := by decide +kernel
theorem dX5_become_33 : decode cX5_become 33 = .ok (.goto (-16), 3) := by decide +kernel
theorem dX5_become_36 : decode cX5_become 36 = .ok (.return_, 1) := by decide +kernel
theorem dX5_put_0 : decode cX5_put 0 = .ok (.aload_n 0, 1) := by decide +kernel
theorem dX5_put_1 : decode cX5_put 1 = .ok (.iload_n 1, 1) := by decide +kernel
theorem dX5_put_2 : decode cX5_put 2 = .ok (.iconst 1, 1) := by decide +kernel
theorem dX5_put_3 : decode cX5_put 3 = .ok (.invokevirtual 26, 3) := by decide +kernel
theorem dX5_put_6 : decode cX5_put 6 = .ok (.ifCond .ne 4, 3) := by decide +kernel
theorem dX5_put_9 : decode cX5_put 9 = .ok (.return_, 1) := by decide +kernel
theorem dX5_put_10 : decode cX5_put 10 = .ok (.aload_n 0, 1) := by decide +kernel
theorem dX5_put_11 : decode cX5_put 11 = .ok (.getfield 9, 3) := by decide +kernel
theorem dX5_put_14 : decode cX5_put 14 = .ok (.ifCond .ne 14, 3) := by decide +kernel
theorem dX5_put_17 : decode cX5_put 17 = .ok (.aload_n 0, 1) := by decide +kernel
theorem dX5_put_18 : decode cX5_put 18 = .ok (.getfield 18, 3) := by decide +kernel
theorem dX5_put_21 : decode cX5_put 21 = .ok (.iload_n 1, 1) := by decide +kernel
theorem dX5_put_22 : decode cX5_put 22 = .ok (.iload_n 2, 1) := by decide +kernel
theorem dX5_put_23 : decode cX5_put 23 = .ok (.i2b, 1) := by decide +kernel
theorem dX5_put_24 : decode cX5_put 24 = .ok (.iastore, 1) := by decide +kernel
theorem dX5_put_25 : decode cX5_put 25 = .ok (.goto 29, 3) := by decide +kernel
theorem dX5_put_28 : decode cX5_put 28 = .ok (.aload_n 0, 1) := by decide +kernel
theorem dX5_put_29 : decode cX5_put 29 = .ok (.getfield 9, 3) := by decide +kernel
theorem dX5_put_32 : decode cX5_put 32 = .ok (.iconst 1, 1) := by decide +kernel
theorem dX5_put_33 : decode cX5_put 33 = .ok (.if_icmp .ne 14, 3) := by decide +kernel
theorem dX5_put_36 : decode cX5_put 36 = .ok (.aload_n 0, 1) := by decide +kernel
theorem dX5_put_37 : decode cX5_put 37 = .ok (.getfield 18, 3) := by decide +kernel
theorem dX5_put_40 : decode cX5_put 40 = .ok (.iload_n 1, 1) := by decide +kernel
theorem dX5_put_41 : decode cX5_put 41 = .ok (.iload_n 2, 1) := by decide +kernel
theorem dX5_put_42 : decode cX5_put 42 = .ok (.i2s, 1) := by decide +kernel
theorem dX5_put_43 : decode cX5_put 43 = .ok (.iastore, 1) := by decide +kernel
theorem dX5_put_44 : decode cX5_put 44 = .ok (.goto 10, 3) := by decide +kernel
theorem dX5_put_47 : decode cX5_put 47 = .ok (.aload_n 0, 1) := by decide +kernel
theorem dX5_put_48 : decode cX5_put 48 = .ok (.getfield 18, 3) := by decide +kernel
theorem dX5_put_51 : decode cX5_put 51 = .ok (.iload_n 1, 1) := by decide +kernel
theorem dX5_put_52 : decode cX5_put 52 = .ok (.iload_n 2, 1) := by decide +kernel
theorem dX5_put_53 : decode cX5_put 53 = .ok (.iastore, 1) := by decide +kernel
theorem dX5_put_54 : decode cX5_put 54 = .ok (.return_, 1) := by decide +kernel
theorem dX6_init_0 : decode cX6_init 0 = .ok (.aload_n 0, 1) := by decide +kernel
theorem dX6_init_1 : decode cX6_init 1 = .ok (.invokespecial 3, 3) := by decide +kernel
theorem dX6_init_4 : decode cX6_init 4 = .ok (.aload_n 0, 1) := by decide +kernel
theorem dX6_init_5 : decode cX6_init 5 = .ok (.bipush 10, 2) := by decide +kernel
theorem dX6_init_7 : decode cX6_init 7 = .ok (.putfield 9, 3) := by decide +kernel
theorem dX6_init_10 : decode cX6_init 10 = .ok (.aload_n 0, 1) := by decide +kernel
theorem dX6_init_11 : decode cX6_init 11 = .ok (.iconst 4, 1) := by decide +kernel
theorem dX6_init_12 : decode cX6_init 12 = .ok (.putfield 15, 3) := by decide +kernel
theorem dX6_init_15 : decode cX6_init 15 = .ok (.aload_n 0, 1) := by decide +kernel
theorem dX6_init_16 : decode cX6_init 16 = .ok (.iconst 1, 1) := by decide +kernel
theorem dX6_init_17 : decode cX6_init 17 = .ok (.putfield 18, 3) := by decide +kernel
theorem dX6_init_20 : decode cX6_init 20 = .ok (.aload_n 0, 1) := by decide +kernel
theorem dX6_init_21 : decode cX6_init 21 = .ok (.sipush 1023, 3) := by decide +kernel
theorem dX6_init_24 : decode cX6_init 24 = .ok (.putfield 21, 3) := by decide +kernel
theorem dX6_init_27 : decode cX6_init 27 = .ok (.aload_n 0, 1) := by decide +kernel
theorem dX6_init_28 : decode cX6_init 28 = .ok (.iconst 2, 1) := by decide +kernel
theorem dX6_init_29 : decode cX6_init 29 = .ok (.putfield 24, 3) := by decide +kernel
theorem dX6_init_32 : decode cX6_init 32 = .ok (.aload_n 0, 1) := by decide +kernel
theorem dX6_init_33 : decode cX6_init 33 = .ok (.iconst 0, 1) := by decide +kernel
theorem dX6_init_34 : decode cX6_init 34 = .ok (.putfield 27, 3) := by decide +kernel
theorem dX6_init_37 : decode cX6_init 37 = .ok (.aload_n 0, 1) := by decide +kernel
theorem dX6_init_38 : decode cX6_init 38 = .ok (.iconst 0, 1) := by decide +kernel
theorem dX6_init_39 : decode cX6_init 39 = .ok (.putfield 30, 3) := by decide +kernel
theorem dX6_init_42 : decode cX6_init 42 = .ok (.aload_n 0, 1) := by decide +kernel
theorem dX6_init_43 : decode cX6_init 43 = .ok (.bipush 8, 2) := by decide +kernel
theorem dX6_init_45 : decode cX6_init 45 = .ok (.anewarray 33, 3) := by decide +kernel
theorem dX6_init_48 : decode cX6_init 48 = .ok (.putfield 35, 3) := by decide +kernel
theorem dX6_init_51 : decode cX6_init 51 = .ok (.iconst 0, 1) := by decide +kernel
theorem dX6_init_52 : decode cX6_init 52 = .ok (.istore_n 1, 1) := by decide +kernel
theorem dX6_init_53 : decode cX6_init 53 = .ok (.iload_n 1, 1) := by decide +kernel
theorem dX6_init_54 : decode cX6_init 54 = .ok (.bipush 8, 2) := by decide +kernel
theorem dX6_init_56 : decode cX6_init 56 = .ok (.if_icmp .ge 22, 3) := by decide +kernel
theorem dX6_init_59 : decode cX6_init 59 = .ok (.aload_n 0, 1) := by decide +kernel
theorem dX6_init_60 : decode cX6_init 60 = .ok (.getfield 35, 3) := by decide +kernel
theorem dX6_init_63 : decode cX6_init 63 = .ok (.iload_n 1, 1) := by decide +kernel
theorem dX6_init_64 : decode cX6_init 64 = .ok (.new 33, 3) := by decide +kernel
theorem dX6_init_67 : decode cX6_init 67 = .ok (.dup, 1) := by decide +kernel
theorem dX6_init_68 : decode cX6_init 68 = .ok (.invokespecial 39, 3) := by decide +kernel
theorem dX6_init_71 : decode cX6_init 71 = .ok (.aastore, 1) := by decide +kernel
theorem dX6_init_72 : decode cX6_init 72 = .ok (.iinc 1 1, 3) := by decide +kernel
theorem dX6_init_75 : decode cX6_init 75 = .ok (.goto (-22), 3) := by decide +kernel
theorem dX6_init_78 : decode cX6_init 78 = .ok (.return_, 1) := by decide +kernel
theorem dX6_become_0 : decode cX6_become 0 = .ok (.aload_n 0, 1) := by decide +kernel
theorem dX6_become_1 : decode cX6_become 1 = .ok (.aload_n 1, 1) := by decide +kernel
theorem dX6_become_2 : decode cX6_become 2 = .ok (.getfield 9, 3) := by decide +kernel
theorem dX6_become_5 : decode cX6_become 5 = .ok (.putfield 9, 3) := by decide +kernel
theorem dX6_become_8 : decode cX6_become 8 = .ok (.aload_n 0, 1) := by decide +kernel
theorem dX6_become_9 : decode cX6_become 9 = .ok (.aload_n 1, 1) := by decide +kernel
theorem dX6_become_10 : decode cX6_become 10 = .ok (.getfield 15, 3) := by decide +kernel
theorem dX6_become_13 : decode cX6_become 13 = .ok (.putfield 15, 3) := by decide +kernel
theorem dX6_become_16 : decode cX6_become 16 = .ok (.aload_n 0, 1) := by decide +kernel
theorem dX6_become_17 : decode cX6_become 17 = .ok (.aload_n 1, 1) := by decide +kernel
theorem dX6_become_18 : decode cX6_become 18 = .ok (.getfield 18, 3) := by decide +kernel
theorem dX6_become_21 : decode cX6_become 21 = .ok (.putfield 18, 3) := by decide +kernel
theorem dX6_become_24 : decode cX6_become 24 = .ok (.aload_n 0, 1) := by decide +kernel
theorem dX6_become_25 : decode cX6_become 25 = .ok (.aload_n 1, 1) := by decide +kernel
theorem dX6_become_26 : decode cX6_become 26 = .ok (.getfield 21, 3) := by decide +kernel
theorem dX6_become_29 : decode cX6_become 29 = .ok (.putfield 21, 3) := by decide +kernel
theorem dX6_become_32 : decode cX6_become 32 = .ok (.aload_n 0, 1) := by decide +kernel
theorem dX6_become_33 : decode cX6_become 33 = .ok (.aload_n 1, 1) := by decide +kernel
theorem dX6_become_34 : decode cX6_become 34 = .ok (.getfield 24, 3) := by decide +kernel
theorem dX6_become_37 : decode cX6_become 37 = .ok (.putfield 24, 3) := by decide +kernel
theorem dX6_become_40 : decode cX6_become 40 = .ok (.aload_n 0, 1) := by decide +kernel
theorem dX6_become_41 : decode cX6_become 41 = .ok (.aload_n 1, 1) := by decide +kernel
theorem dX6_become_42 : decode cX6_become 42 = .ok (.getfield 27, 3) := by decide +kernel
theorem dX6_become_45 : decode cX6_become 45 = .ok (.putfield 27, 3) := by decide +kernel
theorem dX6_become_48 : decode cX6_become 48 = .ok (.aload_n 0, 1) := by decide +kernel
theorem dX6_become_49 : decode cX6_become 49 = .ok (.aload_n 1, 1) := by decide +kernel
theorem dX6_become_50 : decode cX6_become 50 = .ok (.getfield 30, 3) := by decide +kernel
theorem dX6_become_53 : decode cX6_become 53 = .ok (.putfield 30, 3) := by decide +kernel
theorem dX6_become_56 : decode cX6_become 56 = .ok (.iconst 0, 1) := by decide +kernel
theorem dX6_become_57 : decode cX6_become 57 = .ok (.istore_n 2, 1) := by decide +kernel
theorem dX6_become_58 : decode cX6_become 58 = .ok (.iload_n 2, 1) := by decide +kernel
theorem dX6_become_59 : decode cX6_become 59 = .ok (.aload_n 0, 1) := by decide +kernel
theorem dX6_become_60 : decode cX6_become 60 = .ok (.getfield 30, 3) := by decide +kernel
theorem dX6_become_63 : decode cX6_become 63 = .ok (.if_icmp .ge 30, 3) := by decide +kernel
theorem dX6_become_66 : decode cX6_become 66 = .ok (.iload_n 2, 1) := by decide +kernel
theorem dX6_become_67 : decode cX6_become 67 = .ok (.bipush 8, 2) := by decide +kernel
theorem dX6_become_69 : decode cX6_become 69 = .ok (.if_icmp .ge 24, 3) := by decide +kernel
theorem dX6_become_72 : decode cX6_become 72 = .ok (.aload_n 0, 1) := by decide +kernel
theorem dX6_become_73 : decode cX6_become 73 = .ok (.getfield 35, 3) := by decide +kernel
theorem dX6_become_76 : decode cX6_become 76 = .ok (.iload_n 2, 1) := by decide +kernel
theorem dX6_become_77 : decode cX6_become 77 = .ok (.aaload, 1) := by decide +kernel
theorem dX6_become_78 : decode cX6_become 78 = .ok (.aload_n 1, 1) := by decide +kernel
theorem dX6_become_79 : decode cX6_become 79 = .ok (.getfield 35, 3) := by decide +kernel
theorem dX6_become_82 : decode cX6_become 82 = .ok (.iload_n 2, 1) := by decide +kernel
theorem dX6_become_83 : decode cX6_become 83 = .ok (.aaload, 1) := by decide +kernel
theorem dX6_become_84 : decode cX6_become 84 = .ok (.invokevirtual 40, 3) := by decide +kernel
theorem dX6_become_87 : decode cX6_become 87 = .ok (.iinc 2 1, 3) := by decide +kernel
theorem dX6_become_90 : decode cX6_become 90 = .ok (.goto (-32), 3) := by decide +kernel
theorem dX6_become_93 : decode cX6_become 93 = .ok (.return_, 1) := by decide +kernel
theorem dX6_has_0 : decode cX6_has 0 = .ok (.iload_n 1, 1) := by decide +kernel
theorem dX6_has_1 : decode cX6_has 1 = .ok (.ifCond .lt 21, 3) := by decide +kernel
theorem dX6_has_4 : decode cX6_has 4 = .ok (.iload_n 1, 1) := by decide +kernel
theorem dX6_has_5 : decode cX6_has 5 = .ok (.aload_n 0, 1) := by decide +kernel
theorem dX6_has_6 : decode cX6_has 6 = .ok (.getfield 30, 3) := by decide +kernel
theorem dX6_has_9 : decode cX6_has 9 = .ok (.if_icmp .ge 13, 3) := by decide +kernel
theorem dX6_has_12 : decode cX6_has 12 = .ok (.iload_n 1, 1) := by decide +kernel
theorem dX6_has_13 : decode cX6_has 13 = .ok (.bipush 8, 2) := by decide +kernel
theorem dX6_has_15 : decode cX6_has 15 = .ok (.if_icmp .ge 7, 3) := by decide +kernel
theorem dX6_has_18 : decode cX6_has 18 = .ok (.iconst 1, 1) := by decide +kernel
theorem dX6_has_19 : decode cX6_has 19 = .ok (.goto 4, 3) := by decide +kernel
theorem dX6_has_22 : decode cX6_has 22 = .ok (.iconst 0, 1) := by decide +kernel
theorem dX6_has_23 : decode cX6_has 23 = .ok (.ireturn, 1) := by decide +kernel
theorem dX6_isThere_0 : decode cX6_isThere 0 = .ok (.aload_n 0, 1) := by decide +kernel
theorem dX6_isThere_1 : decode cX6_isThere 1 = .ok (.getfield 21, 3) := by decide +kernel
theorem dX6_isThere_4 : decode cX6_isThere 4 = .ok (.aload_n 1, 1) := by decide +kernel
theorem dX6_isThere_5 : decode cX6_isThere 5 = .ok (.getfield 44, 3) := by decide +kernel
theorem dX6_isThere_8 : decode cX6_isThere 8 = .ok (.ishr, 1) := by decide +kernel
theorem dX6_isThere_9 : decode cX6_isThere 9 = .ok (.iconst 1, 1) := by decide +kernel
theorem dX6_isThere_10 : decode cX6_isThere 10 = .ok (.iand, 1) := by decide +kernel
theorem dX6_isThere_11 : decode cX6_isThere 11 = .ok (.iconst 1, 1) := by decide +kernel
theorem dX6_isThere_12 : decode cX6_isThere 12 = .ok (.if_icmp .ne 7, 3) := by decide +kernel
theorem dX6_isThere_15 : decode cX6_isThere 15 = .ok (.iconst 1, 1) := by decide +kernel
theorem dX6_isThere_16 : decode cX6_isThere 16 = .ok (.goto 4, 3) := by decide +kernel
theorem dX6_isThere_19 : decode cX6_isThere 19 = .ok (.iconst 0, 1) := by decide +kernel
theorem dX6_isThere_20 : decode cX6_isThere 20 = .ok (.ireturn, 1) := by decide +kernel
theorem dX6_thereAmong_0 : decode cX6_thereAmong 0 = .ok (.iconst 0, 1) := by decide +kernel
theorem dX6_thereAmong_1 : decode cX6_thereAmong 1 = .ok (.istore_n 2, 1) := by decide +kernel
theorem dX6_thereAmong_2 : decode cX6_thereAmong 2 = .ok (.iconst 0, 1) := by decide +kernel
theorem dX6_thereAmong_3 : decode cX6_thereAmong 3 = .ok (.istore_n 3, 1) := by decide +kernel
theorem dX6_thereAmong_4 : decode cX6_thereAmong 4 = .ok (.iload_n 3, 1) := by decide +kernel
theorem dX6_thereAmong_5 : decode cX6_thereAmong 5 = .ok (.aload_n 0, 1) := by decide +kernel
theorem dX6_thereAmong_6 : decode cX6_thereAmong 6 = .ok (.getfield 30, 3) := by decide +kernel
theorem dX6_thereAmong_9 : decode cX6_thereAmong 9 = .ok (.if_icmp .ge 51, 3) := by decide +kernel
theorem dX6_thereAmong_12 : decode cX6_thereAmong 12 = .ok (.iload_n 3, 1) := by decide +kernel
theorem dX6_thereAmong_13 : decode cX6_thereAmong 13 = .ok (.bipush 8, 2) := by decide +kernel
theorem dX6_thereAmong_15 : decode cX6_thereAmong 15 = .ok (.if_icmp .ge 45, 3) := by decide +kernel
theorem dX6_thereAmong_18 : decode cX6_thereAmong 18 = .ok (.aload_n 0, 1) := by decide +kernel
theorem dX6_thereAmong_19 : decode cX6_thereAmong 19 = .ok (.aload_n 0, 1) := by decide +kernel
theorem dX6_thereAmong_20 : decode cX6_thereAmong 20 = .ok (.getfield 35, 3) := by decide +kernel
theorem dX6_thereAmong_23 : decode cX6_thereAmong 23 = .ok (.iload_n 3, 1) := by decide +kernel
theorem dX6_thereAmong_24 : decode cX6_thereAmong 24 = .ok (.aaload, 1) := by decide +kernel
theorem dX6_thereAmong_25 : decode cX6_thereAmong 25 = .ok (.invokevirtual 47, 3) := by decide +kernel
theorem dX6_thereAmong_28 : decode cX6_thereAmong 28 = .ok (.ifCond .eq 26, 3) := by decide +kernel
theorem dX6_thereAmong_31 : decode cX6_thereAmong 31 = .ok (.iload_n 1, 1) := by decide +kernel
theorem dX6_thereAmong_32 : decode cX6_thereAmong 32 = .ok (.aload_n 0, 1) := by decide +kernel
theorem dX6_thereAmong_33 : decode cX6_thereAmong 33 = .ok (.getfield 35, 3) := by decide +kernel
theorem dX6_thereAmong_36 : decode cX6_thereAmong 36 = .ok (.iload_n 3, 1) := by decide +kernel
theorem dX6_thereAmong_37 : decode cX6_thereAmong 37 = .ok (.aaload, 1) := by decide +kernel
theorem dX6_thereAmong_38 : decode cX6_thereAmong 38 = .ok (.getfield 44, 3) := by decide +kernel
theorem dX6_thereAmong_41 : decode cX6_thereAmong 41 = .ok (.ishr, 1) := by decide +kernel
theorem dX6_thereAmong_42 : decode cX6_thereAmong 42 = .ok (.iconst 1, 1) := by decide +kernel
theorem dX6_thereAmong_43 : decode cX6_thereAmong 43 = .ok (.iand, 1) := by decide +kernel
theorem dX6_thereAmong_44 : decode cX6_thereAmong 44 = .ok (.iconst 1, 1) := by decide +kernel
theorem dX6_thereAmong_45 : decode cX6_thereAmong 45 = .ok (.if_icmp .ne 9, 3) := by decide +kernel
theorem dX6_thereAmong_48 : decode cX6_thereAmong 48 = .ok (.iload_n 2, 1) := by decide +kernel
theorem dX6_thereAmong_49 : decode cX6_thereAmong 49 = .ok (.iconst 1, 1) := by decide +kernel
theorem dX6_thereAmong_50 : decode cX6_thereAmong 50 = .ok (.iload_n 3, 1) := by decide +kernel
theorem dX6_thereAmong_51 : decode cX6_thereAmong 51 = .ok (.ishl, 1) := by decide +kernel
theorem dX6_thereAmong_52 : decode cX6_thereAmong 52 = .ok (.ior, 1) := by decide +kernel
theorem dX6_thereAmong_53 : decode cX6_thereAmong 53 = .ok (.istore_n 2, 1) := by decide +kernel
theorem dX6_thereAmong_54 : decode cX6_thereAmong 54 = .ok (.iinc 3 1, 3) := by decide +kernel
theorem dX6_thereAmong_57 : decode cX6_thereAmong 57 = .ok (.goto (-53), 3) := by decide +kernel
theorem dX6_thereAmong_60 : decode cX6_thereAmong 60 = .ok (.iload_n 2, 1) := by decide +kernel
theorem dX6_thereAmong_61 : decode cX6_thereAmong 61 = .ok (.ireturn, 1) := by decide +kernel
theorem dX6_boughtByAll_0 : decode cX6_boughtByAll 0 = .ok (.iconst 0, 1) := by decide +kernel
theorem dX6_boughtByAll_1 : decode cX6_boughtByAll 1 = .ok (.istore_n 1, 1) := by decide +kernel
theorem dX6_boughtByAll_2 : decode cX6_boughtByAll 2 = .ok (.iconst 0, 1) := by decide +kernel
theorem dX6_boughtByAll_3 : decode cX6_boughtByAll 3 = .ok (.istore_n 2, 1) := by decide +kernel
theorem dX6_boughtByAll_4 : decode cX6_boughtByAll 4 = .ok (.iload_n 2, 1) := by decide +kernel
theorem dX6_boughtByAll_5 : decode cX6_boughtByAll 5 = .ok (.aload_n 0, 1) := by decide +kernel
theorem dX6_boughtByAll_6 : decode cX6_boughtByAll 6 = .ok (.getfield 30, 3) := by decide +kernel
theorem dX6_boughtByAll_9 : decode cX6_boughtByAll 9 = .ok (.if_icmp .ge 27, 3) := by decide +kernel
theorem dX6_boughtByAll_12 : decode cX6_boughtByAll 12 = .ok (.iload_n 2, 1) := by decide +kernel
theorem dX6_boughtByAll_13 : decode cX6_boughtByAll 13 = .ok (.bipush 8, 2) := by decide +kernel
theorem dX6_boughtByAll_15 : decode cX6_boughtByAll 15 = .ok (.if_icmp .ge 21, 3) := by decide +kernel
theorem dX6_boughtByAll_18 : decode cX6_boughtByAll 18 = .ok (.iload_n 1, 1) := by decide +kernel
theorem dX6_boughtByAll_19 : decode cX6_boughtByAll 19 = .ok (.aload_n 0, 1) := by decide +kernel
theorem dX6_boughtByAll_20 : decode cX6_boughtByAll 20 = .ok (.getfield 35, 3) := by decide +kernel
theorem dX6_boughtByAll_23 : decode cX6_boughtByAll 23 = .ok (.iload_n 2, 1) := by decide +kernel
theorem dX6_boughtByAll_24 : decode cX6_boughtByAll 24 = .ok (.aaload, 1) := by decide +kernel
theorem dX6_boughtByAll_25 : decode cX6_boughtByAll 25 = .ok (.getfield 51, 3) := by decide +kernel
theorem dX6_boughtByAll_28 : decode cX6_boughtByAll 28 = .ok (.iadd, 1) := by decide +kernel
theorem dX6_boughtByAll_29 : decode cX6_boughtByAll 29 = .ok (.istore_n 1, 1) := by decide +kernel
theorem dX6_boughtByAll_30 : decode cX6_boughtByAll 30 = .ok (.iinc 2 1, 3) := by decide +kernel
theorem dX6_boughtByAll_33 : decode cX6_boughtByAll 33 = .ok (.goto (-29), 3) := by decide +kernel
theorem dX6_boughtByAll_36 : decode cX6_boughtByAll 36 = .ok (.iload_n 1, 1) := by decide +kernel
theorem dX6_boughtByAll_37 : decode cX6_boughtByAll 37 = .ok (.ireturn, 1) := by decide +kernel
theorem dX6_reading_0 : decode cX6_reading 0 = .ok (.iload_n 1, 1) := by decide +kernel
theorem dX6_reading_1 : decode cX6_reading 1 = .ok (.tableswitch 51 0 3 #[31, 36, 41, 46], 31) := by decide +kernel
theorem dX6_reading_32 : decode cX6_reading 32 = .ok (.aload_n 0, 1) := by decide +kernel
theorem dX6_reading_33 : decode cX6_reading 33 = .ok (.getfield 9, 3) := by decide +kernel
theorem dX6_reading_36 : decode cX6_reading 36 = .ok (.ireturn, 1) := by decide +kernel
theorem dX6_reading_37 : decode cX6_reading 37 = .ok (.aload_n 0, 1) := by decide +kernel
theorem dX6_reading_38 : decode cX6_reading 38 = .ok (.getfield 15, 3) := by decide +kernel
theorem dX6_reading_41 : decode cX6_reading 41 = .ok (.ireturn, 1) := by decide +kernel
theorem dX6_reading_42 : decode cX6_reading 42 = .ok (.aload_n 0, 1) := by decide +kernel
theorem dX6_reading_43 : decode cX6_reading 43 = .ok (.getfield 18, 3) := by decide +kernel
theorem dX6_reading_46 : decode cX6_reading 46 = .ok (.ireturn, 1) := by decide +kernel
theorem dX6_reading_47 : decode cX6_reading 47 = .ok (.aload_n 0, 1) := by decide +kernel
theorem dX6_reading_48 : decode cX6_reading 48 = .ok (.getfield 21, 3) := by decide +kernel
theorem dX6_reading_51 : decode cX6_reading 51 = .ok (.ireturn, 1) := by decide +kernel
theorem dX6_reading_52 : decode cX6_reading 52 = .ok (.aload_n 0, 1) := by decide +kernel
theorem dX6_reading_53 : decode cX6_reading 53 = .ok (.getfield 24, 3) := by decide +kernel
theorem dX6_reading_56 : decode cX6_reading 56 = .ok (.ireturn, 1) := by decide +kernel
theorem dX6_lay_0 : decode cX6_lay 0 = .ok (.iload_n 1, 1) := by decide +kernel
theorem dX6_lay_1 : decode cX6_lay 1 = .ok (.tableswitch 75 0 4 #[35, 43, 51, 59, 67], 35) := by decide +kernel
theorem dX6_lay_36 : decode cX6_lay 36 = .ok (.aload_n 0, 1) := by decide +kernel
theorem dX6_lay_37 : decode cX6_lay 37 = .ok (.iload_n 2, 1) := by decide +kernel
theorem dX6_lay_38 : decode cX6_lay 38 = .ok (.putfield 9, 3) := by decide +kernel
theorem dX6_lay_41 : decode cX6_lay 41 = .ok (.goto 35, 3) := by decide +kernel
theorem dX6_lay_44 : decode cX6_lay 44 = .ok (.aload_n 0, 1) := by decide +kernel
theorem dX6_lay_45 : decode cX6_lay 45 = .ok (.iload_n 2, 1) := by decide +kernel
theorem dX6_lay_46 : decode cX6_lay 46 = .ok (.putfield 15, 3) := by decide +kernel
theorem dX6_lay_49 : decode cX6_lay 49 = .ok (.goto 27, 3) := by decide +kernel
theorem dX6_lay_52 : decode cX6_lay 52 = .ok (.aload_n 0, 1) := by decide +kernel
theorem dX6_lay_53 : decode cX6_lay 53 = .ok (.iload_n 2, 1) := by decide +kernel
theorem dX6_lay_54 : decode cX6_lay 54 = .ok (.putfield 18, 3) := by decide +kernel
theorem dX6_lay_57 : decode cX6_lay 57 = .ok (.goto 19, 3) := by decide +kernel
theorem dX6_lay_60 : decode cX6_lay 60 = .ok (.aload_n 0, 1) := by decide +kernel
theorem dX6_lay_61 : decode cX6_lay 61 = .ok (.iload_n 2, 1) := by decide +kernel
theorem dX6_lay_62 : decode cX6_lay 62 = .ok (.putfield 21, 3) := by decide +kernel
theorem dX6_lay_65 : decode cX6_lay 65 = .ok (.goto 11, 3) := by decide +kernel
theorem dX6_lay_68 : decode cX6_lay 68 = .ok (.aload_n 0, 1) := by decide +kernel
theorem dX6_lay_69 : decode cX6_lay 69 = .ok (.iload_n 2, 1) := by decide +kernel
theorem dX6_lay_70 : decode cX6_lay 70 = .ok (.putfield 24, 3) := by decide +kernel
theorem dX6_lay_73 : decode cX6_lay 73 = .ok (.goto 3, 3) := by decide +kernel
theorem dX6_lay_76 : decode cX6_lay 76 = .ok (.return_, 1) := by decide +kernel
theorem dX7_init_0 : decode cX7_init 0 = .ok (.aload_n 0, 1) := by decide +kernel
theorem dX7_init_1 : decode cX7_init 1 = .ok (.invokespecial 3, 3) := by decide +kernel
theorem dX7_init_4 : decode cX7_init 4 = .ok (.aload_n 0, 1) := by decide +kernel
theorem dX7_init_5 : decode cX7_init 5 = .ok (.sipush 160, 3) := by decide +kernel
theorem dX7_init_8 : decode cX7_init 8 = .ok (.newarray .int, 2) := by decide +kernel
theorem dX7_init_10 : decode cX7_init 10 = .ok (.putfield 9, 3) := by decide +kernel
theorem dX7_init_13 : decode cX7_init 13 = .ok (.aload_n 0, 1) := by decide +kernel
theorem dX7_init_14 : decode cX7_init 14 = .ok (.iconst 0, 1) := by decide +kernel
theorem dX7_init_15 : decode cX7_init 15 = .ok (.putfield 15, 3) := by decide +kernel
theorem dX7_init_18 : decode cX7_init 18 = .ok (.return_, 1) := by decide +kernel
theorem dX7_take_0 : decode cX7_take 0 = .ok (.aload_n 0, 1) := by decide +kernel
theorem dX7_take_1 : decode cX7_take 1 = .ok (.getfield 15, 3) := by decide +kernel
theorem dX7_take_4 : decode cX7_take 4 = .ok (.ifCond .lt 13, 3) := by decide +kernel
theorem dX7_take_7 : decode cX7_take 7 = .ok (.aload_n 0, 1) := by decide +kernel
theorem dX7_take_8 : decode cX7_take 8 = .ok (.getfield 15, 3) := by decide +kernel
theorem dX7_take_11 : decode cX7_take 11 = .ok (.sipush 160, 3) := by decide +kernel
theorem dX7_take_14 : decode cX7_take 14 = .ok (.if_icmp .lt 5, 3) := by decide +kernel
theorem dX7_take_17 : decode cX7_take 17 = .ok (.iconst 0, 1) := by decide +kernel
theorem dX7_take_18 : decode cX7_take 18 = .ok (.ireturn, 1) := by decide +kernel
theorem dX7_take_19 : decode cX7_take 19 = .ok (.aload_n 0, 1) := by decide +kernel
theorem dX7_take_20 : decode cX7_take 20 = .ok (.getfield 9, 3) := by decide +kernel
theorem dX7_take_23 : decode cX7_take 23 = .ok (.aload_n 0, 1) := by decide +kernel
theorem dX7_take_24 : decode cX7_take 24 = .ok (.getfield 15, 3) := by decide +kernel
theorem dX7_take_27 : decode cX7_take 27 = .ok (.iload_n 1, 1) := by decide +kernel
theorem dX7_take_28 : decode cX7_take 28 = .ok (.iastore, 1) := by decide +kernel
theorem dX7_take_29 : decode cX7_take 29 = .ok (.aload_n 0, 1) := by decide +kernel
theorem dX7_take_30 : decode cX7_take 30 = .ok (.dup, 1) := by decide +kernel
theorem dX7_take_31 : decode cX7_take 31 = .ok (.getfield 15, 3) := by decide +kernel
theorem dX7_take_34 : decode cX7_take 34 = .ok (.iconst 1, 1) := by decide +kernel
theorem dX7_take_35 : decode cX7_take 35 = .ok (.iadd, 1) := by decide +kernel
theorem dX7_take_36 : decode cX7_take 36 = .ok (.putfield 15, 3) := by decide +kernel
theorem dX7_take_39 : decode cX7_take 39 = .ok (.iconst 1, 1) := by decide +kernel
theorem dX7_take_40 : decode cX7_take 40 = .ok (.ireturn, 1) := by decide +kernel
theorem dX7_letterAt_0 : decode cX7_letterAt 0 = .ok (.iload_n 1, 1) := by decide +kernel
theorem dX7_letterAt_1 : decode cX7_letterAt 1 = .ok (.ifCond .lt 27, 3) := by decide +kernel
theorem dX7_letterAt_4 : decode cX7_letterAt 4 = .ok (.iload_n 1, 1) := by decide +kernel
theorem dX7_letterAt_5 : decode cX7_letterAt 5 = .ok (.aload_n 0, 1) := by decide +kernel
theorem dX7_letterAt_6 : decode cX7_letterAt 6 = .ok (.getfield 15, 3) := by decide +kernel
theorem dX7_letterAt_9 : decode cX7_letterAt 9 = .ok (.if_icmp .ge 19, 3) := by decide +kernel
theorem dX7_letterAt_12 : decode cX7_letterAt 12 = .ok (.iload_n 1, 1) := by decide +kernel
theorem dX7_letterAt_13 : decode cX7_letterAt 13 = .ok (.sipush 160, 3) := by decide +kernel
theorem dX7_letterAt_16 : decode cX7_letterAt 16 = .ok (.if_icmp .ge 12, 3) := by decide +kernel
theorem dX7_letterAt_19 : decode cX7_letterAt 19 = .ok (.aload_n 0, 1) := by decide +kernel
theorem dX7_letterAt_20 : decode cX7_letterAt 20 = .ok (.getfield 9, 3) := by decide +kernel
theorem dX7_letterAt_23 : decode cX7_letterAt 23 = .ok (.iload_n 1, 1) := by decide +kernel
theorem dX7_letterAt_24 : decode cX7_letterAt 24 = .ok (.iaload, 1) := by decide +kernel
theorem dX7_letterAt_25 : decode cX7_letterAt 25 = .ok (.goto 4, 3) := by decide +kernel
theorem dX7_letterAt_28 : decode cX7_letterAt 28 = .ok (.iconst (-1), 1) := by decide +kernel
theorem dX7_letterAt_29 : decode cX7_letterAt 29 = .ok (.ireturn, 1) := by decide +kernel
theorem dX7_isBlank_0 : decode cX7_isBlank 0 = .ok (.aload_n 0, 1) := by decide +kernel
theorem dX7_isBlank_1 : decode cX7_isBlank 1 = .ok (.iload_n 1, 1) := by decide +kernel
theorem dX7_isBlank_2 : decode cX7_isBlank 2 = .ok (.invokevirtual 19, 3) := by decide +kernel
theorem dX7_isBlank_5 : decode cX7_isBlank 5 = .ok (.istore_n 2, 1) := by decide +kernel
theorem dX7_isBlank_6 : decode cX7_isBlank 6 = .ok (.iload_n 2, 1) := by decide +kernel
theorem dX7_isBlank_7 : decode cX7_isBlank 7 = .ok (.bipush 32, 2) := by decide +kernel
theorem dX7_isBlank_9 : decode cX7_isBlank 9 = .ok (.if_icmp .eq 9, 3) := by decide +kernel
theorem dX7_isBlank_12 : decode cX7_isBlank 12 = .ok (.iload_n 2, 1) := by decide +kernel
theorem dX7_isBlank_13 : decode cX7_isBlank 13 = .ok (.bipush 10, 2) := by decide +kernel
theorem dX7_isBlank_15 : decode cX7_isBlank 15 = .ok (.if_icmp .ne 7, 3) := by decide +kernel
theorem dX7_isBlank_18 : decode cX7_isBlank 18 = .ok (.iconst 1, 1) := by decide +kernel
theorem dX7_isBlank_19 : decode cX7_isBlank 19 = .ok (.goto 4, 3) := by decide +kernel
theorem dX7_isBlank_22 : decode cX7_isBlank 22 = .ok (.iconst 0, 1) := by decide +kernel
theorem dX7_isBlank_23 : decode cX7_isBlank 23 = .ok (.ireturn, 1) := by decide +kernel
theorem dX7_isSmall_0 : decode cX7_isSmall 0 = .ok (.aload_n 0, 1) := by decide +kernel
theorem dX7_isSmall_1 : decode cX7_isSmall 1 = .ok (.iload_n 1, 1) := by decide +kernel
theorem dX7_isSmall_2 : decode cX7_isSmall 2 = .ok (.invokevirtual 19, 3) := by decide +kernel
theorem dX7_isSmall_5 : decode cX7_isSmall 5 = .ok (.istore_n 2, 1) := by decide +kernel
theorem dX7_isSmall_6 : decode cX7_isSmall 6 = .ok (.iload_n 2, 1) := by decide +kernel
theorem dX7_isSmall_7 : decode cX7_isSmall 7 = .ok (.bipush 97, 2) := by decide +kernel
theorem dX7_isSmall_9 : decode cX7_isSmall 9 = .ok (.if_icmp .lt 13, 3) := by decide +kernel
theorem dX7_isSmall_12 : decode cX7_isSmall 12 = .ok (.iload_n 2, 1) := by decide +kernel
theorem dX7_isSmall_13 : decode cX7_isSmall 13 = .ok (.bipush 122, 2) := by decide +kernel
theorem dX7_isSmall_15 : decode cX7_isSmall 15 = .ok (.if_icmp .gt 7, 3) := by decide +kernel
theorem dX7_isSmall_18 : decode cX7_isSmall 18 = .ok (.iconst 1, 1) := by decide +kernel
theorem dX7_isSmall_19 : decode cX7_isSmall 19 = .ok (.goto 4, 3) := by decide +kernel
theorem dX7_isSmall_22 : decode cX7_isSmall 22 = .ok (.iconst 0, 1) := by decide +kernel
theorem dX7_isSmall_23 : decode cX7_isSmall 23 = .ok (.ireturn, 1) := by decide +kernel
theorem dX7_isDigit_0 : decode cX7_isDigit 0 = .ok (.aload_n 0, 1) := by decide +kernel
theorem dX7_isDigit_1 : decode cX7_isDigit 1 = .ok (.iload_n 1, 1) := by decide +kernel
theorem dX7_isDigit_2 : decode cX7_isDigit 2 = .ok (.invokevirtual 19, 3) := by decide +kernel
theorem dX7_isDigit_5 : decode cX7_isDigit 5 = .ok (.istore_n 2, 1) := by decide +kernel
theorem dX7_isDigit_6 : decode cX7_isDigit 6 = .ok (.iload_n 2, 1) := by decide +kernel
theorem dX7_isDigit_7 : decode cX7_isDigit 7 = .ok (.bipush 48, 2) := by decide +kernel
theorem dX7_isDigit_9 : decode cX7_isDigit 9 = .ok (.if_icmp .lt 13, 3) := by decide +kernel
theorem dX7_isDigit_12 : decode cX7_isDigit 12 = .ok (.iload_n 2, 1) := by decide +kernel
theorem dX7_isDigit_13 : decode cX7_isDigit 13 = .ok (.bipush 57, 2) := by decide +kernel
theorem dX7_isDigit_15 : decode cX7_isDigit 15 = .ok (.if_icmp .gt 7, 3) := by decide +kernel
theorem dX7_isDigit_18 : decode cX7_isDigit 18 = .ok (.iconst 1, 1) := by decide +kernel
theorem dX7_isDigit_19 : decode cX7_isDigit 19 = .ok (.goto 4, 3) := by decide +kernel
theorem dX7_isDigit_22 : decode cX7_isDigit 22 = .ok (.iconst 0, 1) := by decide +kernel
theorem dX7_isDigit_23 : decode cX7_isDigit 23 = .ok (.ireturn, 1) := by decide +kernel
theorem dX8_init_0 : decode cX8_init 0 = .ok (.aload_n 0, 1) := by decide +kernel
theorem dX8_init_1 : decode cX8_init 1 = .ok (.invokespecial 3, 3) := by decide +kernel
theorem dX8_init_4 : decode cX8_init 4 = .ok (.aload_n 0, 1) := by decide +kernel
theorem dX8_init_5 : decode cX8_init 5 = .ok (.sipush 160, 3) := by decide +kernel
theorem dX8_init_8 : decode cX8_init 8 = .ok (.newarray .int, 2) := by decide +kernel
theorem dX8_init_10 : decode cX8_init 10 = .ok (.putfield 9, 3) := by decide +kernel
theorem dX8_init_13 : decode cX8_init 13 = .ok (.aload_n 0, 1) := by decide +kernel
theorem dX8_init_14 : decode cX8_init 14 = .ok (.iconst 3, 1) := by decide +kernel
theorem dX8_init_15 : decode cX8_init 15 = .ok (.newarray .int, 2) := by decide +kernel
theorem dX8_init_17 : decode cX8_init 17 = .ok (.putfield 15, 3) := by decide +kernel
theorem dX8_init_20 : decode cX8_init 20 = .ok (.aload_n 0, 1) := by decide +kernel
theorem dX8_init_21 : decode cX8_init 21 = .ok (.bipush 40, 2) := by decide +kernel
theorem dX8_init_23 : decode cX8_init 23 = .ok (.newarray .int, 2) := by decide +kernel
theorem dX8_init_25 : decode cX8_init 25 = .ok (.putfield 18, 3) := by decide +kernel
theorem dX8_init_28 : decode cX8_init 28 = .ok (.aload_n 0, 1) := by decide +kernel
theorem dX8_init_29 : decode cX8_init 29 = .ok (.iconst 0, 1) := by decide +kernel
theorem dX8_init_30 : decode cX8_init 30 = .ok (.putfield 21, 3) := by decide +kernel
theorem dX8_init_33 : decode cX8_init 33 = .ok (.return_, 1) := by decide +kernel
theorem dX8_add_0 : decode cX8_add 0 = .ok (.aload_n 0, 1) := by decide +kernel
theorem dX8_add_1 : decode cX8_add 1 = .ok (.getfield 21, 3) := by decide +kernel
theorem dX8_add_4 : decode cX8_add 4 = .ok (.sipush 160, 3) := by decide +kernel
theorem dX8_add_7 : decode cX8_add 7 = .ok (.if_icmp .ge 23, 3) := by decide +kernel
theorem dX8_add_10 : decode cX8_add 10 = .ok (.aload_n 0, 1) := by decide +kernel
theorem dX8_add_11 : decode cX8_add 11 = .ok (.getfield 9, 3) := by decide +kernel
theorem dX8_add_14 : decode cX8_add 14 = .ok (.aload_n 0, 1) := by decide +kernel
theorem dX8_add_15 : decode cX8_add 15 = .ok (.getfield 21, 3) := by decide +kernel
theorem dX8_add_18 : decode cX8_add 18 = .ok (.iload_n 1, 1) := by decide +kernel
theorem dX8_add_19 : decode cX8_add 19 = .ok (.iastore, 1) := by decide +kernel
theorem dX8_add_20 : decode cX8_add 20 = .ok (.aload_n 0, 1) := by decide +kernel
theorem dX8_add_21 : decode cX8_add 21 = .ok (.dup, 1) := by decide +kernel
theorem dX8_add_22 : decode cX8_add 22 = .ok (.getfield 21, 3) := by decide +kernel
theorem dX8_add_25 : decode cX8_add 25 = .ok (.iconst 1, 1) := by decide +kernel
theorem dX8_add_26 : decode cX8_add 26 = .ok (.iadd, 1) := by decide +kernel
theorem dX8_add_27 : decode cX8_add 27 = .ok (.putfield 21, 3) := by decide +kernel
theorem dX8_add_30 : decode cX8_add 30 = .ok (.return_, 1) := by decide +kernel
theorem dX8_endPart_0 : decode cX8_endPart 0 = .ok (.iload_n 1, 1) := by decide +kernel
theorem dX8_endPart_1 : decode cX8_endPart 1 = .ok (.ifCond .lt 18, 3) := by decide +kernel
theorem dX8_endPart_4 : decode cX8_endPart 4 = .ok (.iload_n 1, 1) := by decide +kernel
theorem dX8_endPart_5 : decode cX8_endPart 5 = .ok (.iconst 3, 1) := by decide +kernel
theorem dX8_endPart_6 : decode cX8_endPart 6 = .ok (.if_icmp .ge 13, 3) := by decide +kernel
theorem dX8_endPart_9 : decode cX8_endPart 9 = .ok (.aload_n 0, 1) := by decide +kernel
theorem dX8_endPart_10 : decode cX8_endPart 10 = .ok (.getfield 15, 3) := by decide +kernel
theorem dX8_endPart_13 : decode cX8_endPart 13 = .ok (.iload_n 1, 1) := by decide +kernel
theorem dX8_endPart_14 : decode cX8_endPart 14 = .ok (.aload_n 0, 1) := by decide +kernel
theorem dX8_endPart_15 : decode cX8_endPart 15 = .ok (.getfield 21, 3) := by decide +kernel
theorem dX8_endPart_18 : decode cX8_endPart 18 = .ok (.iastore, 1) := by decide +kernel
theorem dX8_endPart_19 : decode cX8_endPart 19 = .ok (.return_, 1) := by decide +kernel
theorem dX8_tell_0 : decode cX8_tell 0 = .ok (.iload_n 1, 1) := by decide +kernel
theorem dX8_tell_1 : decode cX8_tell 1 = .ok (.ifCond .lt 8, 3) := by decide +kernel
theorem dX8_tell_4 : decode cX8_tell 4 = .ok (.iload_n 1, 1) := by decide +kernel
theorem dX8_tell_5 : decode cX8_tell 5 = .ok (.iconst 3, 1) := by decide +kernel
theorem dX8_tell_6 : decode cX8_tell 6 = .ok (.if_icmp .lt 5, 3) := by decide +kernel
theorem dX8_tell_9 : decode cX8_tell 9 = .ok (.iconst 0, 1) := by decide +kernel
theorem dX8_tell_10 : decode cX8_tell 10 = .ok (.ireturn, 1) := by decide +kernel
theorem dX8_tell_11 : decode cX8_tell 11 = .ok (.iconst 0, 1) := by decide +kernel
theorem dX8_tell_12 : decode cX8_tell 12 = .ok (.istore 4, 2) := by decide +kernel
theorem dX8_tell_14 : decode cX8_tell 14 = .ok (.iload_n 1, 1) := by decide +kernel
theorem dX8_tell_15 : decode cX8_tell 15 = .ok (.ifCond .ne 7, 3) := by decide +kernel
theorem dX8_tell_18 : decode cX8_tell 18 = .ok (.iconst 0, 1) := by decide +kernel
theorem dX8_tell_19 : decode cX8_tell 19 = .ok (.goto 11, 3) := by decide +kernel
theorem dX8_tell_22 : decode cX8_tell 22 = .ok (.aload_n 0, 1) := by decide +kernel
theorem dX8_tell_23 : decode cX8_tell 23 = .ok (.getfield 15, 3) := by decide +kernel
theorem dX8_tell_26 : decode cX8_tell 26 = .ok (.iload_n 1, 1) := by decide +kernel
theorem dX8_tell_27 : decode cX8_tell 27 = .ok (.iconst 1, 1) := by decide +kernel
theorem dX8_tell_28 : decode cX8_tell 28 = .ok (.isub, 1) := by decide +kernel
theorem dX8_tell_29 : decode cX8_tell 29 = .ok (.iaload, 1) := by decide +kernel
theorem dX8_tell_30 : decode cX8_tell 30 = .ok (.istore 5, 2) := by decide +kernel
theorem dX8_tell_32 : decode cX8_tell 32 = .ok (.iload 5, 2) := by decide +kernel
theorem dX8_tell_34 : decode cX8_tell 34 = .ok (.aload_n 0, 1) := by decide +kernel
theorem dX8_tell_35 : decode cX8_tell 35 = .ok (.getfield 15, 3) := by decide +kernel
theorem dX8_tell_38 : decode cX8_tell 38 = .ok (.iload_n 1, 1) := by decide +kernel
theorem dX8_tell_39 : decode cX8_tell 39 = .ok (.iaload, 1) := by decide +kernel
theorem dX8_tell_40 : decode cX8_tell 40 = .ok (.if_icmp .ge 165, 3) := by decide +kernel
theorem dX8_tell_43 : decode cX8_tell 43 = .ok (.iload 5, 2) := by decide +kernel
theorem dX8_tell_45 : decode cX8_tell 45 = .ok (.sipush 160, 3) := by decide +kernel
theorem dX8_tell_48 : decode cX8_tell 48 = .ok (.if_icmp .ge 157, 3) := by decide +kernel
theorem dX8_tell_51 : decode cX8_tell 51 = .ok (.aload_n 0, 1) := by decide +kernel
theorem dX8_tell_52 : decode cX8_tell 52 = .ok (.getfield 9, 3) := by decide +kernel
theorem dX8_tell_55 : decode cX8_tell 55 = .ok (.iload 5, 2) := by decide +kernel
theorem dX8_tell_57 : decode cX8_tell 57 = .ok (.iaload, 1) := by decide +kernel
theorem dX8_tell_58 : decode cX8_tell 58 = .ok (.istore 6, 2) := by decide +kernel
theorem dX8_tell_60 : decode cX8_tell 60 = .ok (.iload 6, 2) := by decide +kernel
theorem dX8_tell_62 : decode cX8_tell 62 = .ok (.iconst 5, 1) := by decide +kernel
theorem dX8_tell_63 : decode cX8_tell 63 = .ok (.if_icmp .le 10, 3) := by decide +kernel
theorem dX8_tell_66 : decode cX8_tell 66 = .ok (.iload 6, 2) := by decide +kernel
theorem dX8_tell_68 : decode cX8_tell 68 = .ok (.bipush 100, 2) := by decide +kernel
theorem dX8_tell_70 : decode cX8_tell 70 = .ok (.if_icmp .lt 45, 3) := by decide +kernel
theorem dX8_tell_73 : decode cX8_tell 73 = .ok (.iload 4, 2) := by decide +kernel
theorem dX8_tell_75 : decode cX8_tell 75 = .ok (.bipush 40, 2) := by decide +kernel
theorem dX8_tell_77 : decode cX8_tell 77 = .ok (.if_icmp .ge 122, 3) := by decide +kernel
theorem dX8_tell_80 : decode cX8_tell 80 = .ok (.aload_n 0, 1) := by decide +kernel
theorem dX8_tell_81 : decode cX8_tell 81 = .ok (.getfield 18, 3) := by decide +kernel
theorem dX8_tell_84 : decode cX8_tell 84 = .ok (.iload 4, 2) := by decide +kernel
theorem dX8_tell_86 : decode cX8_tell 86 = .ok (.iload 6, 2) := by decide +kernel
theorem dX8_tell_88 : decode cX8_tell 88 = .ok (.bipush 100, 2) := by decide +kernel
theorem dX8_tell_90 : decode cX8_tell 90 = .ok (.if_icmp .lt 11, 3) := by decide +kernel
theorem dX8_tell_93 : decode cX8_tell 93 = .ok (.iload 6, 2) := by decide +kernel
theorem dX8_tell_95 : decode cX8_tell 95 = .ok (.bipush 100, 2) := by decide +kernel
theorem dX8_tell_97 : decode cX8_tell 97 = .ok (.isub, 1) := by decide +kernel
theorem dX8_tell_98 : decode cX8_tell 98 = .ok (.goto 10, 3) := by decide +kernel
theorem dX8_tell_101 : decode cX8_tell 101 = .ok (.iload 6, 2) := by decide +kernel
theorem dX8_tell_103 : decode cX8_tell 103 = .ok (.aload_n 2, 1) := by decide +kernel
theorem dX8_tell_104 : decode cX8_tell 104 = .ok (.aload_n 3, 1) := by decide +kernel
theorem dX8_tell_105 : decode cX8_tell 105 = .ok (.invokestatic 25, 3) := by decide +kernel
theorem dX8_tell_108 : decode cX8_tell 108 = .ok (.iastore, 1) := by decide +kernel
theorem dX8_tell_109 : decode cX8_tell 109 = .ok (.iinc 4 1, 3) := by decide +kernel
theorem dX8_tell_112 : decode cX8_tell 112 = .ok (.goto 87, 3) := by decide +kernel
theorem dX8_tell_115 : decode cX8_tell 115 = .ok (.iload 6, 2) := by decide +kernel
theorem dX8_tell_117 : decode cX8_tell 117 = .ok (.bipush 11, 2) := by decide +kernel
theorem dX8_tell_119 : decode cX8_tell 119 = .ok (.if_icmp .eq 10, 3) := by decide +kernel
theorem dX8_tell_122 : decode cX8_tell 122 = .ok (.iload 6, 2) := by decide +kernel
theorem dX8_tell_124 : decode cX8_tell 124 = .ok (.bipush 20, 2) := by decide +kernel
theorem dX8_tell_126 : decode cX8_tell 126 = .ok (.if_icmp .ne 34, 3) := by decide +kernel
theorem dX8_tell_129 : decode cX8_tell 129 = .ok (.iload 4, 2) := by decide +kernel
theorem dX8_tell_131 : decode cX8_tell 131 = .ok (.ifCond .le 68, 3) := by decide +kernel
theorem dX8_tell_134 : decode cX8_tell 134 = .ok (.aload_n 0, 1) := by decide +kernel
theorem dX8_tell_135 : decode cX8_tell 135 = .ok (.getfield 18, 3) := by decide +kernel
theorem dX8_tell_138 : decode cX8_tell 138 = .ok (.iload 4, 2) := by decide +kernel
theorem dX8_tell_140 : decode cX8_tell 140 = .ok (.iconst 1, 1) := by decide +kernel
theorem dX8_tell_141 : decode cX8_tell 141 = .ok (.isub, 1) := by decide +kernel
theorem dX8_tell_142 : decode cX8_tell 142 = .ok (.iload 6, 2) := by decide +kernel
theorem dX8_tell_144 : decode cX8_tell 144 = .ok (.aload_n 0, 1) := by decide +kernel
theorem dX8_tell_145 : decode cX8_tell 145 = .ok (.getfield 18, 3) := by decide +kernel
theorem dX8_tell_148 : decode cX8_tell 148 = .ok (.iload 4, 2) := by decide +kernel
theorem dX8_tell_150 : decode cX8_tell 150 = .ok (.iconst 1, 1) := by decide +kernel
theorem dX8_tell_151 : decode cX8_tell 151 = .ok (.isub, 1) := by decide +kernel
theorem dX8_tell_152 : decode cX8_tell 152 = .ok (.iaload, 1) := by decide +kernel
theorem dX8_tell_153 : decode cX8_tell 153 = .ok (.invokestatic 29, 3) := by decide +kernel
theorem dX8_tell_156 : decode cX8_tell 156 = .ok (.iastore, 1) := by decide +kernel
theorem dX8_tell_157 : decode cX8_tell 157 = .ok (.goto 42, 3) := by decide +kernel
theorem dX8_tell_160 : decode cX8_tell 160 = .ok (.iload 4, 2) := by decide +kernel
theorem dX8_tell_162 : decode cX8_tell 162 = .ok (.iconst 1, 1) := by decide +kernel
theorem dX8_tell_163 : decode cX8_tell 163 = .ok (.if_icmp .le 36, 3) := by decide +kernel
theorem dX8_tell_166 : decode cX8_tell 166 = .ok (.iinc 4 (-1), 3) := by decide +kernel
theorem dX8_tell_169 : decode cX8_tell 169 = .ok (.aload_n 0, 1) := by decide +kernel
theorem dX8_tell_170 : decode cX8_tell 170 = .ok (.getfield 18, 3) := by decide +kernel
theorem dX8_tell_173 : decode cX8_tell 173 = .ok (.iload 4, 2) := by decide +kernel
theorem dX8_tell_175 : decode cX8_tell 175 = .ok (.iconst 1, 1) := by decide +kernel
theorem dX8_tell_176 : decode cX8_tell 176 = .ok (.isub, 1) := by decide +kernel
theorem dX8_tell_177 : decode cX8_tell 177 = .ok (.iload 6, 2) := by decide +kernel
theorem dX8_tell_179 : decode cX8_tell 179 = .ok (.aload_n 0, 1) := by decide +kernel
theorem dX8_tell_180 : decode cX8_tell 180 = .ok (.getfield 18, 3) := by decide +kernel
theorem dX8_tell_183 : decode cX8_tell 183 = .ok (.iload 4, 2) := by decide +kernel
theorem dX8_tell_185 : decode cX8_tell 185 = .ok (.iconst 1, 1) := by decide +kernel
theorem dX8_tell_186 : decode cX8_tell 186 = .ok (.isub, 1) := by decide +kernel
theorem dX8_tell_187 : decode cX8_tell 187 = .ok (.iaload, 1) := by decide +kernel
theorem dX8_tell_188 : decode cX8_tell 188 = .ok (.aload_n 0, 1) := by decide +kernel
theorem dX8_tell_189 : decode cX8_tell 189 = .ok (.getfield 18, 3) := by decide +kernel
theorem dX8_tell_192 : decode cX8_tell 192 = .ok (.iload 4, 2) := by decide +kernel
theorem dX8_tell_194 : decode cX8_tell 194 = .ok (.iaload, 1) := by decide +kernel
theorem dX8_tell_195 : decode cX8_tell 195 = .ok (.invokestatic 33, 3) := by decide +kernel
theorem dX8_tell_198 : decode cX8_tell 198 = .ok (.iastore, 1) := by decide +kernel
theorem dX8_tell_199 : decode cX8_tell 199 = .ok (.iinc 5 1, 3) := by decide +kernel
theorem dX8_tell_202 : decode cX8_tell 202 = .ok (.goto (-170), 3) := by decide +kernel
theorem dX8_tell_205 : decode cX8_tell 205 = .ok (.aload_n 0, 1) := by decide +kernel
theorem dX8_tell_206 : decode cX8_tell 206 = .ok (.getfield 18, 3) := by decide +kernel
theorem dX8_tell_209 : decode cX8_tell 209 = .ok (.iconst 0, 1) := by decide +kernel
theorem dX8_tell_210 : decode cX8_tell 210 = .ok (.iaload, 1) := by decide +kernel
theorem dX8_tell_211 : decode cX8_tell 211 = .ok (.bipush 99, 2) := by decide +kernel
theorem dX8_tell_213 : decode cX8_tell 213 = .ok (.invokestatic 37, 3) := by decide +kernel
theorem dX8_tell_216 : decode cX8_tell 216 = .ok (.ireturn, 1) := by decide +kernel
theorem dX8_named_0 : decode cX8_named 0 = .ok (.iload_n 0, 1) := by decide +kernel
theorem dX8_named_1 : decode cX8_named 1 = .ok (.tableswitch 60 0 4 #[35, 40, 45, 50, 55], 35) := by decide +kernel
theorem dX8_named_36 : decode cX8_named 36 = .ok (.aload_n 2, 1) := by decide +kernel
theorem dX8_named_37 : decode cX8_named 37 = .ok (.getfield 40, 3) := by decide +kernel
theorem dX8_named_40 : decode cX8_named 40 = .ok (.ireturn, 1) := by decide +kernel
theorem dX8_named_41 : decode cX8_named 41 = .ok (.aload_n 2, 1) := by decide +kernel
theorem dX8_named_42 : decode cX8_named 42 = .ok (.getfield 45, 3) := by decide +kernel
theorem dX8_named_45 : decode cX8_named 45 = .ok (.ireturn, 1) := by decide +kernel
theorem dX8_named_46 : decode cX8_named 46 = .ok (.aload_n 2, 1) := by decide +kernel
theorem dX8_named_47 : decode cX8_named 47 = .ok (.getfield 48, 3) := by decide +kernel
theorem dX8_named_50 : decode cX8_named 50 = .ok (.ireturn, 1) := by decide +kernel
theorem dX8_named_51 : decode cX8_named 51 = .ok (.aload_n 1, 1) := by decide +kernel
theorem dX8_named_52 : decode cX8_named 52 = .ok (.getfield 51, 3) := by decide +kernel
theorem dX8_named_55 : decode cX8_named 55 = .ok (.ireturn, 1) := by decide +kernel
theorem dX8_named_56 : decode cX8_named 56 = .ok (.aload_n 1, 1) := by decide +kernel
theorem dX8_named_57 : decode cX8_named 57 = .ok (.getfield 56, 3) := by decide +kernel
theorem dX8_named_60 : decode cX8_named 60 = .ok (.ireturn, 1) := by decide +kernel
theorem dX8_named_61 : decode cX8_named 61 = .ok (.aload_n 1, 1) := by decide +kernel
theorem dX8_named_62 : decode cX8_named 62 = .ok (.getfield 59, 3) := by decide +kernel
theorem dX8_named_65 : decode cX8_named 65 = .ok (.ireturn, 1) := by decide +kernel
theorem dX8_turned_0 : decode cX8_turned 0 = .ok (.iload_n 0, 1) := by decide +kernel
theorem dX8_turned_1 : decode cX8_turned 1 = .ok (.bipush 20, 2) := by decide +kernel
theorem dX8_turned_3 : decode cX8_turned 3 = .ok (.if_icmp .ne 6, 3) := by decide +kernel
theorem dX8_turned_6 : decode cX8_turned 6 = .ok (.iload_n 1, 1) := by decide +kernel
theorem dX8_turned_7 : decode cX8_turned 7 = .ok (.ineg, 1) := by decide +kernel
theorem dX8_turned_8 : decode cX8_turned 8 = .ok (.ireturn, 1) := by decide +kernel
theorem dX8_turned_9 : decode cX8_turned 9 = .ok (.iload_n 1, 1) := by decide +kernel
theorem dX8_turned_10 : decode cX8_turned 10 = .ok (.ifCond .ne 7, 3) := by decide +kernel
theorem dX8_turned_13 : decode cX8_turned 13 = .ok (.iconst 1, 1) := by decide +kernel
theorem dX8_turned_14 : decode cX8_turned 14 = .ok (.goto 4, 3) := by decide +kernel
theorem dX8_turned_17 : decode cX8_turned 17 = .ok (.iconst 0, 1) := by decide +kernel
theorem dX8_turned_18 : decode cX8_turned 18 = .ok (.ireturn, 1) := by decide +kernel
theorem dX8_joined_0 : decode cX8_joined 0 = .ok (.iload_n 0, 1) := by decide +kernel
theorem dX8_joined_1 : decode cX8_joined 1 = .ok (.tableswitch 117 9 19 #[59, 73, 117, 117, 117, 117, 109, 113, 117, 87, 98], 59) := by decide +kernel
theorem dX8_joined_60 : decode cX8_joined 60 = .ok (.iload_n 1, 1) := by decide +kernel
theorem dX8_joined_61 : decode cX8_joined 61 = .ok (.ifCond .ne 7, 3) := by decide +kernel
theorem dX8_joined_64 : decode cX8_joined 64 = .ok (.iload_n 2, 1) := by decide +kernel
theorem dX8_joined_65 : decode cX8_joined 65 = .ok (.ifCond .eq 7, 3) := by decide +kernel
theorem dX8_joined_68 : decode cX8_joined 68 = .ok (.iconst 1, 1) := by decide +kernel
theorem dX8_joined_69 : decode cX8_joined 69 = .ok (.goto 4, 3) := by decide +kernel
theorem dX8_joined_72 : decode cX8_joined 72 = .ok (.iconst 0, 1) := by decide +kernel
theorem dX8_joined_73 : decode cX8_joined 73 = .ok (.ireturn, 1) := by decide +kernel
theorem dX8_joined_74 : decode cX8_joined 74 = .ok (.iload_n 1, 1) := by decide +kernel
theorem dX8_joined_75 : decode cX8_joined 75 = .ok (.ifCond .eq 11, 3) := by decide +kernel
theorem dX8_joined_78 : decode cX8_joined 78 = .ok (.iload_n 2, 1) := by decide +kernel
theorem dX8_joined_79 : decode cX8_joined 79 = .ok (.ifCond .eq 7, 3) := by decide +kernel
theorem dX8_joined_82 : decode cX8_joined 82 = .ok (.iconst 1, 1) := by decide +kernel
theorem dX8_joined_83 : decode cX8_joined 83 = .ok (.goto 4, 3) := by decide +kernel
theorem dX8_joined_86 : decode cX8_joined 86 = .ok (.iconst 0, 1) := by decide +kernel
theorem dX8_joined_87 : decode cX8_joined 87 = .ok (.ireturn, 1) := by decide +kernel
theorem dX8_joined_88 : decode cX8_joined 88 = .ok (.iload_n 1, 1) := by decide +kernel
theorem dX8_joined_89 : decode cX8_joined 89 = .ok (.iload_n 2, 1) := by decide +kernel
theorem dX8_joined_90 : decode cX8_joined 90 = .ok (.if_icmp .ge 7, 3) := by decide +kernel
theorem dX8_joined_93 : decode cX8_joined 93 = .ok (.iconst 1, 1) := by decide +kernel
theorem dX8_joined_94 : decode cX8_joined 94 = .ok (.goto 4, 3) := by decide +kernel
theorem dX8_joined_97 : decode cX8_joined 97 = .ok (.iconst 0, 1) := by decide +kernel
theorem dX8_joined_98 : decode cX8_joined 98 = .ok (.ireturn, 1) := by decide +kernel
theorem dX8_joined_99 : decode cX8_joined 99 = .ok (.iload_n 1, 1) := by decide +kernel
theorem dX8_joined_100 : decode cX8_joined 100 = .ok (.iload_n 2, 1) := by decide +kernel
theorem dX8_joined_101 : decode cX8_joined 101 = .ok (.if_icmp .ne 7, 3) := by decide +kernel
theorem dX8_joined_104 : decode cX8_joined 104 = .ok (.iconst 1, 1) := by decide +kernel
theorem dX8_joined_105 : decode cX8_joined 105 = .ok (.goto 4, 3) := by decide +kernel
theorem dX8_joined_108 : decode cX8_joined 108 = .ok (.iconst 0, 1) := by decide +kernel
theorem dX8_joined_109 : decode cX8_joined 109 = .ok (.ireturn, 1) := by decide +kernel
theorem dX8_joined_110 : decode cX8_joined 110 = .ok (.iload_n 1, 1) := by decide +kernel
theorem dX8_joined_111 : decode cX8_joined 111 = .ok (.iload_n 2, 1) := by decide +kernel
theorem dX8_joined_112 : decode cX8_joined 112 = .ok (.iadd, 1) := by decide +kernel
theorem dX8_joined_113 : decode cX8_joined 113 = .ok (.ireturn, 1) := by decide +kernel
theorem dX8_joined_114 : decode cX8_joined 114 = .ok (.iload_n 1, 1) := by decide +kernel
theorem dX8_joined_115 : decode cX8_joined 115 = .ok (.iload_n 2, 1) := by decide +kernel
theorem dX8_joined_116 : decode cX8_joined 116 = .ok (.isub, 1) := by decide +kernel
theorem dX8_joined_117 : decode cX8_joined 117 = .ok (.ireturn, 1) := by decide +kernel
theorem dX8_joined_118 : decode cX8_joined 118 = .ok (.iload_n 1, 1) := by decide +kernel
theorem dX8_joined_119 : decode cX8_joined 119 = .ok (.iload_n 2, 1) := by decide +kernel
theorem dX8_joined_120 : decode cX8_joined 120 = .ok (.imul, 1) := by decide +kernel
theorem dX8_joined_121 : decode cX8_joined 121 = .ok (.ireturn, 1) := by decide +kernel
theorem dX9_init_0 : decode cX9_init 0 = .ok (.aload_n 0, 1) := by decide +kernel
theorem dX9_init_1 : decode cX9_init 1 = .ok (.invokespecial 3, 3) := by decide +kernel
theorem dX9_init_4 : decode cX9_init 4 = .ok (.aload_n 0, 1) := by decide +kernel
theorem dX9_init_5 : decode cX9_init 5 = .ok (.bipush 6, 2) := by decide +kernel
theorem dX9_init_7 : decode cX9_init 7 = .ok (.anewarray 9, 3) := by decide +kernel
theorem dX9_init_10 : decode cX9_init 10 = .ok (.putfield 11, 3) := by decide +kernel
theorem dX9_init_13 : decode cX9_init 13 = .ok (.aload_n 0, 1) := by decide +kernel
theorem dX9_init_14 : decode cX9_init 14 = .ok (.iconst 0, 1) := by decide +kernel
theorem dX9_init_15 : decode cX9_init 15 = .ok (.putfield 17, 3) := by decide +kernel
theorem dX9_init_18 : decode cX9_init 18 = .ok (.iconst 0, 1) := by decide +kernel
theorem dX9_init_19 : decode cX9_init 19 = .ok (.istore_n 1, 1) := by decide +kernel
theorem dX9_init_20 : decode cX9_init 20 = .ok (.iload_n 1, 1) := by decide +kernel
theorem dX9_init_21 : decode cX9_init 21 = .ok (.bipush 6, 2) := by decide +kernel
theorem dX9_init_23 : decode cX9_init 23 = .ok (.if_icmp .ge 22, 3) := by decide +kernel
theorem dX9_init_26 : decode cX9_init 26 = .ok (.aload_n 0, 1) := by decide +kernel
theorem dX9_init_27 : decode cX9_init 27 = .ok (.getfield 11, 3) := by decide +kernel
theorem dX9_init_30 : decode cX9_init 30 = .ok (.iload_n 1, 1) := by decide +kernel
theorem dX9_init_31 : decode cX9_init 31 = .ok (.new 9, 3) := by decide +kernel
theorem dX9_init_34 : decode cX9_init 34 = .ok (.dup, 1) := by decide +kernel
theorem dX9_init_35 : decode cX9_init 35 = .ok (.invokespecial 21, 3) := by decide +kernel
theorem dX9_init_38 : decode cX9_init 38 = .ok (.aastore, 1) := by decide +kernel
theorem dX9_init_39 : decode cX9_init 39 = .ok (.iinc 1 1, 3) := by decide +kernel
theorem dX9_init_42 : decode cX9_init 42 = .ok (.goto (-22), 3) := by decide +kernel
theorem dX9_init_45 : decode cX9_init 45 = .ok (.return_, 1) := by decide +kernel
theorem dX9_has_0 : decode cX9_has 0 = .ok (.iload_n 1, 1) := by decide +kernel
theorem dX9_has_1 : decode cX9_has 1 = .ok (.ifCond .lt 21, 3) := by decide +kernel
theorem dX9_has_4 : decode cX9_has 4 = .ok (.iload_n 1, 1) := by decide +kernel
theorem dX9_has_5 : decode cX9_has 5 = .ok (.aload_n 0, 1) := by decide +kernel
theorem dX9_has_6 : decode cX9_has 6 = .ok (.getfield 17, 3) := by decide +kernel
theorem dX9_has_9 : decode cX9_has 9 = .ok (.if_icmp .ge 13, 3) := by decide +kernel
theorem dX9_has_12 : decode cX9_has 12 = .ok (.iload_n 1, 1) := by decide +kernel
theorem dX9_has_13 : decode cX9_has 13 = .ok (.bipush 6, 2) := by decide +kernel
theorem dX9_has_15 : decode cX9_has 15 = .ok (.if_icmp .ge 7, 3) := by decide +kernel
theorem dX9_has_18 : decode cX9_has 18 = .ok (.iconst 1, 1) := by decide +kernel
theorem dX9_has_19 : decode cX9_has 19 = .ok (.goto 4, 3) := by decide +kernel
theorem dX9_has_22 : decode cX9_has 22 = .ok (.iconst 0, 1) := by decide +kernel
theorem dX9_has_23 : decode cX9_has 23 = .ok (.ireturn, 1) := by decide +kernel
theorem dX9_ruleOf_0 : decode cX9_ruleOf 0 = .ok (.aload_n 0, 1) := by decide +kernel
theorem dX9_ruleOf_1 : decode cX9_ruleOf 1 = .ok (.aload_n 1, 1) := by decide +kernel
theorem dX9_ruleOf_2 : decode cX9_ruleOf 2 = .ok (.getfield 22, 3) := by decide +kernel
theorem dX9_ruleOf_5 : decode cX9_ruleOf 5 = .ok (.invokevirtual 27, 3) := by decide +kernel
theorem dX9_ruleOf_8 : decode cX9_ruleOf 8 = .ok (.ifCond .eq 15, 3) := by decide +kernel
theorem dX9_ruleOf_11 : decode cX9_ruleOf 11 = .ok (.aload_n 0, 1) := by decide +kernel
theorem dX9_ruleOf_12 : decode cX9_ruleOf 12 = .ok (.getfield 11, 3) := by decide +kernel
theorem dX9_ruleOf_15 : decode cX9_ruleOf 15 = .ok (.aload_n 1, 1) := by decide +kernel
theorem dX9_ruleOf_16 : decode cX9_ruleOf 16 = .ok (.getfield 22, 3) := by decide +kernel
theorem dX9_ruleOf_19 : decode cX9_ruleOf 19 = .ok (.aaload, 1) := by decide +kernel
theorem dX9_ruleOf_20 : decode cX9_ruleOf 20 = .ok (.goto 9, 3) := by decide +kernel
theorem dX9_ruleOf_23 : decode cX9_ruleOf 23 = .ok (.aload_n 0, 1) := by decide +kernel
theorem dX9_ruleOf_24 : decode cX9_ruleOf 24 = .ok (.getfield 11, 3) := by decide +kernel
theorem dX9_ruleOf_27 : decode cX9_ruleOf 27 = .ok (.iconst 0, 1) := by decide +kernel
theorem dX9_ruleOf_28 : decode cX9_ruleOf 28 = .ok (.aaload, 1) := by decide +kernel
theorem dX9_ruleOf_29 : decode cX9_ruleOf 29 = .ok (.areturn, 1) := by decide +kernel
theorem dX10_init_0 : decode cX10_init 0 = .ok (.aload_n 0, 1) := by decide +kernel
theorem dX10_init_1 : decode cX10_init 1 = .ok (.invokespecial 3, 3) := by decide +kernel
theorem dX10_init_4 : decode cX10_init 4 = .ok (.aload_n 0, 1) := by decide +kernel
theorem dX10_init_5 : decode cX10_init 5 = .ok (.sipush 161, 3) := by decide +kernel
theorem dX10_init_8 : decode cX10_init 8 = .ok (.newarray .int, 2) := by decide +kernel
theorem dX10_init_10 : decode cX10_init 10 = .ok (.putfield 9, 3) := by decide +kernel
theorem dX10_init_13 : decode cX10_init 13 = .ok (.aload_n 0, 1) := by decide +kernel
theorem dX10_init_14 : decode cX10_init 14 = .ok (.sipush 161, 3) := by decide +kernel
theorem dX10_init_17 : decode cX10_init 17 = .ok (.newarray .int, 2) := by decide +kernel
theorem dX10_init_19 : decode cX10_init 19 = .ok (.putfield 15, 3) := by decide +kernel
theorem dX10_init_22 : decode cX10_init 22 = .ok (.aload_n 0, 1) := by decide +kernel
theorem dX10_init_23 : decode cX10_init 23 = .ok (.iconst 0, 1) := by decide +kernel
theorem dX10_init_24 : decode cX10_init 24 = .ok (.putfield 18, 3) := by decide +kernel
theorem dX10_init_27 : decode cX10_init 27 = .ok (.return_, 1) := by decide +kernel
theorem dX10_cut_0 : decode cX10_cut 0 = .ok (.aload_n 0, 1) := by decide +kernel
theorem dX10_cut_1 : decode cX10_cut 1 = .ok (.iconst 0, 1) := by decide +kernel
theorem dX10_cut_2 : decode cX10_cut 2 = .ok (.putfield 18, 3) := by decide +kernel
theorem dX10_cut_5 : decode cX10_cut 5 = .ok (.iconst 0, 1) := by decide +kernel
theorem dX10_cut_6 : decode cX10_cut 6 = .ok (.istore_n 2, 1) := by decide +kernel
theorem dX10_cut_7 : decode cX10_cut 7 = .ok (.iconst 0, 1) := by decide +kernel
theorem dX10_cut_8 : decode cX10_cut 8 = .ok (.istore_n 3, 1) := by decide +kernel
theorem dX10_cut_9 : decode cX10_cut 9 = .ok (.iload_n 3, 1) := by decide +kernel
theorem dX10_cut_10 : decode cX10_cut 10 = .ok (.sipush 160, 3) := by decide +kernel
theorem dX10_cut_13 : decode cX10_cut 13 = .ok (.if_icmp .ge 47, 3) := by decide +kernel
theorem dX10_cut_16 : decode cX10_cut 16 = .ok (.iload_n 2, 1) := by decide +kernel
theorem dX10_cut_17 : decode cX10_cut 17 = .ok (.aload_n 1, 1) := by decide +kernel
theorem dX10_cut_18 : decode cX10_cut 18 = .ok (.getfield 22, 3) := by decide +kernel
theorem dX10_cut_21 : decode cX10_cut 21 = .ok (.if_icmp .ge 39, 3) := by decide +kernel
theorem dX10_cut_24 : decode cX10_cut 24 = .ok (.aload_n 1, 1) := by decide +kernel
theorem dX10_cut_25 : decode cX10_cut 25 = .ok (.iload_n 2, 1) := by decide +kernel
theorem dX10_cut_26 : decode cX10_cut 26 = .ok (.invokestatic 25, 3) := by decide +kernel
theorem dX10_cut_29 : decode cX10_cut 29 = .ok (.istore 4, 2) := by decide +kernel
theorem dX10_cut_31 : decode cX10_cut 31 = .ok (.aload_n 1, 1) := by decide +kernel
theorem dX10_cut_32 : decode cX10_cut 32 = .ok (.iload_n 2, 1) := by decide +kernel
theorem dX10_cut_33 : decode cX10_cut 33 = .ok (.invokevirtual 29, 3) := by decide +kernel
theorem dX10_cut_36 : decode cX10_cut 36 = .ok (.ifCond .ne 15, 3) := by decide +kernel
theorem dX10_cut_39 : decode cX10_cut 39 = .ok (.aload_n 0, 1) := by decide +kernel
theorem dX10_cut_40 : decode cX10_cut 40 = .ok (.aload_n 1, 1) := by decide +kernel
theorem dX10_cut_41 : decode cX10_cut 41 = .ok (.iload_n 2, 1) := by decide +kernel
theorem dX10_cut_42 : decode cX10_cut 42 = .ok (.iload 4, 2) := by decide +kernel
theorem dX10_cut_44 : decode cX10_cut 44 = .ok (.invokestatic 33, 3) := by decide +kernel
theorem dX10_cut_47 : decode cX10_cut 47 = .ok (.iload_n 2, 1) := by decide +kernel
theorem dX10_cut_48 : decode cX10_cut 48 = .ok (.invokevirtual 37, 3) := by decide +kernel
theorem dX10_cut_51 : decode cX10_cut 51 = .ok (.iload 4, 2) := by decide +kernel
theorem dX10_cut_53 : decode cX10_cut 53 = .ok (.istore_n 2, 1) := by decide +kernel
theorem dX10_cut_54 : decode cX10_cut 54 = .ok (.iinc 3 1, 3) := by decide +kernel
theorem dX10_cut_57 : decode cX10_cut 57 = .ok (.goto (-48), 3) := by decide +kernel
theorem dX10_cut_60 : decode cX10_cut 60 = .ok (.aload_n 0, 1) := by decide +kernel
theorem dX10_cut_61 : decode cX10_cut 61 = .ok (.bipush 21, 2) := by decide +kernel
theorem dX10_cut_63 : decode cX10_cut 63 = .ok (.aload_n 1, 1) := by decide +kernel
theorem dX10_cut_64 : decode cX10_cut 64 = .ok (.getfield 22, 3) := by decide +kernel
theorem dX10_cut_67 : decode cX10_cut 67 = .ok (.invokevirtual 37, 3) := by decide +kernel
theorem dX10_cut_70 : decode cX10_cut 70 = .ok (.return_, 1) := by decide +kernel
theorem dX10_tokenAt_0 : decode cX10_tokenAt 0 = .ok (.iload_n 1, 1) := by decide +kernel
theorem dX10_tokenAt_1 : decode cX10_tokenAt 1 = .ok (.ifCond .lt 29, 3) := by decide +kernel
theorem dX10_tokenAt_4 : decode cX10_tokenAt 4 = .ok (.iload_n 1, 1) := by decide +kernel
theorem dX10_tokenAt_5 : decode cX10_tokenAt 5 = .ok (.aload_n 0, 1) := by decide +kernel
theorem dX10_tokenAt_6 : decode cX10_tokenAt 6 = .ok (.getfield 18, 3) := by decide +kernel
theorem dX10_tokenAt_9 : decode cX10_tokenAt 9 = .ok (.if_icmp .ge 21, 3) := by decide +kernel
theorem dX10_tokenAt_12 : decode cX10_tokenAt 12 = .ok (.iload_n 1, 1) := by decide +kernel
theorem dX10_tokenAt_13 : decode cX10_tokenAt 13 = .ok (.aload_n 0, 1) := by decide +kernel
theorem dX10_tokenAt_14 : decode cX10_tokenAt 14 = .ok (.getfield 9, 3) := by decide +kernel
theorem dX10_tokenAt_17 : decode cX10_tokenAt 17 = .ok (.arraylength, 1) := by decide +kernel
theorem dX10_tokenAt_18 : decode cX10_tokenAt 18 = .ok (.if_icmp .ge 12, 3) := by decide +kernel
theorem dX10_tokenAt_21 : decode cX10_tokenAt 21 = .ok (.aload_n 0, 1) := by decide +kernel
theorem dX10_tokenAt_22 : decode cX10_tokenAt 22 = .ok (.getfield 9, 3) := by decide +kernel
theorem dX10_tokenAt_25 : decode cX10_tokenAt 25 = .ok (.iload_n 1, 1) := by decide +kernel
theorem dX10_tokenAt_26 : decode cX10_tokenAt 26 = .ok (.iaload, 1) := by decide +kernel
theorem dX10_tokenAt_27 : decode cX10_tokenAt 27 = .ok (.goto 5, 3) := by decide +kernel
theorem dX10_tokenAt_30 : decode cX10_tokenAt 30 = .ok (.bipush 21, 2) := by decide +kernel
theorem dX10_tokenAt_32 : decode cX10_tokenAt 32 = .ok (.ireturn, 1) := by decide +kernel
theorem dX10_placeAt_0 : decode cX10_placeAt 0 = .ok (.iload_n 1, 1) := by decide +kernel
theorem dX10_placeAt_1 : decode cX10_placeAt 1 = .ok (.ifCond .lt 29, 3) := by decide +kernel
theorem dX10_placeAt_4 : decode cX10_placeAt 4 = .ok (.iload_n 1, 1) := by decide +kernel
theorem dX10_placeAt_5 : decode cX10_placeAt 5 = .ok (.aload_n 0, 1) := by decide +kernel
theorem dX10_placeAt_6 : decode cX10_placeAt 6 = .ok (.getfield 18, 3) := by decide +kernel
theorem dX10_placeAt_9 : decode cX10_placeAt 9 = .ok (.if_icmp .ge 21, 3) := by decide +kernel
theorem dX10_placeAt_12 : decode cX10_placeAt 12 = .ok (.iload_n 1, 1) := by decide +kernel
theorem dX10_placeAt_13 : decode cX10_placeAt 13 = .ok (.aload_n 0, 1) := by decide +kernel
theorem dX10_placeAt_14 : decode cX10_placeAt 14 = .ok (.getfield 15, 3) := by decide +kernel
theorem dX10_placeAt_17 : decode cX10_placeAt 17 = .ok (.arraylength, 1) := by decide +kernel
theorem dX10_placeAt_18 : decode cX10_placeAt 18 = .ok (.if_icmp .ge 12, 3) := by decide +kernel
theorem dX10_placeAt_21 : decode cX10_placeAt 21 = .ok (.aload_n 0, 1) := by decide +kernel
theorem dX10_placeAt_22 : decode cX10_placeAt 22 = .ok (.getfield 15, 3) := by decide +kernel
theorem dX10_placeAt_25 : decode cX10_placeAt 25 = .ok (.iload_n 1, 1) := by decide +kernel
theorem dX10_placeAt_26 : decode cX10_placeAt 26 = .ok (.iaload, 1) := by decide +kernel
theorem dX10_placeAt_27 : decode cX10_placeAt 27 = .ok (.goto 4, 3) := by decide +kernel
theorem dX10_placeAt_30 : decode cX10_placeAt 30 = .ok (.iconst 0, 1) := by decide +kernel
theorem dX10_placeAt_31 : decode cX10_placeAt 31 = .ok (.ireturn, 1) := by decide +kernel
theorem dX10_put_0 : decode cX10_put 0 = .ok (.aload_n 0, 1) := by decide +kernel
theorem dX10_put_1 : decode cX10_put 1 = .ok (.getfield 18, 3) := by decide +kernel
theorem dX10_put_4 : decode cX10_put 4 = .ok (.aload_n 0, 1) := by decide +kernel
theorem dX10_put_5 : decode cX10_put 5 = .ok (.getfield 9, 3) := by decide +kernel
theorem dX10_put_8 : decode cX10_put 8 = .ok (.arraylength, 1) := by decide +kernel
theorem dX10_put_9 : decode cX10_put 9 = .ok (.if_icmp .ge 45, 3) := by decide +kernel
theorem dX10_put_12 : decode cX10_put 12 = .ok (.aload_n 0, 1) := by decide +kernel
theorem dX10_put_13 : decode cX10_put 13 = .ok (.getfield 18, 3) := by decide +kernel
theorem dX10_put_16 : decode cX10_put 16 = .ok (.aload_n 0, 1) := by decide +kernel
theorem dX10_put_17 : decode cX10_put 17 = .ok (.getfield 15, 3) := by decide +kernel
theorem dX10_put_20 : decode cX10_put 20 = .ok (.arraylength, 1) := by decide +kernel
theorem dX10_put_21 : decode cX10_put 21 = .ok (.if_icmp .ge 33, 3) := by decide +kernel
theorem dX10_put_24 : decode cX10_put 24 = .ok (.aload_n 0, 1) := by decide +kernel
theorem dX10_put_25 : decode cX10_put 25 = .ok (.getfield 9, 3) := by decide +kernel
theorem dX10_put_28 : decode cX10_put 28 = .ok (.aload_n 0, 1) := by decide +kernel
theorem dX10_put_29 : decode cX10_put 29 = .ok (.getfield 18, 3) := by decide +kernel
theorem dX10_put_32 : decode cX10_put 32 = .ok (.iload_n 1, 1) := by decide +kernel
theorem dX10_put_33 : decode cX10_put 33 = .ok (.iastore, 1) := by decide +kernel
theorem dX10_put_34 : decode cX10_put 34 = .ok (.aload_n 0, 1) := by decide +kernel
theorem dX10_put_35 : decode cX10_put 35 = .ok (.getfield 15, 3) := by decide +kernel
theorem dX10_put_38 : decode cX10_put 38 = .ok (.aload_n 0, 1) := by decide +kernel
theorem dX10_put_39 : decode cX10_put 39 = .ok (.getfield 18, 3) := by decide +kernel
theorem dX10_put_42 : decode cX10_put 42 = .ok (.iload_n 2, 1) := by decide +kernel
theorem dX10_put_43 : decode cX10_put 43 = .ok (.iastore, 1) := by decide +kernel
theorem dX10_put_44 : decode cX10_put 44 = .ok (.aload_n 0, 1) := by decide +kernel
theorem dX10_put_45 : decode cX10_put 45 = .ok (.dup, 1) := by decide +kernel
theorem dX10_put_46 : decode cX10_put 46 = .ok (.getfield 18, 3) := by decide +kernel
theorem dX10_put_49 : decode cX10_put 49 = .ok (.iconst 1, 1) := by decide +kernel
theorem dX10_put_50 : decode cX10_put 50 = .ok (.iadd, 1) := by decide +kernel
theorem dX10_put_51 : decode cX10_put 51 = .ok (.putfield 18, 3) := by decide +kernel
theorem dX10_put_54 : decode cX10_put 54 = .ok (.return_, 1) := by decide +kernel
theorem dX10_endOf_0 : decode cX10_endOf 0 = .ok (.iload_n 1, 1) := by decide +kernel
theorem dX10_endOf_1 : decode cX10_endOf 1 = .ok (.iconst 1, 1) := by decide +kernel
theorem dX10_endOf_2 : decode cX10_endOf 2 = .ok (.iadd, 1) := by decide +kernel
theorem dX10_endOf_3 : decode cX10_endOf 3 = .ok (.istore_n 2, 1) := by decide +kernel
theorem dX10_endOf_4 : decode cX10_endOf 4 = .ok (.aload_n 0, 1) := by decide +kernel
theorem dX10_endOf_5 : decode cX10_endOf 5 = .ok (.iload_n 1, 1) := by decide +kernel
theorem dX10_endOf_6 : decode cX10_endOf 6 = .ok (.invokevirtual 41, 3) := by decide +kernel
theorem dX10_endOf_9 : decode cX10_endOf 9 = .ok (.ifCond .eq 25, 3) := by decide +kernel
theorem dX10_endOf_12 : decode cX10_endOf 12 = .ok (.iload_n 2, 1) := by decide +kernel
theorem dX10_endOf_13 : decode cX10_endOf 13 = .ok (.aload_n 0, 1) := by decide +kernel
theorem dX10_endOf_14 : decode cX10_endOf 14 = .ok (.getfield 22, 3) := by decide +kernel
theorem dX10_endOf_17 : decode cX10_endOf 17 = .ok (.if_icmp .ge 47, 3) := by decide +kernel
theorem dX10_endOf_20 : decode cX10_endOf 20 = .ok (.aload_n 0, 1) := by decide +kernel
theorem dX10_endOf_21 : decode cX10_endOf 21 = .ok (.iload_n 2, 1) := by decide +kernel
theorem dX10_endOf_22 : decode cX10_endOf 22 = .ok (.invokevirtual 41, 3) := by decide +kernel
theorem dX10_endOf_25 : decode cX10_endOf 25 = .ok (.ifCond .eq 39, 3) := by decide +kernel
theorem dX10_endOf_28 : decode cX10_endOf 28 = .ok (.iinc 2 1, 3) := by decide +kernel
theorem dX10_endOf_31 : decode cX10_endOf 31 = .ok (.goto (-19), 3) := by decide +kernel
theorem dX10_endOf_34 : decode cX10_endOf 34 = .ok (.aload_n 0, 1) := by decide +kernel
theorem dX10_endOf_35 : decode cX10_endOf 35 = .ok (.iload_n 1, 1) := by decide +kernel
theorem dX10_endOf_36 : decode cX10_endOf 36 = .ok (.invokevirtual 44, 3) := by decide +kernel
theorem dX10_endOf_39 : decode cX10_endOf 39 = .ok (.ifCond .eq 25, 3) := by decide +kernel
theorem dX10_endOf_42 : decode cX10_endOf 42 = .ok (.iload_n 2, 1) := by decide +kernel
theorem dX10_endOf_43 : decode cX10_endOf 43 = .ok (.aload_n 0, 1) := by decide +kernel
theorem dX10_endOf_44 : decode cX10_endOf 44 = .ok (.getfield 22, 3) := by decide +kernel
theorem dX10_endOf_47 : decode cX10_endOf 47 = .ok (.if_icmp .ge 17, 3) := by decide +kernel
theorem dX10_endOf_50 : decode cX10_endOf 50 = .ok (.aload_n 0, 1) := by decide +kernel
theorem dX10_endOf_51 : decode cX10_endOf 51 = .ok (.iload_n 2, 1) := by decide +kernel
theorem dX10_endOf_52 : decode cX10_endOf 52 = .ok (.invokevirtual 44, 3) := by decide +kernel
theorem dX10_endOf_55 : decode cX10_endOf 55 = .ok (.ifCond .eq 9, 3) := by decide +kernel
theorem dX10_endOf_58 : decode cX10_endOf 58 = .ok (.iinc 2 1, 3) := by decide +kernel
theorem dX10_endOf_61 : decode cX10_endOf 61 = .ok (.goto (-19), 3) := by decide +kernel
theorem dX10_endOf_64 : decode cX10_endOf 64 = .ok (.iload_n 2, 1) := by decide +kernel
theorem dX10_endOf_65 : decode cX10_endOf 65 = .ok (.ireturn, 1) := by decide +kernel
theorem dX10_tokenOf_0 : decode cX10_tokenOf 0 = .ok (.aload_n 0, 1) := by decide +kernel
theorem dX10_tokenOf_1 : decode cX10_tokenOf 1 = .ok (.iload_n 1, 1) := by decide +kernel
theorem dX10_tokenOf_2 : decode cX10_tokenOf 2 = .ok (.invokevirtual 41, 3) := by decide +kernel
theorem dX10_tokenOf_5 : decode cX10_tokenOf 5 = .ok (.ifCond .eq 10, 3) := by decide +kernel
theorem dX10_tokenOf_8 : decode cX10_tokenOf 8 = .ok (.aload_n 0, 1) := by decide +kernel
theorem dX10_tokenOf_9 : decode cX10_tokenOf 9 = .ok (.iload_n 1, 1) := by decide +kernel
theorem dX10_tokenOf_10 : decode cX10_tokenOf 10 = .ok (.iload_n 2, 1) := by decide +kernel
theorem dX10_tokenOf_11 : decode cX10_tokenOf 11 = .ok (.invokestatic 47, 3) := by decide +kernel
theorem dX10_tokenOf_14 : decode cX10_tokenOf 14 = .ok (.ireturn, 1) := by decide +kernel
theorem dX10_tokenOf_15 : decode cX10_tokenOf 15 = .ok (.aload_n 0, 1) := by decide +kernel
theorem dX10_tokenOf_16 : decode cX10_tokenOf 16 = .ok (.iload_n 1, 1) := by decide +kernel
theorem dX10_tokenOf_17 : decode cX10_tokenOf 17 = .ok (.invokevirtual 44, 3) := by decide +kernel
theorem dX10_tokenOf_20 : decode cX10_tokenOf 20 = .ok (.ifCond .eq 10, 3) := by decide +kernel
theorem dX10_tokenOf_23 : decode cX10_tokenOf 23 = .ok (.aload_n 0, 1) := by decide +kernel
theorem dX10_tokenOf_24 : decode cX10_tokenOf 24 = .ok (.iload_n 1, 1) := by decide +kernel
theorem dX10_tokenOf_25 : decode cX10_tokenOf 25 = .ok (.iload_n 2, 1) := by decide +kernel
theorem dX10_tokenOf_26 : decode cX10_tokenOf 26 = .ok (.invokestatic 50, 3) := by decide +kernel
theorem dX10_tokenOf_29 : decode cX10_tokenOf 29 = .ok (.ireturn, 1) := by decide +kernel
theorem dX10_tokenOf_30 : decode cX10_tokenOf 30 = .ok (.ldc 53, 2) := by decide +kernel
theorem dX10_tokenOf_32 : decode cX10_tokenOf 32 = .ok (.aload_n 0, 1) := by decide +kernel
theorem dX10_tokenOf_33 : decode cX10_tokenOf 33 = .ok (.iload_n 1, 1) := by decide +kernel
theorem dX10_tokenOf_34 : decode cX10_tokenOf 34 = .ok (.invokevirtual 55, 3) := by decide +kernel
theorem dX10_tokenOf_37 : decode cX10_tokenOf 37 = .ok (.i2c, 1) := by decide +kernel
theorem dX10_tokenOf_38 : decode cX10_tokenOf 38 = .ok (.invokevirtual 59, 3) := by decide +kernel
theorem dX10_tokenOf_41 : decode cX10_tokenOf 41 = .ok (.istore_n 3, 1) := by decide +kernel
theorem dX10_tokenOf_42 : decode cX10_tokenOf 42 = .ok (.iload_n 3, 1) := by decide +kernel
theorem dX10_tokenOf_43 : decode cX10_tokenOf 43 = .ok (.ifCond .lt 10, 3) := by decide +kernel
theorem dX10_tokenOf_46 : decode cX10_tokenOf 46 = .ok (.bipush 12, 2) := by decide +kernel
theorem dX10_tokenOf_48 : decode cX10_tokenOf 48 = .ok (.iload_n 3, 1) := by decide +kernel
theorem dX10_tokenOf_49 : decode cX10_tokenOf 49 = .ok (.iadd, 1) := by decide +kernel
theorem dX10_tokenOf_50 : decode cX10_tokenOf 50 = .ok (.goto 5, 3) := by decide +kernel
theorem dX10_tokenOf_53 : decode cX10_tokenOf 53 = .ok (.bipush 22, 2) := by decide +kernel
theorem dX10_tokenOf_55 : decode cX10_tokenOf 55 = .ok (.ireturn, 1) := by decide +kernel
theorem dX10_numberOf_0 : decode cX10_numberOf 0 = .ok (.iload_n 2, 1) := by decide +kernel
theorem dX10_numberOf_1 : decode cX10_numberOf 1 = .ok (.iload_n 1, 1) := by decide +kernel
theorem dX10_numberOf_2 : decode cX10_numberOf 2 = .ok (.isub, 1) := by decide +kernel
theorem dX10_numberOf_3 : decode cX10_numberOf 3 = .ok (.iconst 4, 1) := by decide +kernel
theorem dX10_numberOf_4 : decode cX10_numberOf 4 = .ok (.if_icmp .le 6, 3) := by decide +kernel
theorem dX10_numberOf_7 : decode cX10_numberOf 7 = .ok (.bipush 22, 2) := by decide +kernel
theorem dX10_numberOf_9 : decode cX10_numberOf 9 = .ok (.ireturn, 1) := by decide +kernel
theorem dX10_numberOf_10 : decode cX10_numberOf 10 = .ok (.iconst 0, 1) := by decide +kernel
theorem dX10_numberOf_11 : decode cX10_numberOf 11 = .ok (.istore_n 3, 1) := by decide +kernel
theorem dX10_numberOf_12 : decode cX10_numberOf 12 = .ok (.iload_n 1, 1) := by decide +kernel
theorem dX10_numberOf_13 : decode cX10_numberOf 13 = .ok (.istore 4, 2) := by decide +kernel
theorem dX10_numberOf_15 : decode cX10_numberOf 15 = .ok (.iload 4, 2) := by decide +kernel
theorem dX10_numberOf_17 : decode cX10_numberOf 17 = .ok (.iload_n 2, 1) := by decide +kernel
theorem dX10_numberOf_18 : decode cX10_numberOf 18 = .ok (.if_icmp .ge 24, 3) := by decide +kernel
theorem dX10_numberOf_21 : decode cX10_numberOf 21 = .ok (.bipush 10, 2) := by decide +kernel
theorem dX10_numberOf_23 : decode cX10_numberOf 23 = .ok (.iload_n 3, 1) := by decide +kernel
theorem dX10_numberOf_24 : decode cX10_numberOf 24 = .ok (.imul, 1) := by decide +kernel
theorem dX10_numberOf_25 : decode cX10_numberOf 25 = .ok (.aload_n 0, 1) := by decide +kernel
theorem dX10_numberOf_26 : decode cX10_numberOf 26 = .ok (.iload 4, 2) := by decide +kernel
theorem dX10_numberOf_28 : decode cX10_numberOf 28 = .ok (.invokevirtual 55, 3) := by decide +kernel
theorem dX10_numberOf_31 : decode cX10_numberOf 31 = .ok (.iadd, 1) := by decide +kernel
theorem dX10_numberOf_32 : decode cX10_numberOf 32 = .ok (.bipush 48, 2) := by decide +kernel
theorem dX10_numberOf_34 : decode cX10_numberOf 34 = .ok (.isub, 1) := by decide +kernel
theorem dX10_numberOf_35 : decode cX10_numberOf 35 = .ok (.istore_n 3, 1) := by decide +kernel
theorem dX10_numberOf_36 : decode cX10_numberOf 36 = .ok (.iinc 4 1, 3) := by decide +kernel
theorem dX10_numberOf_39 : decode cX10_numberOf 39 = .ok (.goto (-24), 3) := by decide +kernel
theorem dX10_numberOf_42 : decode cX10_numberOf 42 = .ok (.bipush 100, 2) := by decide +kernel
theorem dX10_numberOf_44 : decode cX10_numberOf 44 = .ok (.iload_n 3, 1) := by decide +kernel
theorem dX10_numberOf_45 : decode cX10_numberOf 45 = .ok (.iadd, 1) := by decide +kernel
theorem dX10_numberOf_46 : decode cX10_numberOf 46 = .ok (.ireturn, 1) := by decide +kernel
theorem dX10_wordOf_0 : decode cX10_wordOf 0 = .ok (.iconst 0, 1) := by decide +kernel
theorem dX10_wordOf_1 : decode cX10_wordOf 1 = .ok (.istore_n 3, 1) := by decide +kernel
theorem dX10_wordOf_2 : decode cX10_wordOf 2 = .ok (.iload_n 3, 1) := by decide +kernel
theorem dX10_wordOf_3 : decode cX10_wordOf 3 = .ok (.bipush 12, 2) := by decide +kernel
theorem dX10_wordOf_5 : decode cX10_wordOf 5 = .ok (.if_icmp .ge 24, 3) := by decide +kernel
theorem dX10_wordOf_8 : decode cX10_wordOf 8 = .ok (.iload_n 3, 1) := by decide +kernel
theorem dX10_wordOf_9 : decode cX10_wordOf 9 = .ok (.invokestatic 64, 3) := by decide +kernel
theorem dX10_wordOf_12 : decode cX10_wordOf 12 = .ok (.aload_n 0, 1) := by decide +kernel
theorem dX10_wordOf_13 : decode cX10_wordOf 13 = .ok (.iload_n 1, 1) := by decide +kernel
theorem dX10_wordOf_14 : decode cX10_wordOf 14 = .ok (.iload_n 2, 1) := by decide +kernel
theorem dX10_wordOf_15 : decode cX10_wordOf 15 = .ok (.invokestatic 68, 3) := by decide +kernel
theorem dX10_wordOf_18 : decode cX10_wordOf 18 = .ok (.ifCond .eq 5, 3) := by decide +kernel
theorem dX10_wordOf_21 : decode cX10_wordOf 21 = .ok (.iload_n 3, 1) := by decide +kernel
theorem dX10_wordOf_22 : decode cX10_wordOf 22 = .ok (.ireturn, 1) := by decide +kernel
theorem dX10_wordOf_23 : decode cX10_wordOf 23 = .ok (.iinc 3 1, 3) := by decide +kernel
theorem dX10_wordOf_26 : decode cX10_wordOf 26 = .ok (.goto (-24), 3) := by decide +kernel
theorem dX10_wordOf_29 : decode cX10_wordOf 29 = .ok (.bipush 22, 2) := by decide +kernel
theorem dX10_wordOf_31 : decode cX10_wordOf 31 = .ok (.ireturn, 1) := by decide +kernel
theorem dX10_isSpelt_0 : decode cX10_isSpelt 0 = .ok (.aload_n 0, 1) := by decide +kernel
theorem dX10_isSpelt_1 : decode cX10_isSpelt 1 = .ok (.invokevirtual 72, 3) := by decide +kernel
theorem dX10_isSpelt_4 : decode cX10_isSpelt 4 = .ok (.iload_n 3, 1) := by decide +kernel
theorem dX10_isSpelt_5 : decode cX10_isSpelt 5 = .ok (.iload_n 2, 1) := by decide +kernel
theorem dX10_isSpelt_6 : decode cX10_isSpelt 6 = .ok (.isub, 1) := by decide +kernel
theorem dX10_isSpelt_7 : decode cX10_isSpelt 7 = .ok (.if_icmp .eq 5, 3) := by decide +kernel
theorem dX10_isSpelt_10 : decode cX10_isSpelt 10 = .ok (.iconst 0, 1) := by decide +kernel
theorem dX10_isSpelt_11 : decode cX10_isSpelt 11 = .ok (.ireturn, 1) := by decide +kernel
theorem dX10_isSpelt_12 : decode cX10_isSpelt 12 = .ok (.iconst 0, 1) := by decide +kernel
theorem dX10_isSpelt_13 : decode cX10_isSpelt 13 = .ok (.istore 4, 2) := by decide +kernel
theorem dX10_isSpelt_15 : decode cX10_isSpelt 15 = .ok (.iload 4, 2) := by decide +kernel
theorem dX10_isSpelt_17 : decode cX10_isSpelt 17 = .ok (.aload_n 0, 1) := by decide +kernel
theorem dX10_isSpelt_18 : decode cX10_isSpelt 18 = .ok (.invokevirtual 72, 3) := by decide +kernel
theorem dX10_isSpelt_21 : decode cX10_isSpelt 21 = .ok (.if_icmp .ge 28, 3) := by decide +kernel
theorem dX10_isSpelt_24 : decode cX10_isSpelt 24 = .ok (.aload_n 0, 1) := by decide +kernel
theorem dX10_isSpelt_25 : decode cX10_isSpelt 25 = .ok (.iload 4, 2) := by decide +kernel
theorem dX10_isSpelt_27 : decode cX10_isSpelt 27 = .ok (.invokevirtual 76, 3) := by decide +kernel
theorem dX10_isSpelt_30 : decode cX10_isSpelt 30 = .ok (.aload_n 1, 1) := by decide +kernel
theorem dX10_isSpelt_31 : decode cX10_isSpelt 31 = .ok (.iload_n 2, 1) := by decide +kernel
theorem dX10_isSpelt_32 : decode cX10_isSpelt 32 = .ok (.iload 4, 2) := by decide +kernel
theorem dX10_isSpelt_34 : decode cX10_isSpelt 34 = .ok (.iadd, 1) := by decide +kernel
theorem dX10_isSpelt_35 : decode cX10_isSpelt 35 = .ok (.invokevirtual 55, 3) := by decide +kernel
theorem dX10_isSpelt_38 : decode cX10_isSpelt 38 = .ok (.if_icmp .eq 5, 3) := by decide +kernel
theorem dX10_isSpelt_41 : decode cX10_isSpelt 41 = .ok (.iconst 0, 1) := by decide +kernel
theorem dX10_isSpelt_42 : decode cX10_isSpelt 42 = .ok (.ireturn, 1) := by decide +kernel
theorem dX10_isSpelt_43 : decode cX10_isSpelt 43 = .ok (.iinc 4 1, 3) := by decide +kernel
theorem dX10_isSpelt_46 : decode cX10_isSpelt 46 = .ok (.goto (-31), 3) := by decide +kernel
theorem dX10_isSpelt_49 : decode cX10_isSpelt 49 = .ok (.iconst 1, 1) := by decide +kernel
theorem dX10_isSpelt_50 : decode cX10_isSpelt 50 = .ok (.ireturn, 1) := by decide +kernel
theorem dX10_spellingOf_0 : decode cX10_spellingOf 0 = .ok (.iload_n 0, 1) := by decide +kernel
theorem dX10_spellingOf_1 : decode cX10_spellingOf 1 = .ok (.tableswitch 99 0 11 #[63, 66, 69, 72, 75, 78, 81, 84, 87, 90, 93, 96], 63) := by decide +kernel
theorem dX10_spellingOf_64 : decode cX10_spellingOf 64 = .ok (.ldc 80, 2) := by decide +kernel
theorem dX10_spellingOf_66 : decode cX10_spellingOf 66 = .ok (.areturn, 1) := by decide +kernel
theorem dX10_spellingOf_67 : decode cX10_spellingOf 67 = .ok (.ldc 82, 2) := by decide +kernel
theorem dX10_spellingOf_69 : decode cX10_spellingOf 69 = .ok (.areturn, 1) := by decide +kernel
theorem dX10_spellingOf_70 : decode cX10_spellingOf 70 = .ok (.ldc 84, 2) := by decide +kernel
theorem dX10_spellingOf_72 : decode cX10_spellingOf 72 = .ok (.areturn, 1) := by decide +kernel
theorem dX10_spellingOf_73 : decode cX10_spellingOf 73 = .ok (.ldc 86, 2) := by decide +kernel
theorem dX10_spellingOf_75 : decode cX10_spellingOf 75 = .ok (.areturn, 1) := by decide +kernel
theorem dX10_spellingOf_76 : decode cX10_spellingOf 76 = .ok (.ldc 88, 2) := by decide +kernel
theorem dX10_spellingOf_78 : decode cX10_spellingOf 78 = .ok (.areturn, 1) := by decide +kernel
theorem dX10_spellingOf_79 : decode cX10_spellingOf 79 = .ok (.ldc 90, 2) := by decide +kernel
theorem dX10_spellingOf_81 : decode cX10_spellingOf 81 = .ok (.areturn, 1) := by decide +kernel
theorem dX10_spellingOf_82 : decode cX10_spellingOf 82 = .ok (.ldc 92, 2) := by decide +kernel
theorem dX10_spellingOf_84 : decode cX10_spellingOf 84 = .ok (.areturn, 1) := by decide +kernel
theorem dX10_spellingOf_85 : decode cX10_spellingOf 85 = .ok (.ldc 94, 2) := by decide +kernel
theorem dX10_spellingOf_87 : decode cX10_spellingOf 87 = .ok (.areturn, 1) := by decide +kernel
theorem dX10_spellingOf_88 : decode cX10_spellingOf 88 = .ok (.ldc 96, 2) := by decide +kernel
theorem dX10_spellingOf_90 : decode cX10_spellingOf 90 = .ok (.areturn, 1) := by decide +kernel
theorem dX10_spellingOf_91 : decode cX10_spellingOf 91 = .ok (.ldc 98, 2) := by decide +kernel
theorem dX10_spellingOf_93 : decode cX10_spellingOf 93 = .ok (.areturn, 1) := by decide +kernel
theorem dX10_spellingOf_94 : decode cX10_spellingOf 94 = .ok (.ldc 100, 2) := by decide +kernel
theorem dX10_spellingOf_96 : decode cX10_spellingOf 96 = .ok (.areturn, 1) := by decide +kernel
theorem dX10_spellingOf_97 : decode cX10_spellingOf 97 = .ok (.ldc 102, 2) := by decide +kernel
theorem dX10_spellingOf_99 : decode cX10_spellingOf 99 = .ok (.areturn, 1) := by decide +kernel
theorem dX10_spellingOf_100 : decode cX10_spellingOf 100 = .ok (.ldc 104, 2) := by decide +kernel
theorem dX10_spellingOf_102 : decode cX10_spellingOf 102 = .ok (.areturn, 1) := by decide +kernel
theorem dX11_init_0 : decode cX11_init 0 = .ok (.aload_n 0, 1) := by decide +kernel
theorem dX11_init_1 : decode cX11_init 1 = .ok (.invokespecial 1, 3) := by decide +kernel
theorem dX11_init_4 : decode cX11_init 4 = .ok (.aload_n 0, 1) := by decide +kernel
theorem dX11_init_5 : decode cX11_init 5 = .ok (.new 7, 3) := by decide +kernel
theorem dX11_init_8 : decode cX11_init 8 = .ok (.dup, 1) := by decide +kernel
theorem dX11_init_9 : decode cX11_init 9 = .ok (.invokespecial 9, 3) := by decide +kernel
theorem dX11_init_12 : decode cX11_init 12 = .ok (.putfield 10, 3) := by decide +kernel
theorem dX11_init_15 : decode cX11_init 15 = .ok (.aload_n 0, 1) := by decide +kernel
theorem dX11_init_16 : decode cX11_init 16 = .ok (.new 7, 3) := by decide +kernel
theorem dX11_init_19 : decode cX11_init 19 = .ok (.dup, 1) := by decide +kernel
theorem dX11_init_20 : decode cX11_init 20 = .ok (.invokespecial 9, 3) := by decide +kernel
theorem dX11_init_23 : decode cX11_init 23 = .ok (.putfield 16, 3) := by decide +kernel
theorem dX11_init_26 : decode cX11_init 26 = .ok (.aload_n 0, 1) := by decide +kernel
theorem dX11_init_27 : decode cX11_init 27 = .ok (.new 7, 3) := by decide +kernel
theorem dX11_init_30 : decode cX11_init 30 = .ok (.dup, 1) := by decide +kernel
theorem dX11_init_31 : decode cX11_init 31 = .ok (.invokespecial 9, 3) := by decide +kernel
theorem dX11_init_34 : decode cX11_init 34 = .ok (.putfield 19, 3) := by decide +kernel
theorem dX11_init_37 : decode cX11_init 37 = .ok (.aload_n 0, 1) := by decide +kernel
theorem dX11_init_38 : decode cX11_init 38 = .ok (.iconst 0, 1) := by decide +kernel
theorem dX11_init_39 : decode cX11_init 39 = .ok (.putfield 22, 3) := by decide +kernel
theorem dX11_init_42 : decode cX11_init 42 = .ok (.aload_n 0, 1) := by decide +kernel
theorem dX11_init_43 : decode cX11_init 43 = .ok (.new 26, 3) := by decide +kernel
theorem dX11_init_46 : decode cX11_init 46 = .ok (.dup, 1) := by decide +kernel
theorem dX11_init_47 : decode cX11_init 47 = .ok (.invokespecial 28, 3) := by decide +kernel
theorem dX11_init_50 : decode cX11_init 50 = .ok (.putfield 29, 3) := by decide +kernel
theorem dX11_init_53 : decode cX11_init 53 = .ok (.aload_n 0, 1) := by decide +kernel
theorem dX11_init_54 : decode cX11_init 54 = .ok (.new 33, 3) := by decide +kernel
theorem dX11_init_57 : decode cX11_init 57 = .ok (.dup, 1) := by decide +kernel
theorem dX11_init_58 : decode cX11_init 58 = .ok (.invokespecial 35, 3) := by decide +kernel
theorem dX11_init_61 : decode cX11_init 61 = .ok (.putfield 36, 3) := by decide +kernel
theorem dX11_init_64 : decode cX11_init 64 = .ok (.aload_n 0, 1) := by decide +kernel
theorem dX11_init_65 : decode cX11_init 65 = .ok (.new 40, 3) := by decide +kernel
theorem dX11_init_68 : decode cX11_init 68 = .ok (.dup, 1) := by decide +kernel
theorem dX11_init_69 : decode cX11_init 69 = .ok (.invokespecial 42, 3) := by decide +kernel
theorem dX11_init_72 : decode cX11_init 72 = .ok (.putfield 43, 3) := by decide +kernel
theorem dX11_init_75 : decode cX11_init 75 = .ok (.aload_n 0, 1) := by decide +kernel
theorem dX11_init_76 : decode cX11_init 76 = .ok (.new 47, 3) := by decide +kernel
theorem dX11_init_79 : decode cX11_init 79 = .ok (.dup, 1) := by decide +kernel
theorem dX11_init_80 : decode cX11_init 80 = .ok (.aload_n 0, 1) := by decide +kernel
theorem dX11_init_81 : decode cX11_init 81 = .ok (.getfield 43, 3) := by decide +kernel
theorem dX11_init_84 : decode cX11_init 84 = .ok (.invokespecial 49, 3) := by decide +kernel
theorem dX11_init_87 : decode cX11_init 87 = .ok (.putfield 52, 3) := by decide +kernel
theorem dX11_init_90 : decode cX11_init 90 = .ok (.aload_n 0, 1) := by decide +kernel
theorem dX11_init_91 : decode cX11_init 91 = .ok (.new 56, 3) := by decide +kernel
theorem dX11_init_94 : decode cX11_init 94 = .ok (.dup, 1) := by decide +kernel
theorem dX11_init_95 : decode cX11_init 95 = .ok (.invokespecial 58, 3) := by decide +kernel
theorem dX11_init_98 : decode cX11_init 98 = .ok (.putfield 59, 3) := by decide +kernel
theorem dX11_init_101 : decode cX11_init 101 = .ok (.aload_n 0, 1) := by decide +kernel
theorem dX11_init_102 : decode cX11_init 102 = .ok (.new 63, 3) := by decide +kernel
theorem dX11_init_105 : decode cX11_init 105 = .ok (.dup, 1) := by decide +kernel
theorem dX11_init_106 : decode cX11_init 106 = .ok (.invokespecial 65, 3) := by decide +kernel
theorem dX11_init_109 : decode cX11_init 109 = .ok (.putfield 66, 3) := by decide +kernel
theorem dX11_init_112 : decode cX11_init 112 = .ok (.aload_n 0, 1) := by decide +kernel
theorem dX11_init_113 : decode cX11_init 113 = .ok (.iconst 4, 1) := by decide +kernel
theorem dX11_init_114 : decode cX11_init 114 = .ok (.anewarray 70, 3) := by decide +kernel
theorem dX11_init_117 : decode cX11_init 117 = .ok (.putfield 72, 3) := by decide +kernel
theorem dX11_init_120 : decode cX11_init 120 = .ok (.iconst 0, 1) := by decide +kernel
theorem dX11_init_121 : decode cX11_init 121 = .ok (.istore_n 1, 1) := by decide +kernel
theorem dX11_init_122 : decode cX11_init 122 = .ok (.iload_n 1, 1) := by decide +kernel
theorem dX11_init_123 : decode cX11_init 123 = .ok (.iconst 4, 1) := by decide +kernel
theorem dX11_init_124 : decode cX11_init 124 = .ok (.if_icmp .ge 22, 3) := by decide +kernel
theorem dX11_init_127 : decode cX11_init 127 = .ok (.aload_n 0, 1) := by decide +kernel
theorem dX11_init_128 : decode cX11_init 128 = .ok (.getfield 72, 3) := by decide +kernel
theorem dX11_init_131 : decode cX11_init 131 = .ok (.iload_n 1, 1) := by decide +kernel
theorem dX11_init_132 : decode cX11_init 132 = .ok (.new 70, 3) := by decide +kernel
theorem dX11_init_135 : decode cX11_init 135 = .ok (.dup, 1) := by decide +kernel
theorem dX11_init_136 : decode cX11_init 136 = .ok (.invokespecial 76, 3) := by decide +kernel
theorem dX11_init_139 : decode cX11_init 139 = .ok (.aastore, 1) := by decide +kernel
theorem dX11_init_140 : decode cX11_init 140 = .ok (.iinc 1 1, 3) := by decide +kernel
theorem dX11_init_143 : decode cX11_init 143 = .ok (.goto (-21), 3) := by decide +kernel
theorem dX11_init_146 : decode cX11_init 146 = .ok (.iconst 0, 1) := by decide +kernel
theorem dX11_init_147 : decode cX11_init 147 = .ok (.istore_n 1, 1) := by decide +kernel
theorem dX11_init_148 : decode cX11_init 148 = .ok (.iload_n 1, 1) := by decide +kernel
theorem dX11_init_149 : decode cX11_init 149 = .ok (.ldc 77, 2) := by decide +kernel
theorem dX11_init_151 : decode cX11_init 151 = .ok (.invokevirtual 79, 3) := by decide +kernel
theorem dX11_init_154 : decode cX11_init 154 = .ok (.if_icmp .ge 23, 3) := by decide +kernel
theorem dX11_init_157 : decode cX11_init 157 = .ok (.aload_n 0, 1) := by decide +kernel
theorem dX11_init_158 : decode cX11_init 158 = .ok (.getfield 29, 3) := by decide +kernel
theorem dX11_init_161 : decode cX11_init 161 = .ok (.ldc 77, 2) := by decide +kernel
theorem dX11_init_163 : decode cX11_init 163 = .ok (.iload_n 1, 1) := by decide +kernel
theorem dX11_init_164 : decode cX11_init 164 = .ok (.invokevirtual 85, 3) := by decide +kernel
theorem dX11_init_167 : decode cX11_init 167 = .ok (.invokevirtual 89, 3) := by decide +kernel
theorem dX11_init_170 : decode cX11_init 170 = .ok (.pop, 1) := by decide +kernel
theorem dX11_init_171 : decode cX11_init 171 = .ok (.iinc 1 1, 3) := by decide +kernel
theorem dX11_init_174 : decode cX11_init 174 = .ok (.goto (-26), 3) := by decide +kernel
theorem dX11_init_177 : decode cX11_init 177 = .ok (.aload_n 0, 1) := by decide +kernel
theorem dX11_init_178 : decode cX11_init 178 = .ok (.invokevirtual 93, 3) := by decide +kernel
theorem dX11_init_181 : decode cX11_init 181 = .ok (.pop, 1) := by decide +kernel
theorem dX11_init_182 : decode cX11_init 182 = .ok (.return_, 1) := by decide +kernel
theorem dX11_set_0 : decode cX11_set 0 = .ok (.iload_n 1, 1) := by decide +kernel
theorem dX11_set_1 : decode cX11_set 1 = .ok (.ifCond .lt 26, 3) := by decide +kernel
theorem dX11_set_4 : decode cX11_set 4 = .ok (.iload_n 1, 1) := by decide +kernel
theorem dX11_set_5 : decode cX11_set 5 = .ok (.bipush 7, 2) := by decide +kernel
theorem dX11_set_7 : decode cX11_set 7 = .ok (.if_icmp .gt 20, 3) := by decide +kernel
theorem dX11_set_10 : decode cX11_set 10 = .ok (.iload_n 3, 1) := by decide +kernel
theorem dX11_set_11 : decode cX11_set 11 = .ok (.getstatic 96, 3) := by decide +kernel
theorem dX11_set_14 : decode cX11_set 14 = .ok (.iload_n 1, 1) := by decide +kernel
theorem dX11_set_15 : decode cX11_set 15 = .ok (.iaload, 1) := by decide +kernel
theorem dX11_set_16 : decode cX11_set 16 = .ok (.getstatic 100, 3) := by decide +kernel
theorem dX11_set_19 : decode cX11_set 19 = .ok (.iload_n 1, 1) := by decide +kernel
theorem dX11_set_20 : decode cX11_set 20 = .ok (.iaload, 1) := by decide +kernel
theorem dX11_set_21 : decode cX11_set 21 = .ok (.invokestatic 103, 3) := by decide +kernel
theorem dX11_set_24 : decode cX11_set 24 = .ok (.ifCond .ne 6, 3) := by decide +kernel
theorem dX11_set_27 : decode cX11_set 27 = .ok (.bipush (-2), 2) := by decide +kernel
theorem dX11_set_29 : decode cX11_set 29 = .ok (.ireturn, 1) := by decide +kernel
theorem dX11_set_30 : decode cX11_set 30 = .ok (.iload_n 1, 1) := by decide +kernel
theorem dX11_set_31 : decode cX11_set 31 = .ok (.iconst 4, 1) := by decide +kernel
theorem dX11_set_32 : decode cX11_set 32 = .ok (.if_icmp .gt 25, 3) := by decide +kernel
theorem dX11_set_35 : decode cX11_set 35 = .ok (.aload_n 0, 1) := by decide +kernel
theorem dX11_set_36 : decode cX11_set 36 = .ok (.getfield 10, 3) := by decide +kernel
theorem dX11_set_39 : decode cX11_set 39 = .ok (.iload_n 1, 1) := by decide +kernel
theorem dX11_set_40 : decode cX11_set 40 = .ok (.invokevirtual 107, 3) := by decide +kernel
theorem dX11_set_43 : decode cX11_set 43 = .ok (.istore 4, 2) := by decide +kernel
theorem dX11_set_45 : decode cX11_set 45 = .ok (.aload_n 0, 1) := by decide +kernel
theorem dX11_set_46 : decode cX11_set 46 = .ok (.getfield 10, 3) := by decide +kernel
theorem dX11_set_49 : decode cX11_set 49 = .ok (.iload_n 1, 1) := by decide +kernel
theorem dX11_set_50 : decode cX11_set 50 = .ok (.iload_n 3, 1) := by decide +kernel
theorem dX11_set_51 : decode cX11_set 51 = .ok (.invokevirtual 111, 3) := by decide +kernel
theorem dX11_set_54 : decode cX11_set 54 = .ok (.iload 4, 2) := by decide +kernel
theorem dX11_set_56 : decode cX11_set 56 = .ok (.ireturn, 1) := by decide +kernel
theorem dX11_set_57 : decode cX11_set 57 = .ok (.aload_n 0, 1) := by decide +kernel
theorem dX11_set_58 : decode cX11_set 58 = .ok (.getfield 10, 3) := by decide +kernel
theorem dX11_set_61 : decode cX11_set 61 = .ok (.iload_n 2, 1) := by decide +kernel
theorem dX11_set_62 : decode cX11_set 62 = .ok (.invokevirtual 115, 3) := by decide +kernel
theorem dX11_set_65 : decode cX11_set 65 = .ok (.ifCond .ne 6, 3) := by decide +kernel
theorem dX11_set_68 : decode cX11_set 68 = .ok (.bipush (-2), 2) := by decide +kernel
theorem dX11_set_70 : decode cX11_set 70 = .ok (.ireturn, 1) := by decide +kernel
theorem dX11_set_71 : decode cX11_set 71 = .ok (.aload_n 0, 1) := by decide +kernel
theorem dX11_set_72 : decode cX11_set 72 = .ok (.getfield 10, 3) := by decide +kernel
theorem dX11_set_75 : decode cX11_set 75 = .ok (.getfield 118, 3) := by decide +kernel
theorem dX11_set_78 : decode cX11_set 78 = .ok (.iload_n 2, 1) := by decide +kernel
theorem dX11_set_79 : decode cX11_set 79 = .ok (.aaload, 1) := by decide +kernel
theorem dX11_set_80 : decode cX11_set 80 = .ok (.iload_n 1, 1) := by decide +kernel
theorem dX11_set_81 : decode cX11_set 81 = .ok (.invokevirtual 122, 3) := by decide +kernel
theorem dX11_set_84 : decode cX11_set 84 = .ok (.istore 4, 2) := by decide +kernel
theorem dX11_set_86 : decode cX11_set 86 = .ok (.aload_n 0, 1) := by decide +kernel
theorem dX11_set_87 : decode cX11_set 87 = .ok (.getfield 10, 3) := by decide +kernel
theorem dX11_set_90 : decode cX11_set 90 = .ok (.getfield 118, 3) := by decide +kernel
theorem dX11_set_93 : decode cX11_set 93 = .ok (.iload_n 2, 1) := by decide +kernel
theorem dX11_set_94 : decode cX11_set 94 = .ok (.aaload, 1) := by decide +kernel
theorem dX11_set_95 : decode cX11_set 95 = .ok (.iload_n 1, 1) := by decide +kernel
theorem dX11_set_96 : decode cX11_set 96 = .ok (.iload_n 3, 1) := by decide +kernel
theorem dX11_set_97 : decode cX11_set 97 = .ok (.invokevirtual 125, 3) := by decide +kernel
theorem dX11_set_100 : decode cX11_set 100 = .ok (.iload 4, 2) := by decide +kernel
theorem dX11_set_102 : decode cX11_set 102 = .ok (.ireturn, 1) := by decide +kernel
theorem dX11_customer_0 : decode cX11_customer 0 = .ok (.iload_n 1, 1) := by decide +kernel
theorem dX11_customer_1 : decode cX11_customer 1 = .ok (.iconst 0, 1) := by decide +kernel
theorem dX11_customer_2 : decode cX11_customer 2 = .ok (.iconst 5, 1) := by decide +kernel
theorem dX11_customer_3 : decode cX11_customer 3 = .ok (.invokestatic 103, 3) := by decide +kernel
theorem dX11_customer_6 : decode cX11_customer 6 = .ok (.ifCond .eq 20, 3) := by decide +kernel
theorem dX11_customer_9 : decode cX11_customer 9 = .ok (.iload_n 2, 1) := by decide +kernel
theorem dX11_customer_10 : decode cX11_customer 10 = .ok (.iconst 0, 1) := by decide +kernel
theorem dX11_customer_11 : decode cX11_customer 11 = .ok (.bipush 9, 2) := by decide +kernel
theorem dX11_customer_13 : decode cX11_customer 13 = .ok (.invokestatic 103, 3) := by decide +kernel
theorem dX11_customer_16 : decode cX11_customer 16 = .ok (.ifCond .eq 10, 3) := by decide +kernel
theorem dX11_customer_19 : decode cX11_customer 19 = .ok (.iload_n 3, 1) := by decide +kernel
theorem dX11_customer_20 : decode cX11_customer 20 = .ok (.invokestatic 126, 3) := by decide +kernel
theorem dX11_customer_23 : decode cX11_customer 23 = .ok (.ifCond .ne 6, 3) := by decide +kernel
theorem dX11_customer_26 : decode cX11_customer 26 = .ok (.bipush (-2), 2) := by decide +kernel
theorem dX11_customer_28 : decode cX11_customer 28 = .ok (.ireturn, 1) := by decide +kernel
theorem dX11_customer_29 : decode cX11_customer 29 = .ok (.aload_n 0, 1) := by decide +kernel
theorem dX11_customer_30 : decode cX11_customer 30 = .ok (.getfield 10, 3) := by decide +kernel
theorem dX11_customer_33 : decode cX11_customer 33 = .ok (.getfield 129, 3) := by decide +kernel
theorem dX11_customer_36 : decode cX11_customer 36 = .ok (.bipush 8, 2) := by decide +kernel
theorem dX11_customer_38 : decode cX11_customer 38 = .ok (.if_icmp .lt 6, 3) := by decide +kernel
theorem dX11_customer_41 : decode cX11_customer 41 = .ok (.bipush (-4), 2) := by decide +kernel
theorem dX11_customer_43 : decode cX11_customer 43 = .ok (.ireturn, 1) := by decide +kernel
theorem dX11_customer_44 : decode cX11_customer 44 = .ok (.aload_n 0, 1) := by decide +kernel
theorem dX11_customer_45 : decode cX11_customer 45 = .ok (.getfield 10, 3) := by decide +kernel
theorem dX11_customer_48 : decode cX11_customer 48 = .ok (.getfield 118, 3) := by decide +kernel
theorem dX11_customer_51 : decode cX11_customer 51 = .ok (.aload_n 0, 1) := by decide +kernel
theorem dX11_customer_52 : decode cX11_customer 52 = .ok (.getfield 10, 3) := by decide +kernel
theorem dX11_customer_55 : decode cX11_customer 55 = .ok (.getfield 129, 3) := by decide +kernel
theorem dX11_customer_58 : decode cX11_customer 58 = .ok (.aaload, 1) := by decide +kernel
theorem dX11_customer_59 : decode cX11_customer 59 = .ok (.iload_n 1, 1) := by decide +kernel
theorem dX11_customer_60 : decode cX11_customer 60 = .ok (.iload_n 2, 1) := by decide +kernel
theorem dX11_customer_61 : decode cX11_customer 61 = .ok (.iload_n 3, 1) := by decide +kernel
theorem dX11_customer_62 : decode cX11_customer 62 = .ok (.invokevirtual 133, 3) := by decide +kernel
theorem dX11_customer_65 : decode cX11_customer 65 = .ok (.aload_n 0, 1) := by decide +kernel
theorem dX11_customer_66 : decode cX11_customer 66 = .ok (.getfield 10, 3) := by decide +kernel
theorem dX11_customer_69 : decode cX11_customer 69 = .ok (.dup, 1) := by decide +kernel
theorem dX11_customer_70 : decode cX11_customer 70 = .ok (.getfield 129, 3) := by decide +kernel
theorem dX11_customer_73 : decode cX11_customer 73 = .ok (.iconst 1, 1) := by decide +kernel
theorem dX11_customer_74 : decode cX11_customer 74 = .ok (.iadd, 1) := by decide +kernel
theorem dX11_customer_75 : decode cX11_customer 75 = .ok (.putfield 129, 3) := by decide +kernel
theorem dX11_customer_78 : decode cX11_customer 78 = .ok (.aload_n 0, 1) := by decide +kernel
theorem dX11_customer_79 : decode cX11_customer 79 = .ok (.getfield 10, 3) := by decide +kernel
theorem dX11_customer_82 : decode cX11_customer 82 = .ok (.getfield 129, 3) := by decide +kernel
theorem dX11_customer_85 : decode cX11_customer 85 = .ok (.iconst 1, 1) := by decide +kernel
theorem dX11_customer_86 : decode cX11_customer 86 = .ok (.isub, 1) := by decide +kernel
theorem dX11_customer_87 : decode cX11_customer 87 = .ok (.ireturn, 1) := by decide +kernel
theorem dX11_told_0 : decode cX11_told 0 = .ok (.iload_n 2, 1) := by decide +kernel
theorem dX11_told_1 : decode cX11_told 1 = .ok (.ifCond .lt 17, 3) := by decide +kernel
theorem dX11_told_4 : decode cX11_told 4 = .ok (.iload_n 2, 1) := by decide +kernel
theorem dX11_told_5 : decode cX11_told 5 = .ok (.iconst 4, 1) := by decide +kernel
theorem dX11_told_6 : decode cX11_told 6 = .ok (.if_icmp .gt 12, 3) := by decide +kernel
theorem dX11_told_9 : decode cX11_told 9 = .ok (.aload_n 0, 1) := by decide +kernel
theorem dX11_told_10 : decode cX11_told 10 = .ok (.getfield 10, 3) := by decide +kernel
theorem dX11_told_13 : decode cX11_told 13 = .ok (.iload_n 2, 1) := by decide +kernel
theorem dX11_told_14 : decode cX11_told 14 = .ok (.invokevirtual 107, 3) := by decide +kernel
theorem dX11_told_17 : decode cX11_told 17 = .ok (.ireturn, 1) := by decide +kernel
theorem dX11_told_18 : decode cX11_told 18 = .ok (.aload_n 0, 1) := by decide +kernel
theorem dX11_told_19 : decode cX11_told 19 = .ok (.getfield 10, 3) := by decide +kernel
theorem dX11_told_22 : decode cX11_told 22 = .ok (.iload_n 1, 1) := by decide +kernel
theorem dX11_told_23 : decode cX11_told 23 = .ok (.invokevirtual 115, 3) := by decide +kernel
theorem dX11_told_26 : decode cX11_told 26 = .ok (.ifCond .ne 6, 3) := by decide +kernel
theorem dX11_told_29 : decode cX11_told 29 = .ok (.ldc 137, 2) := by decide +kernel
theorem dX11_told_31 : decode cX11_told 31 = .ok (.ireturn, 1) := by decide +kernel
theorem dX11_told_32 : decode cX11_told 32 = .ok (.aload_n 0, 1) := by decide +kernel
theorem dX11_told_33 : decode cX11_told 33 = .ok (.getfield 10, 3) := by decide +kernel
theorem dX11_told_36 : decode cX11_told 36 = .ok (.getfield 118, 3) := by decide +kernel
theorem dX11_told_39 : decode cX11_told 39 = .ok (.iload_n 1, 1) := by decide +kernel
theorem dX11_told_40 : decode cX11_told 40 = .ok (.aaload, 1) := by decide +kernel
theorem dX11_told_41 : decode cX11_told 41 = .ok (.astore_n 3, 1) := by decide +kernel
theorem dX11_told_42 : decode cX11_told 42 = .ok (.iload_n 2, 1) := by decide +kernel
theorem dX11_told_43 : decode cX11_told 43 = .ok (.iconst 5, 1) := by decide +kernel
theorem dX11_told_44 : decode cX11_told 44 = .ok (.if_icmp .lt 15, 3) := by decide +kernel
theorem dX11_told_47 : decode cX11_told 47 = .ok (.iload_n 2, 1) := by decide +kernel
theorem dX11_told_48 : decode cX11_told 48 = .ok (.bipush 9, 2) := by decide +kernel
theorem dX11_told_50 : decode cX11_told 50 = .ok (.if_icmp .gt 9, 3) := by decide +kernel
theorem dX11_told_53 : decode cX11_told 53 = .ok (.aload_n 3, 1) := by decide +kernel
theorem dX11_told_54 : decode cX11_told 54 = .ok (.iload_n 2, 1) := by decide +kernel
theorem dX11_told_55 : decode cX11_told 55 = .ok (.invokevirtual 122, 3) := by decide +kernel
theorem dX11_told_58 : decode cX11_told 58 = .ok (.ireturn, 1) := by decide +kernel
theorem dX11_told_59 : decode cX11_told 59 = .ok (.iload_n 2, 1) := by decide +kernel
theorem dX11_told_60 : decode cX11_told 60 = .ok (.tableswitch 122 10 15 #[40, 53, 66, 79, 96, 109], 40) := by decide +kernel
theorem dX11_told_100 : decode cX11_told 100 = .ok (.aload_n 0, 1) := by decide +kernel
theorem dX11_told_101 : decode cX11_told 101 = .ok (.getfield 52, 3) := by decide +kernel
theorem dX11_told_104 : decode cX11_told 104 = .ok (.aload_n 0, 1) := by decide +kernel
theorem dX11_told_105 : decode cX11_told 105 = .ok (.getfield 10, 3) := by decide +kernel
theorem dX11_told_108 : decode cX11_told 108 = .ok (.aload_n 3, 1) := by decide +kernel
theorem dX11_told_109 : decode cX11_told 109 = .ok (.invokevirtual 138, 3) := by decide +kernel
theorem dX11_told_112 : decode cX11_told 112 = .ok (.ireturn, 1) := by decide +kernel
theorem dX11_told_113 : decode cX11_told 113 = .ok (.aload_n 0, 1) := by decide +kernel
theorem dX11_told_114 : decode cX11_told 114 = .ok (.getfield 52, 3) := by decide +kernel
theorem dX11_told_117 : decode cX11_told 117 = .ok (.aload_n 0, 1) := by decide +kernel
theorem dX11_told_118 : decode cX11_told 118 = .ok (.getfield 10, 3) := by decide +kernel
theorem dX11_told_121 : decode cX11_told 121 = .ok (.aload_n 3, 1) := by decide +kernel
theorem dX11_told_122 : decode cX11_told 122 = .ok (.invokevirtual 142, 3) := by decide +kernel
theorem dX11_told_125 : decode cX11_told 125 = .ok (.ireturn, 1) := by decide +kernel
theorem dX11_told_126 : decode cX11_told 126 = .ok (.aload_n 0, 1) := by decide +kernel
theorem dX11_told_127 : decode cX11_told 127 = .ok (.getfield 52, 3) := by decide +kernel
theorem dX11_told_130 : decode cX11_told 130 = .ok (.aload_n 0, 1) := by decide +kernel
theorem dX11_told_131 : decode cX11_told 131 = .ok (.getfield 10, 3) := by decide +kernel
theorem dX11_told_134 : decode cX11_told 134 = .ok (.aload_n 3, 1) := by decide +kernel
theorem dX11_told_135 : decode cX11_told 135 = .ok (.invokevirtual 145, 3) := by decide +kernel
theorem dX11_told_138 : decode cX11_told 138 = .ok (.ireturn, 1) := by decide +kernel
theorem dX11_told_139 : decode cX11_told 139 = .ok (.aload_n 0, 1) := by decide +kernel
theorem dX11_told_140 : decode cX11_told 140 = .ok (.getfield 10, 3) := by decide +kernel
theorem dX11_told_143 : decode cX11_told 143 = .ok (.aload_n 3, 1) := by decide +kernel
theorem dX11_told_144 : decode cX11_told 144 = .ok (.invokevirtual 148, 3) := by decide +kernel
theorem dX11_told_147 : decode cX11_told 147 = .ok (.ifCond .eq 7, 3) := by decide +kernel
theorem dX11_told_150 : decode cX11_told 150 = .ok (.iconst 1, 1) := by decide +kernel
theorem dX11_told_151 : decode cX11_told 151 = .ok (.goto 4, 3) := by decide +kernel
theorem dX11_told_154 : decode cX11_told 154 = .ok (.iconst 0, 1) := by decide +kernel
theorem dX11_told_155 : decode cX11_told 155 = .ok (.ireturn, 1) := by decide +kernel
theorem dX11_told_156 : decode cX11_told 156 = .ok (.aload_n 0, 1) := by decide +kernel
theorem dX11_told_157 : decode cX11_told 157 = .ok (.getfield 52, 3) := by decide +kernel
theorem dX11_told_160 : decode cX11_told 160 = .ok (.aload_n 0, 1) := by decide +kernel
theorem dX11_told_161 : decode cX11_told 161 = .ok (.getfield 10, 3) := by decide +kernel
theorem dX11_told_164 : decode cX11_told 164 = .ok (.aload_n 3, 1) := by decide +kernel
theorem dX11_told_165 : decode cX11_told 165 = .ok (.invokevirtual 152, 3) := by decide +kernel
theorem dX11_told_168 : decode cX11_told 168 = .ok (.ireturn, 1) := by decide +kernel
theorem dX11_told_169 : decode cX11_told 169 = .ok (.aload_n 0, 1) := by decide +kernel
theorem dX11_told_170 : decode cX11_told 170 = .ok (.getfield 52, 3) := by decide +kernel
theorem dX11_told_173 : decode cX11_told 173 = .ok (.aload_n 0, 1) := by decide +kernel
theorem dX11_told_174 : decode cX11_told 174 = .ok (.getfield 10, 3) := by decide +kernel
theorem dX11_told_177 : decode cX11_told 177 = .ok (.aload_n 3, 1) := by decide +kernel
theorem dX11_told_178 : decode cX11_told 178 = .ok (.invokevirtual 155, 3) := by decide +kernel
theorem dX11_told_181 : decode cX11_told 181 = .ok (.ireturn, 1) := by decide +kernel
theorem dX11_told_182 : decode cX11_told 182 = .ok (.ldc 137, 2) := by decide +kernel
theorem dX11_told_184 : decode cX11_told 184 = .ok (.ireturn, 1) := by decide +kernel
theorem dX11_feed_0 : decode cX11_feed 0 = .ok (.iload_n 1, 1) := by decide +kernel
theorem dX11_feed_1 : decode cX11_feed 1 = .ok (.iconst 0, 1) := by decide +kernel
theorem dX11_feed_2 : decode cX11_feed 2 = .ok (.sipush 255, 3) := by decide +kernel
theorem dX11_feed_5 : decode cX11_feed 5 = .ok (.invokestatic 103, 3) := by decide +kernel
theorem dX11_feed_8 : decode cX11_feed 8 = .ok (.ifCond .ne 6, 3) := by decide +kernel
theorem dX11_feed_11 : decode cX11_feed 11 = .ok (.bipush (-2), 2) := by decide +kernel
theorem dX11_feed_13 : decode cX11_feed 13 = .ok (.ireturn, 1) := by decide +kernel
theorem dX11_feed_14 : decode cX11_feed 14 = .ok (.aload_n 0, 1) := by decide +kernel
theorem dX11_feed_15 : decode cX11_feed 15 = .ok (.getfield 29, 3) := by decide +kernel
theorem dX11_feed_18 : decode cX11_feed 18 = .ok (.iload_n 1, 1) := by decide +kernel
theorem dX11_feed_19 : decode cX11_feed 19 = .ok (.invokevirtual 89, 3) := by decide +kernel
theorem dX11_feed_22 : decode cX11_feed 22 = .ok (.ifCond .eq 13, 3) := by decide +kernel
theorem dX11_feed_25 : decode cX11_feed 25 = .ok (.aload_n 0, 1) := by decide +kernel
theorem dX11_feed_26 : decode cX11_feed 26 = .ok (.getfield 29, 3) := by decide +kernel
theorem dX11_feed_29 : decode cX11_feed 29 = .ok (.getfield 158, 3) := by decide +kernel
theorem dX11_feed_32 : decode cX11_feed 32 = .ok (.goto 5, 3) := by decide +kernel
theorem dX11_feed_35 : decode cX11_feed 35 = .ok (.bipush (-4), 2) := by decide +kernel
theorem dX11_feed_37 : decode cX11_feed 37 = .ok (.ireturn, 1) := by decide +kernel
theorem dX11_text_0 : decode cX11_text 0 = .ok (.aload_n 0, 1) := by decide +kernel
theorem dX11_text_1 : decode cX11_text 1 = .ok (.getfield 43, 3) := by decide +kernel
theorem dX11_text_4 : decode cX11_text 4 = .ok (.getfield 159, 3) := by decide +kernel
theorem dX11_text_7 : decode cX11_text 7 = .ok (.bipush 6, 2) := by decide +kernel
theorem dX11_text_9 : decode cX11_text 9 = .ok (.if_icmp .lt 6, 3) := by decide +kernel
theorem dX11_text_12 : decode cX11_text 12 = .ok (.bipush (-4), 2) := by decide +kernel
theorem dX11_text_14 : decode cX11_text 14 = .ok (.ireturn, 1) := by decide +kernel
theorem dX11_text_15 : decode cX11_text 15 = .ok (.aload_n 0, 1) := by decide +kernel
theorem dX11_text_16 : decode cX11_text 16 = .ok (.getfield 36, 3) := by decide +kernel
theorem dX11_text_19 : decode cX11_text 19 = .ok (.aload_n 0, 1) := by decide +kernel
theorem dX11_text_20 : decode cX11_text 20 = .ok (.getfield 29, 3) := by decide +kernel
theorem dX11_text_23 : decode cX11_text 23 = .ok (.aload_n 0, 1) := by decide +kernel
theorem dX11_text_24 : decode cX11_text 24 = .ok (.getfield 43, 3) := by decide +kernel
theorem dX11_text_27 : decode cX11_text 27 = .ok (.getfield 160, 3) := by decide +kernel
theorem dX11_text_30 : decode cX11_text 30 = .ok (.aload_n 0, 1) := by decide +kernel
theorem dX11_text_31 : decode cX11_text 31 = .ok (.getfield 43, 3) := by decide +kernel
theorem dX11_text_34 : decode cX11_text 34 = .ok (.getfield 159, 3) := by decide +kernel
theorem dX11_text_37 : decode cX11_text 37 = .ok (.aaload, 1) := by decide +kernel
theorem dX11_text_38 : decode cX11_text 38 = .ok (.invokevirtual 164, 3) := by decide +kernel
theorem dX11_text_41 : decode cX11_text 41 = .ok (.istore_n 1, 1) := by decide +kernel
theorem dX11_text_42 : decode cX11_text 42 = .ok (.aload_n 0, 1) := by decide +kernel
theorem dX11_text_43 : decode cX11_text 43 = .ok (.getfield 29, 3) := by decide +kernel
theorem dX11_text_46 : decode cX11_text 46 = .ok (.iconst 0, 1) := by decide +kernel
theorem dX11_text_47 : decode cX11_text 47 = .ok (.putfield 158, 3) := by decide +kernel
theorem dX11_text_50 : decode cX11_text 50 = .ok (.iload_n 1, 1) := by decide +kernel
theorem dX11_text_51 : decode cX11_text 51 = .ok (.iconst (-1), 1) := by decide +kernel
theorem dX11_text_52 : decode cX11_text 52 = .ok (.if_icmp .eq 8, 3) := by decide +kernel
theorem dX11_text_55 : decode cX11_text 55 = .ok (.bipush (-100), 2) := by decide +kernel
theorem dX11_text_57 : decode cX11_text 57 = .ok (.iload_n 1, 1) := by decide +kernel
theorem dX11_text_58 : decode cX11_text 58 = .ok (.isub, 1) := by decide +kernel
theorem dX11_text_59 : decode cX11_text 59 = .ok (.ireturn, 1) := by decide +kernel
theorem dX11_text_60 : decode cX11_text 60 = .ok (.aload_n 0, 1) := by decide +kernel
theorem dX11_text_61 : decode cX11_text 61 = .ok (.getfield 43, 3) := by decide +kernel
theorem dX11_text_64 : decode cX11_text 64 = .ok (.dup, 1) := by decide +kernel
theorem dX11_text_65 : decode cX11_text 65 = .ok (.getfield 159, 3) := by decide +kernel
theorem dX11_text_68 : decode cX11_text 68 = .ok (.iconst 1, 1) := by decide +kernel
theorem dX11_text_69 : decode cX11_text 69 = .ok (.iadd, 1) := by decide +kernel
theorem dX11_text_70 : decode cX11_text 70 = .ok (.putfield 159, 3) := by decide +kernel
theorem dX11_text_73 : decode cX11_text 73 = .ok (.aload_n 0, 1) := by decide +kernel
theorem dX11_text_74 : decode cX11_text 74 = .ok (.getfield 43, 3) := by decide +kernel
theorem dX11_text_77 : decode cX11_text 77 = .ok (.getfield 159, 3) := by decide +kernel
theorem dX11_text_80 : decode cX11_text 80 = .ok (.iconst 1, 1) := by decide +kernel
theorem dX11_text_81 : decode cX11_text 81 = .ok (.isub, 1) := by decide +kernel
theorem dX11_text_82 : decode cX11_text 82 = .ok (.ireturn, 1) := by decide +kernel
theorem dX11_force_0 : decode cX11_force 0 = .ok (.aload_n 0, 1) := by decide +kernel
theorem dX11_force_1 : decode cX11_force 1 = .ok (.getfield 43, 3) := by decide +kernel
theorem dX11_force_4 : decode cX11_force 4 = .ok (.iload_n 1, 1) := by decide +kernel
theorem dX11_force_5 : decode cX11_force 5 = .ok (.invokevirtual 168, 3) := by decide +kernel
theorem dX11_force_8 : decode cX11_force 8 = .ok (.ifCond .ne 6, 3) := by decide +kernel
theorem dX11_force_11 : decode cX11_force 11 = .ok (.bipush (-2), 2) := by decide +kernel
theorem dX11_force_13 : decode cX11_force 13 = .ok (.ireturn, 1) := by decide +kernel
theorem dX11_force_14 : decode cX11_force 14 = .ok (.aload_n 0, 1) := by decide +kernel
theorem dX11_force_15 : decode cX11_force 15 = .ok (.getfield 10, 3) := by decide +kernel
theorem dX11_force_18 : decode cX11_force 18 = .ok (.getfield 169, 3) := by decide +kernel
theorem dX11_force_21 : decode cX11_force 21 = .ok (.istore_n 2, 1) := by decide +kernel
theorem dX11_force_22 : decode cX11_force 22 = .ok (.aload_n 0, 1) := by decide +kernel
theorem dX11_force_23 : decode cX11_force 23 = .ok (.getfield 10, 3) := by decide +kernel
theorem dX11_force_26 : decode cX11_force 26 = .ok (.iload_n 1, 1) := by decide +kernel
theorem dX11_force_27 : decode cX11_force 27 = .ok (.putfield 169, 3) := by decide +kernel
theorem dX11_force_30 : decode cX11_force 30 = .ok (.iload_n 2, 1) := by decide +kernel
theorem dX11_force_31 : decode cX11_force 31 = .ok (.ireturn, 1) := by decide +kernel
theorem dX11_board_0 : decode cX11_board 0 = .ok (.iload_n 1, 1) := by decide +kernel
theorem dX11_board_1 : decode cX11_board 1 = .ok (.tableswitch 103 0 5 #[39, 51, 63, 75, 87, 92], 39) := by decide +kernel
theorem dX11_board_40 : decode cX11_board 40 = .ok (.aload_n 0, 1) := by decide +kernel
theorem dX11_board_41 : decode cX11_board 41 = .ok (.getfield 52, 3) := by decide +kernel
theorem dX11_board_44 : decode cX11_board 44 = .ok (.aload_n 0, 1) := by decide +kernel
theorem dX11_board_45 : decode cX11_board 45 = .ok (.getfield 10, 3) := by decide +kernel
theorem dX11_board_48 : decode cX11_board 48 = .ok (.invokevirtual 172, 3) := by decide +kernel
theorem dX11_board_51 : decode cX11_board 51 = .ok (.ireturn, 1) := by decide +kernel
theorem dX11_board_52 : decode cX11_board 52 = .ok (.aload_n 0, 1) := by decide +kernel
theorem dX11_board_53 : decode cX11_board 53 = .ok (.getfield 52, 3) := by decide +kernel
theorem dX11_board_56 : decode cX11_board 56 = .ok (.aload_n 0, 1) := by decide +kernel
theorem dX11_board_57 : decode cX11_board 57 = .ok (.getfield 10, 3) := by decide +kernel
theorem dX11_board_60 : decode cX11_board 60 = .ok (.invokevirtual 176, 3) := by decide +kernel
theorem dX11_board_63 : decode cX11_board 63 = .ok (.ireturn, 1) := by decide +kernel
theorem dX11_board_64 : decode cX11_board 64 = .ok (.aload_n 0, 1) := by decide +kernel
theorem dX11_board_65 : decode cX11_board 65 = .ok (.getfield 52, 3) := by decide +kernel
theorem dX11_board_68 : decode cX11_board 68 = .ok (.aload_n 0, 1) := by decide +kernel
theorem dX11_board_69 : decode cX11_board 69 = .ok (.getfield 10, 3) := by decide +kernel
theorem dX11_board_72 : decode cX11_board 72 = .ok (.invokevirtual 179, 3) := by decide +kernel
theorem dX11_board_75 : decode cX11_board 75 = .ok (.ireturn, 1) := by decide +kernel
theorem dX11_board_76 : decode cX11_board 76 = .ok (.aload_n 0, 1) := by decide +kernel
theorem dX11_board_77 : decode cX11_board 77 = .ok (.getfield 52, 3) := by decide +kernel
theorem dX11_board_80 : decode cX11_board 80 = .ok (.aload_n 0, 1) := by decide +kernel
theorem dX11_board_81 : decode cX11_board 81 = .ok (.getfield 10, 3) := by decide +kernel
theorem dX11_board_84 : decode cX11_board 84 = .ok (.invokevirtual 182, 3) := by decide +kernel
theorem dX11_board_87 : decode cX11_board 87 = .ok (.ireturn, 1) := by decide +kernel
theorem dX11_board_88 : decode cX11_board 88 = .ok (.aload_n 0, 1) := by decide +kernel
theorem dX11_board_89 : decode cX11_board 89 = .ok (.invokevirtual 185, 3) := by decide +kernel
theorem dX11_board_92 : decode cX11_board 92 = .ok (.ireturn, 1) := by decide +kernel
theorem dX11_board_93 : decode cX11_board 93 = .ok (.aload_n 0, 1) := by decide +kernel
theorem dX11_board_94 : decode cX11_board 94 = .ok (.getfield 10, 3) := by decide +kernel
theorem dX11_board_97 : decode cX11_board 97 = .ok (.sipush 1023, 3) := by decide +kernel
theorem dX11_board_100 : decode cX11_board 100 = .ok (.invokevirtual 188, 3) := by decide +kernel
theorem dX11_board_103 : decode cX11_board 103 = .ok (.ireturn, 1) := by decide +kernel
theorem dX11_board_104 : decode cX11_board 104 = .ok (.ldc 137, 2) := by decide +kernel
theorem dX11_board_106 : decode cX11_board 106 = .ok (.ireturn, 1) := by decide +kernel
theorem dX11_fair_0 : decode cX11_fair 0 = .ok (.iload_n 1, 1) := by decide +kernel
theorem dX11_fair_1 : decode cX11_fair 1 = .ok (.invokestatic 191, 3) := by decide +kernel
theorem dX11_fair_4 : decode cX11_fair 4 = .ok (.ifCond .ne 7, 3) := by decide +kernel
theorem dX11_fair_7 : decode cX11_fair 7 = .ok (.ldc2_w 194, 3) := by decide +kernel
theorem dX11_fair_10 : decode cX11_fair 10 = .ok (.lreturn, 1) := by decide +kernel
theorem dX11_fair_11 : decode cX11_fair 11 = .ok (.aload_n 0, 1) := by decide +kernel
theorem dX11_fair_12 : decode cX11_fair 12 = .ok (.getfield 66, 3) := by decide +kernel
theorem dX11_fair_15 : decode cX11_fair 15 = .ok (.lconst 0, 1) := by decide +kernel
theorem dX11_fair_16 : decode cX11_fair 16 = .ok (.lconst 1, 1) := by decide +kernel
theorem dX11_fair_17 : decode cX11_fair 17 = .ok (.invokevirtual 196, 3) := by decide +kernel
theorem dX11_fair_20 : decode cX11_fair 20 = .ok (.iconst 0, 1) := by decide +kernel
theorem dX11_fair_21 : decode cX11_fair 21 = .ok (.istore_n 2, 1) := by decide +kernel
theorem dX11_fair_22 : decode cX11_fair 22 = .ok (.iload_n 2, 1) := by decide +kernel
theorem dX11_fair_23 : decode cX11_fair 23 = .ok (.aload_n 0, 1) := by decide +kernel
theorem dX11_fair_24 : decode cX11_fair 24 = .ok (.getfield 10, 3) := by decide +kernel
theorem dX11_fair_27 : decode cX11_fair 27 = .ok (.getfield 129, 3) := by decide +kernel
theorem dX11_fair_30 : decode cX11_fair 30 = .ok (.if_icmp .ge 67, 3) := by decide +kernel
theorem dX11_fair_33 : decode cX11_fair 33 = .ok (.iload_n 2, 1) := by decide +kernel
theorem dX11_fair_34 : decode cX11_fair 34 = .ok (.bipush 8, 2) := by decide +kernel
theorem dX11_fair_36 : decode cX11_fair 36 = .ok (.if_icmp .ge 61, 3) := by decide +kernel
theorem dX11_fair_39 : decode cX11_fair 39 = .ok (.aload_n 0, 1) := by decide +kernel
theorem dX11_fair_40 : decode cX11_fair 40 = .ok (.getfield 10, 3) := by decide +kernel
theorem dX11_fair_43 : decode cX11_fair 43 = .ok (.getfield 118, 3) := by decide +kernel
theorem dX11_fair_46 : decode cX11_fair 46 = .ok (.iload_n 2, 1) := by decide +kernel
theorem dX11_fair_47 : decode cX11_fair 47 = .ok (.aaload, 1) := by decide +kernel
theorem dX11_fair_48 : decode cX11_fair 48 = .ok (.astore_n 3, 1) := by decide +kernel
theorem dX11_fair_49 : decode cX11_fair 49 = .ok (.aload_n 0, 1) := by decide +kernel
theorem dX11_fair_50 : decode cX11_fair 50 = .ok (.getfield 52, 3) := by decide +kernel
theorem dX11_fair_53 : decode cX11_fair 53 = .ok (.aload_n 0, 1) := by decide +kernel
theorem dX11_fair_54 : decode cX11_fair 54 = .ok (.getfield 10, 3) := by decide +kernel
theorem dX11_fair_57 : decode cX11_fair 57 = .ok (.aload_n 3, 1) := by decide +kernel
theorem dX11_fair_58 : decode cX11_fair 58 = .ok (.invokevirtual 199, 3) := by decide +kernel
theorem dX11_fair_61 : decode cX11_fair 61 = .ok (.istore 4, 2) := by decide +kernel
theorem dX11_fair_63 : decode cX11_fair 63 = .ok (.iload 4, 2) := by decide +kernel
theorem dX11_fair_65 : decode cX11_fair 65 = .ok (.ifCond .le 26, 3) := by decide +kernel
theorem dX11_fair_68 : decode cX11_fair 68 = .ok (.aload_n 0, 1) := by decide +kernel
theorem dX11_fair_69 : decode cX11_fair 69 = .ok (.getfield 66, 3) := by decide +kernel
theorem dX11_fair_72 : decode cX11_fair 72 = .ok (.aload_n 0, 1) := by decide +kernel
theorem dX11_fair_73 : decode cX11_fair 73 = .ok (.getfield 52, 3) := by decide +kernel
theorem dX11_fair_76 : decode cX11_fair 76 = .ok (.aload_n 0, 1) := by decide +kernel
theorem dX11_fair_77 : decode cX11_fair 77 = .ok (.getfield 10, 3) := by decide +kernel
theorem dX11_fair_80 : decode cX11_fair 80 = .ok (.aload_n 3, 1) := by decide +kernel
theorem dX11_fair_81 : decode cX11_fair 81 = .ok (.invokevirtual 145, 3) := by decide +kernel
theorem dX11_fair_84 : decode cX11_fair 84 = .ok (.i2l, 1) := by decide +kernel
theorem dX11_fair_85 : decode cX11_fair 85 = .ok (.iload 4, 2) := by decide +kernel
theorem dX11_fair_87 : decode cX11_fair 87 = .ok (.i2l, 1) := by decide +kernel
theorem dX11_fair_88 : decode cX11_fair 88 = .ok (.invokevirtual 202, 3) := by decide +kernel
theorem dX11_fair_91 : decode cX11_fair 91 = .ok (.iinc 2 1, 3) := by decide +kernel
theorem dX11_fair_94 : decode cX11_fair 94 = .ok (.goto (-72), 3) := by decide +kernel
theorem dX11_fair_97 : decode cX11_fair 97 = .ok (.aload_n 0, 1) := by decide +kernel
theorem dX11_fair_98 : decode cX11_fair 98 = .ok (.getfield 66, 3) := by decide +kernel
theorem dX11_fair_101 : decode cX11_fair 101 = .ok (.iload_n 1, 1) := by decide +kernel
theorem dX11_fair_102 : decode cX11_fair 102 = .ok (.invokevirtual 205, 3) := by decide +kernel
theorem dX11_fair_105 : decode cX11_fair 105 = .ok (.lreturn, 1) := by decide +kernel
theorem dX11_buysOne_0 : decode cX11_buysOne 0 = .ok (.iload_n 1, 1) := by decide +kernel
theorem dX11_buysOne_1 : decode cX11_buysOne 1 = .ok (.invokestatic 191, 3) := by decide +kernel
theorem dX11_buysOne_4 : decode cX11_buysOne 4 = .ok (.ifCond .ne 7, 3) := by decide +kernel
theorem dX11_buysOne_7 : decode cX11_buysOne 7 = .ok (.ldc2_w 194, 3) := by decide +kernel
theorem dX11_buysOne_10 : decode cX11_buysOne 10 = .ok (.lreturn, 1) := by decide +kernel
theorem dX11_buysOne_11 : decode cX11_buysOne 11 = .ok (.aload_n 0, 1) := by decide +kernel
theorem dX11_buysOne_12 : decode cX11_buysOne 12 = .ok (.getfield 66, 3) := by decide +kernel
theorem dX11_buysOne_15 : decode cX11_buysOne 15 = .ok (.lconst 1, 1) := by decide +kernel
theorem dX11_buysOne_16 : decode cX11_buysOne 16 = .ok (.lconst 1, 1) := by decide +kernel
theorem dX11_buysOne_17 : decode cX11_buysOne 17 = .ok (.invokevirtual 196, 3) := by decide +kernel
theorem dX11_buysOne_20 : decode cX11_buysOne 20 = .ok (.iconst 0, 1) := by decide +kernel
theorem dX11_buysOne_21 : decode cX11_buysOne 21 = .ok (.istore_n 2, 1) := by decide +kernel
theorem dX11_buysOne_22 : decode cX11_buysOne 22 = .ok (.iload_n 2, 1) := by decide +kernel
theorem dX11_buysOne_23 : decode cX11_buysOne 23 = .ok (.aload_n 0, 1) := by decide +kernel
theorem dX11_buysOne_24 : decode cX11_buysOne 24 = .ok (.getfield 10, 3) := by decide +kernel
theorem dX11_buysOne_27 : decode cX11_buysOne 27 = .ok (.getfield 129, 3) := by decide +kernel
theorem dX11_buysOne_30 : decode cX11_buysOne 30 = .ok (.if_icmp .ge 53, 3) := by decide +kernel
theorem dX11_buysOne_33 : decode cX11_buysOne 33 = .ok (.iload_n 2, 1) := by decide +kernel
theorem dX11_buysOne_34 : decode cX11_buysOne 34 = .ok (.bipush 8, 2) := by decide +kernel
theorem dX11_buysOne_36 : decode cX11_buysOne 36 = .ok (.if_icmp .ge 47, 3) := by decide +kernel
theorem dX11_buysOne_39 : decode cX11_buysOne 39 = .ok (.aload_n 0, 1) := by decide +kernel
theorem dX11_buysOne_40 : decode cX11_buysOne 40 = .ok (.getfield 52, 3) := by decide +kernel
theorem dX11_buysOne_43 : decode cX11_buysOne 43 = .ok (.aload_n 0, 1) := by decide +kernel
theorem dX11_buysOne_44 : decode cX11_buysOne 44 = .ok (.getfield 10, 3) := by decide +kernel
theorem dX11_buysOne_47 : decode cX11_buysOne 47 = .ok (.aload_n 0, 1) := by decide +kernel
theorem dX11_buysOne_48 : decode cX11_buysOne 48 = .ok (.getfield 10, 3) := by decide +kernel
theorem dX11_buysOne_51 : decode cX11_buysOne 51 = .ok (.getfield 118, 3) := by decide +kernel
theorem dX11_buysOne_54 : decode cX11_buysOne 54 = .ok (.iload_n 2, 1) := by decide +kernel
theorem dX11_buysOne_55 : decode cX11_buysOne 55 = .ok (.aaload, 1) := by decide +kernel
theorem dX11_buysOne_56 : decode cX11_buysOne 56 = .ok (.invokevirtual 199, 3) := by decide +kernel
theorem dX11_buysOne_59 : decode cX11_buysOne 59 = .ok (.istore_n 3, 1) := by decide +kernel
theorem dX11_buysOne_60 : decode cX11_buysOne 60 = .ok (.iload_n 3, 1) := by decide +kernel
theorem dX11_buysOne_61 : decode cX11_buysOne 61 = .ok (.ifCond .le 16, 3) := by decide +kernel
theorem dX11_buysOne_64 : decode cX11_buysOne 64 = .ok (.aload_n 0, 1) := by decide +kernel
theorem dX11_buysOne_65 : decode cX11_buysOne 65 = .ok (.getfield 66, 3) := by decide +kernel
theorem dX11_buysOne_68 : decode cX11_buysOne 68 = .ok (.iload_n 3, 1) := by decide +kernel
theorem dX11_buysOne_69 : decode cX11_buysOne 69 = .ok (.iconst 1, 1) := by decide +kernel
theorem dX11_buysOne_70 : decode cX11_buysOne 70 = .ok (.isub, 1) := by decide +kernel
theorem dX11_buysOne_71 : decode cX11_buysOne 71 = .ok (.i2l, 1) := by decide +kernel
theorem dX11_buysOne_72 : decode cX11_buysOne 72 = .ok (.iload_n 3, 1) := by decide +kernel
theorem dX11_buysOne_73 : decode cX11_buysOne 73 = .ok (.i2l, 1) := by decide +kernel
theorem dX11_buysOne_74 : decode cX11_buysOne 74 = .ok (.invokevirtual 209, 3) := by decide +kernel
theorem dX11_buysOne_77 : decode cX11_buysOne 77 = .ok (.iinc 2 1, 3) := by decide +kernel
theorem dX11_buysOne_80 : decode cX11_buysOne 80 = .ok (.goto (-58), 3) := by decide +kernel
theorem dX11_buysOne_83 : decode cX11_buysOne 83 = .ok (.aload_n 0, 1) := by decide +kernel
theorem dX11_buysOne_84 : decode cX11_buysOne 84 = .ok (.getfield 66, 3) := by decide +kernel
theorem dX11_buysOne_87 : decode cX11_buysOne 87 = .ok (.aload_n 0, 1) := by decide +kernel
theorem dX11_buysOne_88 : decode cX11_buysOne 88 = .ok (.getfield 66, 3) := by decide +kernel
theorem dX11_buysOne_91 : decode cX11_buysOne 91 = .ok (.getfield 212, 3) := by decide +kernel
theorem dX11_buysOne_94 : decode cX11_buysOne 94 = .ok (.aload_n 0, 1) := by decide +kernel
theorem dX11_buysOne_95 : decode cX11_buysOne 95 = .ok (.getfield 66, 3) := by decide +kernel
theorem dX11_buysOne_98 : decode cX11_buysOne 98 = .ok (.getfield 216, 3) := by decide +kernel
theorem dX11_buysOne_101 : decode cX11_buysOne 101 = .ok (.lsub, 1) := by decide +kernel
theorem dX11_buysOne_102 : decode cX11_buysOne 102 = .ok (.aload_n 0, 1) := by decide +kernel
theorem dX11_buysOne_103 : decode cX11_buysOne 103 = .ok (.getfield 66, 3) := by decide +kernel
theorem dX11_buysOne_106 : decode cX11_buysOne 106 = .ok (.getfield 212, 3) := by decide +kernel
theorem dX11_buysOne_109 : decode cX11_buysOne 109 = .ok (.invokevirtual 196, 3) := by decide +kernel
theorem dX11_buysOne_112 : decode cX11_buysOne 112 = .ok (.aload_n 0, 1) := by decide +kernel
theorem dX11_buysOne_113 : decode cX11_buysOne 113 = .ok (.getfield 66, 3) := by decide +kernel
theorem dX11_buysOne_116 : decode cX11_buysOne 116 = .ok (.iload_n 1, 1) := by decide +kernel
theorem dX11_buysOne_117 : decode cX11_buysOne 117 = .ok (.invokevirtual 205, 3) := by decide +kernel
theorem dX11_buysOne_120 : decode cX11_buysOne 120 = .ok (.lreturn, 1) := by decide +kernel
theorem dX11_hour_0 : decode cX11_hour 0 = .ok (.iload_n 1, 1) := by decide +kernel
theorem dX11_hour_1 : decode cX11_hour 1 = .ok (.invokestatic 126, 3) := by decide +kernel
theorem dX11_hour_4 : decode cX11_hour 4 = .ok (.ifCond .eq 10, 3) := by decide +kernel
theorem dX11_hour_7 : decode cX11_hour 7 = .ok (.iload_n 2, 1) := by decide +kernel
theorem dX11_hour_8 : decode cX11_hour 8 = .ok (.invokestatic 191, 3) := by decide +kernel
theorem dX11_hour_11 : decode cX11_hour 11 = .ok (.ifCond .ne 6, 3) := by decide +kernel
theorem dX11_hour_14 : decode cX11_hour 14 = .ok (.bipush (-2), 2) := by decide +kernel
theorem dX11_hour_16 : decode cX11_hour 16 = .ok (.ireturn, 1) := by decide +kernel
theorem dX11_hour_17 : decode cX11_hour 17 = .ok (.iload_n 2, 1) := by decide +kernel
theorem dX11_hour_18 : decode cX11_hour 18 = .ok (.ifCond .ne 18, 3) := by decide +kernel
theorem dX11_hour_21 : decode cX11_hour 21 = .ok (.aload_n 0, 1) := by decide +kernel
theorem dX11_hour_22 : decode cX11_hour 22 = .ok (.getfield 52, 3) := by decide +kernel
theorem dX11_hour_25 : decode cX11_hour 25 = .ok (.aload_n 0, 1) := by decide +kernel
theorem dX11_hour_26 : decode cX11_hour 26 = .ok (.getfield 10, 3) := by decide +kernel
theorem dX11_hour_29 : decode cX11_hour 29 = .ok (.iload_n 1, 1) := by decide +kernel
theorem dX11_hour_30 : decode cX11_hour 30 = .ok (.invokevirtual 219, 3) := by decide +kernel
theorem dX11_hour_33 : decode cX11_hour 33 = .ok (.goto 13, 3) := by decide +kernel
theorem dX11_hour_36 : decode cX11_hour 36 = .ok (.aload_n 0, 1) := by decide +kernel
theorem dX11_hour_37 : decode cX11_hour 37 = .ok (.getfield 10, 3) := by decide +kernel
theorem dX11_hour_40 : decode cX11_hour 40 = .ok (.iconst 1, 1) := by decide +kernel
theorem dX11_hour_41 : decode cX11_hour 41 = .ok (.iload_n 1, 1) := by decide +kernel
theorem dX11_hour_42 : decode cX11_hour 42 = .ok (.ishl, 1) := by decide +kernel
theorem dX11_hour_43 : decode cX11_hour 43 = .ok (.invokevirtual 188, 3) := by decide +kernel
theorem dX11_hour_46 : decode cX11_hour 46 = .ok (.ireturn, 1) := by decide +kernel
theorem dX11_crowdedHour_0 : decode cX11_crowdedHour 0 = .ok (.aload_n 0, 1) := by decide +kernel
theorem dX11_crowdedHour_1 : decode cX11_crowdedHour 1 = .ok (.getfield 59, 3) := by decide +kernel
theorem dX11_crowdedHour_4 : decode cX11_crowdedHour 4 = .ok (.iconst (-1), 1) := by decide +kernel
theorem dX11_crowdedHour_5 : decode cX11_crowdedHour 5 = .ok (.iconst 0, 1) := by decide +kernel
theorem dX11_crowdedHour_6 : decode cX11_crowdedHour 6 = .ok (.invokevirtual 223, 3) := by decide +kernel
theorem dX11_crowdedHour_9 : decode cX11_crowdedHour 9 = .ok (.iconst 0, 1) := by decide +kernel
theorem dX11_crowdedHour_10 : decode cX11_crowdedHour 10 = .ok (.istore_n 1, 1) := by decide +kernel
theorem dX11_crowdedHour_11 : decode cX11_crowdedHour 11 = .ok (.iload_n 1, 1) := by decide +kernel
theorem dX11_crowdedHour_12 : decode cX11_crowdedHour 12 = .ok (.bipush 10, 2) := by decide +kernel
theorem dX11_crowdedHour_14 : decode cX11_crowdedHour 14 = .ok (.if_icmp .ge 29, 3) := by decide +kernel
theorem dX11_crowdedHour_17 : decode cX11_crowdedHour 17 = .ok (.aload_n 0, 1) := by decide +kernel
theorem dX11_crowdedHour_18 : decode cX11_crowdedHour 18 = .ok (.getfield 59, 3) := by decide +kernel
theorem dX11_crowdedHour_21 : decode cX11_crowdedHour 21 = .ok (.iload_n 1, 1) := by decide +kernel
theorem dX11_crowdedHour_22 : decode cX11_crowdedHour 22 = .ok (.aload_n 0, 1) := by decide +kernel
theorem dX11_crowdedHour_23 : decode cX11_crowdedHour 23 = .ok (.getfield 52, 3) := by decide +kernel
theorem dX11_crowdedHour_26 : decode cX11_crowdedHour 26 = .ok (.aload_n 0, 1) := by decide +kernel
theorem dX11_crowdedHour_27 : decode cX11_crowdedHour 27 = .ok (.getfield 10, 3) := by decide +kernel
theorem dX11_crowdedHour_30 : decode cX11_crowdedHour 30 = .ok (.iload_n 1, 1) := by decide +kernel
theorem dX11_crowdedHour_31 : decode cX11_crowdedHour 31 = .ok (.invokevirtual 219, 3) := by decide +kernel
theorem dX11_crowdedHour_34 : decode cX11_crowdedHour 34 = .ok (.invokevirtual 226, 3) := by decide +kernel
theorem dX11_crowdedHour_37 : decode cX11_crowdedHour 37 = .ok (.iinc 1 1, 3) := by decide +kernel
theorem dX11_crowdedHour_40 : decode cX11_crowdedHour 40 = .ok (.goto (-29), 3) := by decide +kernel
theorem dX11_crowdedHour_43 : decode cX11_crowdedHour 43 = .ok (.aload_n 0, 1) := by decide +kernel
theorem dX11_crowdedHour_44 : decode cX11_crowdedHour 44 = .ok (.getfield 59, 3) := by decide +kernel
theorem dX11_crowdedHour_47 : decode cX11_crowdedHour 47 = .ok (.getfield 229, 3) := by decide +kernel
theorem dX11_crowdedHour_50 : decode cX11_crowdedHour 50 = .ok (.ireturn, 1) := by decide +kernel
theorem dX11_cubes_0 : decode cX11_cubes 0 = .ok (.iload_n 1, 1) := by decide +kernel
theorem dX11_cubes_1 : decode cX11_cubes 1 = .ok (.invokestatic 191, 3) := by decide +kernel
theorem dX11_cubes_4 : decode cX11_cubes 4 = .ok (.ifCond .eq 15, 3) := by decide +kernel
theorem dX11_cubes_7 : decode cX11_cubes 7 = .ok (.aload_n 0, 1) := by decide +kernel
theorem dX11_cubes_8 : decode cX11_cubes 8 = .ok (.iconst 0, 1) := by decide +kernel
theorem dX11_cubes_9 : decode cX11_cubes 9 = .ok (.iconst 1, 1) := by decide +kernel
theorem dX11_cubes_10 : decode cX11_cubes 10 = .ok (.bipush 40, 2) := by decide +kernel
theorem dX11_cubes_12 : decode cX11_cubes 12 = .ok (.iload_n 1, 1) := by decide +kernel
theorem dX11_cubes_13 : decode cX11_cubes 13 = .ok (.invokevirtual 232, 3) := by decide +kernel
theorem dX11_cubes_16 : decode cX11_cubes 16 = .ok (.goto 5, 3) := by decide +kernel
theorem dX11_cubes_19 : decode cX11_cubes 19 = .ok (.ldc 137, 2) := by decide +kernel
theorem dX11_cubes_21 : decode cX11_cubes 21 = .ok (.ireturn, 1) := by decide +kernel
theorem dX11_shelf_0 : decode cX11_shelf 0 = .ok (.iload_n 1, 1) := by decide +kernel
theorem dX11_shelf_1 : decode cX11_shelf 1 = .ok (.invokestatic 191, 3) := by decide +kernel
theorem dX11_shelf_4 : decode cX11_shelf 4 = .ok (.ifCond .eq 15, 3) := by decide +kernel
theorem dX11_shelf_7 : decode cX11_shelf 7 = .ok (.aload_n 0, 1) := by decide +kernel
theorem dX11_shelf_8 : decode cX11_shelf 8 = .ok (.iconst 1, 1) := by decide +kernel
theorem dX11_shelf_9 : decode cX11_shelf 9 = .ok (.iconst 1, 1) := by decide +kernel
theorem dX11_shelf_10 : decode cX11_shelf 10 = .ok (.bipush 6, 2) := by decide +kernel
theorem dX11_shelf_12 : decode cX11_shelf 12 = .ok (.iload_n 1, 1) := by decide +kernel
theorem dX11_shelf_13 : decode cX11_shelf 13 = .ok (.invokevirtual 232, 3) := by decide +kernel
theorem dX11_shelf_16 : decode cX11_shelf 16 = .ok (.goto 5, 3) := by decide +kernel
theorem dX11_shelf_19 : decode cX11_shelf 19 = .ok (.ldc 137, 2) := by decide +kernel
theorem dX11_shelf_21 : decode cX11_shelf 21 = .ok (.ireturn, 1) := by decide +kernel
theorem dX11_apron_0 : decode cX11_apron 0 = .ok (.iload_n 1, 1) := by decide +kernel
theorem dX11_apron_1 : decode cX11_apron 1 = .ok (.invokestatic 191, 3) := by decide +kernel
theorem dX11_apron_4 : decode cX11_apron 4 = .ok (.ifCond .eq 14, 3) := by decide +kernel
theorem dX11_apron_7 : decode cX11_apron 7 = .ok (.aload_n 0, 1) := by decide +kernel
theorem dX11_apron_8 : decode cX11_apron 8 = .ok (.iconst 2, 1) := by decide +kernel
theorem dX11_apron_9 : decode cX11_apron 9 = .ok (.iconst 0, 1) := by decide +kernel
theorem dX11_apron_10 : decode cX11_apron 10 = .ok (.iconst 1, 1) := by decide +kernel
theorem dX11_apron_11 : decode cX11_apron 11 = .ok (.iload_n 1, 1) := by decide +kernel
theorem dX11_apron_12 : decode cX11_apron 12 = .ok (.invokevirtual 232, 3) := by decide +kernel
theorem dX11_apron_15 : decode cX11_apron 15 = .ok (.goto 5, 3) := by decide +kernel
theorem dX11_apron_18 : decode cX11_apron 18 = .ok (.ldc 137, 2) := by decide +kernel
theorem dX11_apron_20 : decode cX11_apron 20 = .ok (.ireturn, 1) := by decide +kernel
theorem dX11_stand_0 : decode cX11_stand 0 = .ok (.iload_n 1, 1) := by decide +kernel
theorem dX11_stand_1 : decode cX11_stand 1 = .ok (.iconst 0, 1) := by decide +kernel
theorem dX11_stand_2 : decode cX11_stand 2 = .ok (.bipush 10, 2) := by decide +kernel
theorem dX11_stand_4 : decode cX11_stand 4 = .ok (.invokestatic 103, 3) := by decide +kernel
theorem dX11_stand_7 : decode cX11_stand 7 = .ok (.ifCond .eq 10, 3) := by decide +kernel
theorem dX11_stand_10 : decode cX11_stand 10 = .ok (.iload_n 2, 1) := by decide +kernel
theorem dX11_stand_11 : decode cX11_stand 11 = .ok (.invokestatic 191, 3) := by decide +kernel
theorem dX11_stand_14 : decode cX11_stand 14 = .ok (.ifCond .ne 6, 3) := by decide +kernel
theorem dX11_stand_17 : decode cX11_stand 17 = .ok (.ldc 137, 2) := by decide +kernel
theorem dX11_stand_19 : decode cX11_stand 19 = .ok (.ireturn, 1) := by decide +kernel
theorem dX11_stand_20 : decode cX11_stand 20 = .ok (.aload_n 0, 1) := by decide +kernel
theorem dX11_stand_21 : decode cX11_stand 21 = .ok (.getfield 16, 3) := by decide +kernel
theorem dX11_stand_24 : decode cX11_stand 24 = .ok (.aload_n 0, 1) := by decide +kernel
theorem dX11_stand_25 : decode cX11_stand 25 = .ok (.getfield 10, 3) := by decide +kernel
theorem dX11_stand_28 : decode cX11_stand 28 = .ok (.invokevirtual 236, 3) := by decide +kernel
theorem dX11_stand_31 : decode cX11_stand 31 = .ok (.aload_n 0, 1) := by decide +kernel
theorem dX11_stand_32 : decode cX11_stand 32 = .ok (.getfield 59, 3) := by decide +kernel
theorem dX11_stand_35 : decode cX11_stand 35 = .ok (.invokevirtual 240, 3) := by decide +kernel
theorem dX11_stand_38 : decode cX11_stand 38 = .ok (.iconst 0, 1) := by decide +kernel
theorem dX11_stand_39 : decode cX11_stand 39 = .ok (.istore_n 3, 1) := by decide +kernel
theorem dX11_stand_40 : decode cX11_stand 40 = .ok (.iload_n 3, 1) := by decide +kernel
theorem dX11_stand_41 : decode cX11_stand 41 = .ok (.bipush 10, 2) := by decide +kernel
theorem dX11_stand_43 : decode cX11_stand 43 = .ok (.iload_n 1, 1) := by decide +kernel
theorem dX11_stand_44 : decode cX11_stand 44 = .ok (.isub, 1) := by decide +kernel
theorem dX11_stand_45 : decode cX11_stand 45 = .ok (.if_icmp .gt 42, 3) := by decide +kernel
theorem dX11_stand_48 : decode cX11_stand 48 = .ok (.aload_n 0, 1) := by decide +kernel
theorem dX11_stand_49 : decode cX11_stand 49 = .ok (.getfield 16, 3) := by decide +kernel
theorem dX11_stand_52 : decode cX11_stand 52 = .ok (.iconst 1, 1) := by decide +kernel
theorem dX11_stand_53 : decode cX11_stand 53 = .ok (.iload_n 1, 1) := by decide +kernel
theorem dX11_stand_54 : decode cX11_stand 54 = .ok (.ishl, 1) := by decide +kernel
theorem dX11_stand_55 : decode cX11_stand 55 = .ok (.iconst 1, 1) := by decide +kernel
theorem dX11_stand_56 : decode cX11_stand 56 = .ok (.isub, 1) := by decide +kernel
theorem dX11_stand_57 : decode cX11_stand 57 = .ok (.iload_n 3, 1) := by decide +kernel
theorem dX11_stand_58 : decode cX11_stand 58 = .ok (.ishl, 1) := by decide +kernel
theorem dX11_stand_59 : decode cX11_stand 59 = .ok (.putfield 243, 3) := by decide +kernel
theorem dX11_stand_62 : decode cX11_stand 62 = .ok (.aload_n 0, 1) := by decide +kernel
theorem dX11_stand_63 : decode cX11_stand 63 = .ok (.getfield 59, 3) := by decide +kernel
theorem dX11_stand_66 : decode cX11_stand 66 = .ok (.iload_n 3, 1) := by decide +kernel
theorem dX11_stand_67 : decode cX11_stand 67 = .ok (.aload_n 0, 1) := by decide +kernel
theorem dX11_stand_68 : decode cX11_stand 68 = .ok (.getfield 52, 3) := by decide +kernel
theorem dX11_stand_71 : decode cX11_stand 71 = .ok (.aload_n 0, 1) := by decide +kernel
theorem dX11_stand_72 : decode cX11_stand 72 = .ok (.getfield 16, 3) := by decide +kernel
theorem dX11_stand_75 : decode cX11_stand 75 = .ok (.invokevirtual 172, 3) := by decide +kernel
theorem dX11_stand_78 : decode cX11_stand 78 = .ok (.invokevirtual 226, 3) := by decide +kernel
theorem dX11_stand_81 : decode cX11_stand 81 = .ok (.iinc 3 1, 3) := by decide +kernel
theorem dX11_stand_84 : decode cX11_stand 84 = .ok (.goto (-44), 3) := by decide +kernel
theorem dX11_stand_87 : decode cX11_stand 87 = .ok (.aload_n 0, 1) := by decide +kernel
theorem dX11_stand_88 : decode cX11_stand 88 = .ok (.getfield 59, 3) := by decide +kernel
theorem dX11_stand_91 : decode cX11_stand 91 = .ok (.iload_n 2, 1) := by decide +kernel
theorem dX11_stand_92 : decode cX11_stand 92 = .ok (.invokevirtual 246, 3) := by decide +kernel
theorem dX11_stand_95 : decode cX11_stand 95 = .ok (.ireturn, 1) := by decide +kernel
theorem dX11_setting_0 : decode cX11_setting 0 = .ok (.iload_n 1, 1) := by decide +kernel
theorem dX11_setting_1 : decode cX11_setting 1 = .ok (.invokestatic 191, 3) := by decide +kernel
theorem dX11_setting_4 : decode cX11_setting 4 = .ok (.ifCond .ne 6, 3) := by decide +kernel
theorem dX11_setting_7 : decode cX11_setting 7 = .ok (.ldc 137, 2) := by decide +kernel
theorem dX11_setting_9 : decode cX11_setting 9 = .ok (.ireturn, 1) := by decide +kernel
theorem dX11_setting_10 : decode cX11_setting 10 = .ok (.aload_n 0, 1) := by decide +kernel
theorem dX11_setting_11 : decode cX11_setting 11 = .ok (.getfield 16, 3) := by decide +kernel
theorem dX11_setting_14 : decode cX11_setting 14 = .ok (.aload_n 0, 1) := by decide +kernel
theorem dX11_setting_15 : decode cX11_setting 15 = .ok (.getfield 10, 3) := by decide +kernel
theorem dX11_setting_18 : decode cX11_setting 18 = .ok (.invokevirtual 236, 3) := by decide +kernel
theorem dX11_setting_21 : decode cX11_setting 21 = .ok (.aload_n 0, 1) := by decide +kernel
theorem dX11_setting_22 : decode cX11_setting 22 = .ok (.getfield 59, 3) := by decide +kernel
theorem dX11_setting_25 : decode cX11_setting 25 = .ok (.invokevirtual 240, 3) := by decide +kernel
theorem dX11_setting_28 : decode cX11_setting 28 = .ok (.iconst 1, 1) := by decide +kernel
theorem dX11_setting_29 : decode cX11_setting 29 = .ok (.istore_n 2, 1) := by decide +kernel
theorem dX11_setting_30 : decode cX11_setting 30 = .ok (.iload_n 2, 1) := by decide +kernel
theorem dX11_setting_31 : decode cX11_setting 31 = .ok (.bipush 40, 2) := by decide +kernel
theorem dX11_setting_33 : decode cX11_setting 33 = .ok (.if_icmp .gt 93, 3) := by decide +kernel
theorem dX11_setting_36 : decode cX11_setting 36 = .ok (.aload_n 0, 1) := by decide +kernel
theorem dX11_setting_37 : decode cX11_setting 37 = .ok (.getfield 16, 3) := by decide +kernel
theorem dX11_setting_40 : decode cX11_setting 40 = .ok (.iload_n 2, 1) := by decide +kernel
theorem dX11_setting_41 : decode cX11_setting 41 = .ok (.putfield 249, 3) := by decide +kernel
theorem dX11_setting_44 : decode cX11_setting 44 = .ok (.iconst 1, 1) := by decide +kernel
theorem dX11_setting_45 : decode cX11_setting 45 = .ok (.istore_n 3, 1) := by decide +kernel
theorem dX11_setting_46 : decode cX11_setting 46 = .ok (.iload_n 3, 1) := by decide +kernel
theorem dX11_setting_47 : decode cX11_setting 47 = .ok (.bipush 6, 2) := by decide +kernel
theorem dX11_setting_49 : decode cX11_setting 49 = .ok (.if_icmp .gt 71, 3) := by decide +kernel
theorem dX11_setting_52 : decode cX11_setting 52 = .ok (.aload_n 0, 1) := by decide +kernel
theorem dX11_setting_53 : decode cX11_setting 53 = .ok (.getfield 16, 3) := by decide +kernel
theorem dX11_setting_56 : decode cX11_setting 56 = .ok (.iload_n 3, 1) := by decide +kernel
theorem dX11_setting_57 : decode cX11_setting 57 = .ok (.putfield 252, 3) := by decide +kernel
theorem dX11_setting_60 : decode cX11_setting 60 = .ok (.iconst 0, 1) := by decide +kernel
theorem dX11_setting_61 : decode cX11_setting 61 = .ok (.istore 4, 2) := by decide +kernel
theorem dX11_setting_63 : decode cX11_setting 63 = .ok (.iload 4, 2) := by decide +kernel
theorem dX11_setting_65 : decode cX11_setting 65 = .ok (.iconst 1, 1) := by decide +kernel
theorem dX11_setting_66 : decode cX11_setting 66 = .ok (.if_icmp .gt 48, 3) := by decide +kernel
theorem dX11_setting_69 : decode cX11_setting 69 = .ok (.aload_n 0, 1) := by decide +kernel
theorem dX11_setting_70 : decode cX11_setting 70 = .ok (.getfield 16, 3) := by decide +kernel
theorem dX11_setting_73 : decode cX11_setting 73 = .ok (.iload 4, 2) := by decide +kernel
theorem dX11_setting_75 : decode cX11_setting 75 = .ok (.putfield 255, 3) := by decide +kernel
theorem dX11_setting_78 : decode cX11_setting 78 = .ok (.aload_n 0, 1) := by decide +kernel
theorem dX11_setting_79 : decode cX11_setting 79 = .ok (.getfield 59, 3) := by decide +kernel
theorem dX11_setting_82 : decode cX11_setting 82 = .ok (.bipush 100, 2) := by decide +kernel
theorem dX11_setting_84 : decode cX11_setting 84 = .ok (.iload_n 2, 1) := by decide +kernel
theorem dX11_setting_85 : decode cX11_setting 85 = .ok (.imul, 1) := by decide +kernel
theorem dX11_setting_86 : decode cX11_setting 86 = .ok (.bipush 10, 2) := by decide +kernel
theorem dX11_setting_88 : decode cX11_setting 88 = .ok (.iload_n 3, 1) := by decide +kernel
theorem dX11_setting_89 : decode cX11_setting 89 = .ok (.imul, 1) := by decide +kernel
theorem dX11_setting_90 : decode cX11_setting 90 = .ok (.iadd, 1) := by decide +kernel
theorem dX11_setting_91 : decode cX11_setting 91 = .ok (.iload 4, 2) := by decide +kernel
theorem dX11_setting_93 : decode cX11_setting 93 = .ok (.iadd, 1) := by decide +kernel
theorem dX11_setting_94 : decode cX11_setting 94 = .ok (.aload_n 0, 1) := by decide +kernel
theorem dX11_setting_95 : decode cX11_setting 95 = .ok (.getfield 52, 3) := by decide +kernel
theorem dX11_setting_98 : decode cX11_setting 98 = .ok (.aload_n 0, 1) := by decide +kernel
theorem dX11_setting_99 : decode cX11_setting 99 = .ok (.getfield 16, 3) := by decide +kernel
theorem dX11_setting_102 : decode cX11_setting 102 = .ok (.invokevirtual 172, 3) := by decide +kernel
theorem dX11_setting_105 : decode cX11_setting 105 = .ok (.invokevirtual 226, 3) := by decide +kernel
theorem dX11_setting_108 : decode cX11_setting 108 = .ok (.iinc 4 1, 3) := by decide +kernel
theorem dX11_setting_111 : decode cX11_setting 111 = .ok (.goto (-48), 3) := by decide +kernel
theorem dX11_setting_114 : decode cX11_setting 114 = .ok (.iinc 3 1, 3) := by decide +kernel
theorem dX11_setting_117 : decode cX11_setting 117 = .ok (.goto (-71), 3) := by decide +kernel
theorem dX11_setting_120 : decode cX11_setting 120 = .ok (.iinc 2 1, 3) := by decide +kernel
theorem dX11_setting_123 : decode cX11_setting 123 = .ok (.goto (-93), 3) := by decide +kernel
theorem dX11_setting_126 : decode cX11_setting 126 = .ok (.aload_n 0, 1) := by decide +kernel
theorem dX11_setting_127 : decode cX11_setting 127 = .ok (.getfield 59, 3) := by decide +kernel
theorem dX11_setting_130 : decode cX11_setting 130 = .ok (.iload_n 1, 1) := by decide +kernel
theorem dX11_setting_131 : decode cX11_setting 131 = .ok (.invokevirtual 246, 3) := by decide +kernel
theorem dX11_setting_134 : decode cX11_setting 134 = .ok (.ireturn, 1) := by decide +kernel
theorem dX11_sendAway_0 : decode cX11_sendAway 0 = .ok (.iload_n 1, 1) := by decide +kernel
theorem dX11_sendAway_1 : decode cX11_sendAway 1 = .ok (.invokestatic 191, 3) := by decide +kernel
theorem dX11_sendAway_4 : decode cX11_sendAway 4 = .ok (.ifCond .ne 6, 3) := by decide +kernel
theorem dX11_sendAway_7 : decode cX11_sendAway 7 = .ok (.ldc 137, 2) := by decide +kernel
theorem dX11_sendAway_9 : decode cX11_sendAway 9 = .ok (.ireturn, 1) := by decide +kernel
theorem dX11_sendAway_10 : decode cX11_sendAway 10 = .ok (.aload_n 0, 1) := by decide +kernel
theorem dX11_sendAway_11 : decode cX11_sendAway 11 = .ok (.getfield 52, 3) := by decide +kernel
theorem dX11_sendAway_14 : decode cX11_sendAway 14 = .ok (.aload_n 0, 1) := by decide +kernel
theorem dX11_sendAway_15 : decode cX11_sendAway 15 = .ok (.getfield 10, 3) := by decide +kernel
theorem dX11_sendAway_18 : decode cX11_sendAway 18 = .ok (.invokevirtual 172, 3) := by decide +kernel
theorem dX11_sendAway_21 : decode cX11_sendAway 21 = .ok (.istore_n 2, 1) := by decide +kernel
theorem dX11_sendAway_22 : decode cX11_sendAway 22 = .ok (.aload_n 0, 1) := by decide +kernel
theorem dX11_sendAway_23 : decode cX11_sendAway 23 = .ok (.getfield 59, 3) := by decide +kernel
theorem dX11_sendAway_26 : decode cX11_sendAway 26 = .ok (.iconst (-1), 1) := by decide +kernel
theorem dX11_sendAway_27 : decode cX11_sendAway 27 = .ok (.iload_n 2, 1) := by decide +kernel
theorem dX11_sendAway_28 : decode cX11_sendAway 28 = .ok (.invokevirtual 223, 3) := by decide +kernel
theorem dX11_sendAway_31 : decode cX11_sendAway 31 = .ok (.iconst 0, 1) := by decide +kernel
theorem dX11_sendAway_32 : decode cX11_sendAway 32 = .ok (.istore_n 3, 1) := by decide +kernel
theorem dX11_sendAway_33 : decode cX11_sendAway 33 = .ok (.iload_n 3, 1) := by decide +kernel
theorem dX11_sendAway_34 : decode cX11_sendAway 34 = .ok (.aload_n 0, 1) := by decide +kernel
theorem dX11_sendAway_35 : decode cX11_sendAway 35 = .ok (.getfield 10, 3) := by decide +kernel
theorem dX11_sendAway_38 : decode cX11_sendAway 38 = .ok (.getfield 129, 3) := by decide +kernel
theorem dX11_sendAway_41 : decode cX11_sendAway 41 = .ok (.if_icmp .ge 45, 3) := by decide +kernel
theorem dX11_sendAway_44 : decode cX11_sendAway 44 = .ok (.iload_n 3, 1) := by decide +kernel
theorem dX11_sendAway_45 : decode cX11_sendAway 45 = .ok (.bipush 8, 2) := by decide +kernel
theorem dX11_sendAway_47 : decode cX11_sendAway 47 = .ok (.if_icmp .ge 39, 3) := by decide +kernel
theorem dX11_sendAway_50 : decode cX11_sendAway 50 = .ok (.aload_n 0, 1) := by decide +kernel
theorem dX11_sendAway_51 : decode cX11_sendAway 51 = .ok (.getfield 59, 3) := by decide +kernel
theorem dX11_sendAway_54 : decode cX11_sendAway 54 = .ok (.iload_n 3, 1) := by decide +kernel
theorem dX11_sendAway_55 : decode cX11_sendAway 55 = .ok (.iload_n 2, 1) := by decide +kernel
theorem dX11_sendAway_56 : decode cX11_sendAway 56 = .ok (.aload_n 0, 1) := by decide +kernel
theorem dX11_sendAway_57 : decode cX11_sendAway 57 = .ok (.getfield 52, 3) := by decide +kernel
theorem dX11_sendAway_60 : decode cX11_sendAway 60 = .ok (.aload_n 0, 1) := by decide +kernel
theorem dX11_sendAway_61 : decode cX11_sendAway 61 = .ok (.getfield 10, 3) := by decide +kernel
theorem dX11_sendAway_64 : decode cX11_sendAway 64 = .ok (.aload_n 0, 1) := by decide +kernel
theorem dX11_sendAway_65 : decode cX11_sendAway 65 = .ok (.getfield 10, 3) := by decide +kernel
theorem dX11_sendAway_68 : decode cX11_sendAway 68 = .ok (.getfield 118, 3) := by decide +kernel
theorem dX11_sendAway_71 : decode cX11_sendAway 71 = .ok (.iload_n 3, 1) := by decide +kernel
theorem dX11_sendAway_72 : decode cX11_sendAway 72 = .ok (.aaload, 1) := by decide +kernel
theorem dX11_sendAway_73 : decode cX11_sendAway 73 = .ok (.invokevirtual 155, 3) := by decide +kernel
theorem dX11_sendAway_76 : decode cX11_sendAway 76 = .ok (.isub, 1) := by decide +kernel
theorem dX11_sendAway_77 : decode cX11_sendAway 77 = .ok (.invokevirtual 226, 3) := by decide +kernel
theorem dX11_sendAway_80 : decode cX11_sendAway 80 = .ok (.iinc 3 1, 3) := by decide +kernel
theorem dX11_sendAway_83 : decode cX11_sendAway 83 = .ok (.goto (-50), 3) := by decide +kernel
theorem dX11_sendAway_86 : decode cX11_sendAway 86 = .ok (.aload_n 0, 1) := by decide +kernel
theorem dX11_sendAway_87 : decode cX11_sendAway 87 = .ok (.getfield 59, 3) := by decide +kernel
theorem dX11_sendAway_90 : decode cX11_sendAway 90 = .ok (.iload_n 1, 1) := by decide +kernel
theorem dX11_sendAway_91 : decode cX11_sendAway 91 = .ok (.invokevirtual 246, 3) := by decide +kernel
theorem dX11_sendAway_94 : decode cX11_sendAway 94 = .ok (.ireturn, 1) := by decide +kernel
theorem dX11_lost_0 : decode cX11_lost 0 = .ok (.aload_n 0, 1) := by decide +kernel
theorem dX11_lost_1 : decode cX11_lost 1 = .ok (.getfield 10, 3) := by decide +kernel
theorem dX11_lost_4 : decode cX11_lost 4 = .ok (.iload_n 1, 1) := by decide +kernel
theorem dX11_lost_5 : decode cX11_lost 5 = .ok (.invokevirtual 115, 3) := by decide +kernel
theorem dX11_lost_8 : decode cX11_lost 8 = .ok (.ifCond .ne 6, 3) := by decide +kernel
theorem dX11_lost_11 : decode cX11_lost 11 = .ok (.bipush (-2), 2) := by decide +kernel
theorem dX11_lost_13 : decode cX11_lost 13 = .ok (.ireturn, 1) := by decide +kernel
theorem dX11_lost_14 : decode cX11_lost 14 = .ok (.aload_n 0, 1) := by decide +kernel
theorem dX11_lost_15 : decode cX11_lost 15 = .ok (.getfield 16, 3) := by decide +kernel
theorem dX11_lost_18 : decode cX11_lost 18 = .ok (.aload_n 0, 1) := by decide +kernel
theorem dX11_lost_19 : decode cX11_lost 19 = .ok (.getfield 10, 3) := by decide +kernel
theorem dX11_lost_22 : decode cX11_lost 22 = .ok (.invokevirtual 236, 3) := by decide +kernel
theorem dX11_lost_25 : decode cX11_lost 25 = .ok (.iconst (-1), 1) := by decide +kernel
theorem dX11_lost_26 : decode cX11_lost 26 = .ok (.istore_n 2, 1) := by decide +kernel
theorem dX11_lost_27 : decode cX11_lost 27 = .ok (.bipush 40, 2) := by decide +kernel
theorem dX11_lost_29 : decode cX11_lost 29 = .ok (.istore_n 3, 1) := by decide +kernel
theorem dX11_lost_30 : decode cX11_lost 30 = .ok (.iload_n 3, 1) := by decide +kernel
theorem dX11_lost_31 : decode cX11_lost 31 = .ok (.iconst 1, 1) := by decide +kernel
theorem dX11_lost_32 : decode cX11_lost 32 = .ok (.if_icmp .lt 44, 3) := by decide +kernel
theorem dX11_lost_35 : decode cX11_lost 35 = .ok (.aload_n 0, 1) := by decide +kernel
theorem dX11_lost_36 : decode cX11_lost 36 = .ok (.getfield 16, 3) := by decide +kernel
theorem dX11_lost_39 : decode cX11_lost 39 = .ok (.iload_n 3, 1) := by decide +kernel
theorem dX11_lost_40 : decode cX11_lost 40 = .ok (.putfield 249, 3) := by decide +kernel
theorem dX11_lost_43 : decode cX11_lost 43 = .ok (.aload_n 0, 1) := by decide +kernel
theorem dX11_lost_44 : decode cX11_lost 44 = .ok (.getfield 52, 3) := by decide +kernel
theorem dX11_lost_47 : decode cX11_lost 47 = .ok (.aload_n 0, 1) := by decide +kernel
theorem dX11_lost_48 : decode cX11_lost 48 = .ok (.getfield 16, 3) := by decide +kernel
theorem dX11_lost_51 : decode cX11_lost 51 = .ok (.aload_n 0, 1) := by decide +kernel
theorem dX11_lost_52 : decode cX11_lost 52 = .ok (.getfield 16, 3) := by decide +kernel
theorem dX11_lost_55 : decode cX11_lost 55 = .ok (.getfield 118, 3) := by decide +kernel
theorem dX11_lost_58 : decode cX11_lost 58 = .ok (.iload_n 1, 1) := by decide +kernel
theorem dX11_lost_59 : decode cX11_lost 59 = .ok (.aaload, 1) := by decide +kernel
theorem dX11_lost_60 : decode cX11_lost 60 = .ok (.invokevirtual 155, 3) := by decide +kernel
theorem dX11_lost_63 : decode cX11_lost 63 = .ok (.ifCond .lt 5, 3) := by decide +kernel
theorem dX11_lost_66 : decode cX11_lost 66 = .ok (.iload_n 2, 1) := by decide +kernel
theorem dX11_lost_67 : decode cX11_lost 67 = .ok (.ireturn, 1) := by decide +kernel
theorem dX11_lost_68 : decode cX11_lost 68 = .ok (.iload_n 3, 1) := by decide +kernel
theorem dX11_lost_69 : decode cX11_lost 69 = .ok (.istore_n 2, 1) := by decide +kernel
theorem dX11_lost_70 : decode cX11_lost 70 = .ok (.iinc 3 (-1), 3) := by decide +kernel
theorem dX11_lost_73 : decode cX11_lost 73 = .ok (.goto (-43), 3) := by decide +kernel
theorem dX11_lost_76 : decode cX11_lost 76 = .ok (.iload_n 2, 1) := by decide +kernel
theorem dX11_lost_77 : decode cX11_lost 77 = .ok (.ireturn, 1) := by decide +kernel
theorem dX11_bestOf_0 : decode cX11_bestOf 0 = .ok (.aload_n 0, 1) := by decide +kernel
theorem dX11_bestOf_1 : decode cX11_bestOf 1 = .ok (.getfield 16, 3) := by decide +kernel
theorem dX11_bestOf_4 : decode cX11_bestOf 4 = .ok (.aload_n 0, 1) := by decide +kernel
theorem dX11_bestOf_5 : decode cX11_bestOf 5 = .ok (.getfield 10, 3) := by decide +kernel
theorem dX11_bestOf_8 : decode cX11_bestOf 8 = .ok (.invokevirtual 236, 3) := by decide +kernel
theorem dX11_bestOf_11 : decode cX11_bestOf 11 = .ok (.aload_n 0, 1) := by decide +kernel
theorem dX11_bestOf_12 : decode cX11_bestOf 12 = .ok (.getfield 59, 3) := by decide +kernel
theorem dX11_bestOf_15 : decode cX11_bestOf 15 = .ok (.invokevirtual 240, 3) := by decide +kernel
theorem dX11_bestOf_18 : decode cX11_bestOf 18 = .ok (.iload_n 2, 1) := by decide +kernel
theorem dX11_bestOf_19 : decode cX11_bestOf 19 = .ok (.istore 5, 2) := by decide +kernel
theorem dX11_bestOf_21 : decode cX11_bestOf 21 = .ok (.iload 5, 2) := by decide +kernel
theorem dX11_bestOf_23 : decode cX11_bestOf 23 = .ok (.iload_n 3, 1) := by decide +kernel
theorem dX11_bestOf_24 : decode cX11_bestOf 24 = .ok (.if_icmp .gt 39, 3) := by decide +kernel
theorem dX11_bestOf_27 : decode cX11_bestOf 27 = .ok (.aload_n 0, 1) := by decide +kernel
theorem dX11_bestOf_28 : decode cX11_bestOf 28 = .ok (.getfield 16, 3) := by decide +kernel
theorem dX11_bestOf_31 : decode cX11_bestOf 31 = .ok (.iload_n 1, 1) := by decide +kernel
theorem dX11_bestOf_32 : decode cX11_bestOf 32 = .ok (.iload 5, 2) := by decide +kernel
theorem dX11_bestOf_34 : decode cX11_bestOf 34 = .ok (.invokevirtual 111, 3) := by decide +kernel
theorem dX11_bestOf_37 : decode cX11_bestOf 37 = .ok (.aload_n 0, 1) := by decide +kernel
theorem dX11_bestOf_38 : decode cX11_bestOf 38 = .ok (.getfield 59, 3) := by decide +kernel
theorem dX11_bestOf_41 : decode cX11_bestOf 41 = .ok (.iload 5, 2) := by decide +kernel
theorem dX11_bestOf_43 : decode cX11_bestOf 43 = .ok (.aload_n 0, 1) := by decide +kernel
theorem dX11_bestOf_44 : decode cX11_bestOf 44 = .ok (.getfield 52, 3) := by decide +kernel
theorem dX11_bestOf_47 : decode cX11_bestOf 47 = .ok (.aload_n 0, 1) := by decide +kernel
theorem dX11_bestOf_48 : decode cX11_bestOf 48 = .ok (.getfield 16, 3) := by decide +kernel
theorem dX11_bestOf_51 : decode cX11_bestOf 51 = .ok (.invokevirtual 172, 3) := by decide +kernel
theorem dX11_bestOf_54 : decode cX11_bestOf 54 = .ok (.invokevirtual 226, 3) := by decide +kernel
theorem dX11_bestOf_57 : decode cX11_bestOf 57 = .ok (.iinc 5 1, 3) := by decide +kernel
theorem dX11_bestOf_60 : decode cX11_bestOf 60 = .ok (.goto (-39), 3) := by decide +kernel
theorem dX11_bestOf_63 : decode cX11_bestOf 63 = .ok (.aload_n 0, 1) := by decide +kernel
theorem dX11_bestOf_64 : decode cX11_bestOf 64 = .ok (.getfield 59, 3) := by decide +kernel
theorem dX11_bestOf_67 : decode cX11_bestOf 67 = .ok (.iload 4, 2) := by decide +kernel
theorem dX11_bestOf_69 : decode cX11_bestOf 69 = .ok (.invokevirtual 246, 3) := by decide +kernel
theorem dX11_bestOf_72 : decode cX11_bestOf 72 = .ok (.ireturn, 1) := by decide +kernel
theorem dX11_tells_0 : decode cX11_tells 0 = .ok (.iload_n 1, 1) := by decide +kernel
theorem dX11_tells_1 : decode cX11_tells 1 = .ok (.invokestatic 258, 3) := by decide +kernel
theorem dX11_tells_4 : decode cX11_tells 4 = .ok (.ifCond .eq 24, 3) := by decide +kernel
theorem dX11_tells_7 : decode cX11_tells 7 = .ok (.aload_n 0, 1) := by decide +kernel
theorem dX11_tells_8 : decode cX11_tells 8 = .ok (.getfield 10, 3) := by decide +kernel
theorem dX11_tells_11 : decode cX11_tells 11 = .ok (.iload_n 2, 1) := by decide +kernel
theorem dX11_tells_12 : decode cX11_tells 12 = .ok (.invokevirtual 115, 3) := by decide +kernel
theorem dX11_tells_15 : decode cX11_tells 15 = .ok (.ifCond .eq 13, 3) := by decide +kernel
theorem dX11_tells_18 : decode cX11_tells 18 = .ok (.iload_n 3, 1) := by decide +kernel
theorem dX11_tells_19 : decode cX11_tells 19 = .ok (.iconst 0, 1) := by decide +kernel
theorem dX11_tells_20 : decode cX11_tells 20 = .ok (.bipush 7, 2) := by decide +kernel
theorem dX11_tells_22 : decode cX11_tells 22 = .ok (.invokestatic 103, 3) := by decide +kernel
theorem dX11_tells_25 : decode cX11_tells 25 = .ok (.ifCond .ne 6, 3) := by decide +kernel
theorem dX11_tells_28 : decode cX11_tells 28 = .ok (.bipush (-2), 2) := by decide +kernel
theorem dX11_tells_30 : decode cX11_tells 30 = .ok (.ireturn, 1) := by decide +kernel
theorem dX11_tells_31 : decode cX11_tells 31 = .ok (.aload_n 0, 1) := by decide +kernel
theorem dX11_tells_32 : decode cX11_tells 32 = .ok (.getfield 72, 3) := by decide +kernel
theorem dX11_tells_35 : decode cX11_tells 35 = .ok (.iload_n 1, 1) := by decide +kernel
theorem dX11_tells_36 : decode cX11_tells 36 = .ok (.aaload, 1) := by decide +kernel
theorem dX11_tells_37 : decode cX11_tells 37 = .ok (.astore 4, 2) := by decide +kernel
theorem dX11_tells_39 : decode cX11_tells 39 = .ok (.aload 4, 2) := by decide +kernel
theorem dX11_tells_41 : decode cX11_tells 41 = .ok (.invokevirtual 261, 3) := by decide +kernel
theorem dX11_tells_44 : decode cX11_tells 44 = .ok (.ifCond .eq 6, 3) := by decide +kernel
theorem dX11_tells_47 : decode cX11_tells 47 = .ok (.bipush (-11), 2) := by decide +kernel
theorem dX11_tells_49 : decode cX11_tells 49 = .ok (.ireturn, 1) := by decide +kernel
theorem dX11_tells_50 : decode cX11_tells 50 = .ok (.aload_n 0, 1) := by decide +kernel
theorem dX11_tells_51 : decode cX11_tells 51 = .ok (.getfield 16, 3) := by decide +kernel
theorem dX11_tells_54 : decode cX11_tells 54 = .ok (.aload_n 0, 1) := by decide +kernel
theorem dX11_tells_55 : decode cX11_tells 55 = .ok (.getfield 10, 3) := by decide +kernel
theorem dX11_tells_58 : decode cX11_tells 58 = .ok (.invokevirtual 236, 3) := by decide +kernel
theorem dX11_tells_61 : decode cX11_tells 61 = .ok (.aload_n 0, 1) := by decide +kernel
theorem dX11_tells_62 : decode cX11_tells 62 = .ok (.getfield 16, 3) := by decide +kernel
theorem dX11_tells_65 : decode cX11_tells 65 = .ok (.getfield 118, 3) := by decide +kernel
theorem dX11_tells_68 : decode cX11_tells 68 = .ok (.iload_n 2, 1) := by decide +kernel
theorem dX11_tells_69 : decode cX11_tells 69 = .ok (.aaload, 1) := by decide +kernel
theorem dX11_tells_70 : decode cX11_tells 70 = .ok (.astore 5, 2) := by decide +kernel
theorem dX11_tells_72 : decode cX11_tells 72 = .ok (.iload_n 3, 1) := by decide +kernel
theorem dX11_tells_73 : decode cX11_tells 73 = .ok (.ifCond .ne 14, 3) := by decide +kernel
theorem dX11_tells_76 : decode cX11_tells 76 = .ok (.aload_n 0, 1) := by decide +kernel
theorem dX11_tells_77 : decode cX11_tells 77 = .ok (.aload 4, 2) := by decide +kernel
theorem dX11_tells_79 : decode cX11_tells 79 = .ok (.aload 5, 2) := by decide +kernel
theorem dX11_tells_81 : decode cX11_tells 81 = .ok (.invokevirtual 265, 3) := by decide +kernel
theorem dX11_tells_84 : decode cX11_tells 84 = .ok (.goto 12, 3) := by decide +kernel
theorem dX11_tells_87 : decode cX11_tells 87 = .ok (.aload_n 0, 1) := by decide +kernel
theorem dX11_tells_88 : decode cX11_tells 88 = .ok (.aload 4, 2) := by decide +kernel
theorem dX11_tells_90 : decode cX11_tells 90 = .ok (.aload 5, 2) := by decide +kernel
theorem dX11_tells_92 : decode cX11_tells 92 = .ok (.iload_n 3, 1) := by decide +kernel
theorem dX11_tells_93 : decode cX11_tells 93 = .ok (.invokevirtual 269, 3) := by decide +kernel
theorem dX11_tells_96 : decode cX11_tells 96 = .ok (.ireturn, 1) := by decide +kernel
theorem dX11_film_0 : decode cX11_film 0 = .ok (.iload_n 1, 1) := by decide +kernel
theorem dX11_film_1 : decode cX11_film 1 = .ok (.invokestatic 258, 3) := by decide +kernel
theorem dX11_film_4 : decode cX11_film 4 = .ok (.ifCond .eq 24, 3) := by decide +kernel
theorem dX11_film_7 : decode cX11_film 7 = .ok (.aload_n 0, 1) := by decide +kernel
theorem dX11_film_8 : decode cX11_film 8 = .ok (.getfield 10, 3) := by decide +kernel
theorem dX11_film_11 : decode cX11_film 11 = .ok (.iload_n 2, 1) := by decide +kernel
theorem dX11_film_12 : decode cX11_film 12 = .ok (.invokevirtual 115, 3) := by decide +kernel
theorem dX11_film_15 : decode cX11_film 15 = .ok (.ifCond .eq 13, 3) := by decide +kernel
theorem dX11_film_18 : decode cX11_film 18 = .ok (.iload_n 3, 1) := by decide +kernel
theorem dX11_film_19 : decode cX11_film 19 = .ok (.iconst 0, 1) := by decide +kernel
theorem dX11_film_20 : decode cX11_film 20 = .ok (.bipush 40, 2) := by decide +kernel
theorem dX11_film_22 : decode cX11_film 22 = .ok (.invokestatic 103, 3) := by decide +kernel
theorem dX11_film_25 : decode cX11_film 25 = .ok (.ifCond .ne 6, 3) := by decide +kernel
theorem dX11_film_28 : decode cX11_film 28 = .ok (.bipush (-2), 2) := by decide +kernel
theorem dX11_film_30 : decode cX11_film 30 = .ok (.ireturn, 1) := by decide +kernel
theorem dX11_film_31 : decode cX11_film 31 = .ok (.aload_n 0, 1) := by decide +kernel
theorem dX11_film_32 : decode cX11_film 32 = .ok (.getfield 16, 3) := by decide +kernel
theorem dX11_film_35 : decode cX11_film 35 = .ok (.aload_n 0, 1) := by decide +kernel
theorem dX11_film_36 : decode cX11_film 36 = .ok (.getfield 10, 3) := by decide +kernel
theorem dX11_film_39 : decode cX11_film 39 = .ok (.invokevirtual 236, 3) := by decide +kernel
theorem dX11_film_42 : decode cX11_film 42 = .ok (.aload_n 0, 1) := by decide +kernel
theorem dX11_film_43 : decode cX11_film 43 = .ok (.getfield 72, 3) := by decide +kernel
theorem dX11_film_46 : decode cX11_film 46 = .ok (.iload_n 1, 1) := by decide +kernel
theorem dX11_film_47 : decode cX11_film 47 = .ok (.aaload, 1) := by decide +kernel
theorem dX11_film_48 : decode cX11_film 48 = .ok (.iconst 0, 1) := by decide +kernel
theorem dX11_film_49 : decode cX11_film 49 = .ok (.iload_n 3, 1) := by decide +kernel
theorem dX11_film_50 : decode cX11_film 50 = .ok (.invokevirtual 273, 3) := by decide +kernel
theorem dX11_film_53 : decode cX11_film 53 = .ok (.iconst 0, 1) := by decide +kernel
theorem dX11_film_54 : decode cX11_film 54 = .ok (.istore 4, 2) := by decide +kernel
theorem dX11_film_56 : decode cX11_film 56 = .ok (.iload 4, 2) := by decide +kernel
theorem dX11_film_58 : decode cX11_film 58 = .ok (.iload_n 3, 1) := by decide +kernel
theorem dX11_film_59 : decode cX11_film 59 = .ok (.if_icmp .ge 51, 3) := by decide +kernel
theorem dX11_film_62 : decode cX11_film 62 = .ok (.aload_n 0, 1) := by decide +kernel
theorem dX11_film_63 : decode cX11_film 63 = .ok (.getfield 16, 3) := by decide +kernel
theorem dX11_film_66 : decode cX11_film 66 = .ok (.iload 4, 2) := by decide +kernel
theorem dX11_film_68 : decode cX11_film 68 = .ok (.iconst 1, 1) := by decide +kernel
theorem dX11_film_69 : decode cX11_film 69 = .ok (.iadd, 1) := by decide +kernel
theorem dX11_film_70 : decode cX11_film 70 = .ok (.putfield 249, 3) := by decide +kernel
theorem dX11_film_73 : decode cX11_film 73 = .ok (.aload_n 0, 1) := by decide +kernel
theorem dX11_film_74 : decode cX11_film 74 = .ok (.getfield 72, 3) := by decide +kernel
theorem dX11_film_77 : decode cX11_film 77 = .ok (.iload_n 1, 1) := by decide +kernel
theorem dX11_film_78 : decode cX11_film 78 = .ok (.aaload, 1) := by decide +kernel
theorem dX11_film_79 : decode cX11_film 79 = .ok (.iload 4, 2) := by decide +kernel
theorem dX11_film_81 : decode cX11_film 81 = .ok (.aload_n 0, 1) := by decide +kernel
theorem dX11_film_82 : decode cX11_film 82 = .ok (.getfield 52, 3) := by decide +kernel
theorem dX11_film_85 : decode cX11_film 85 = .ok (.aload_n 0, 1) := by decide +kernel
theorem dX11_film_86 : decode cX11_film 86 = .ok (.getfield 16, 3) := by decide +kernel
theorem dX11_film_89 : decode cX11_film 89 = .ok (.aload_n 0, 1) := by decide +kernel
theorem dX11_film_90 : decode cX11_film 90 = .ok (.getfield 16, 3) := by decide +kernel
theorem dX11_film_93 : decode cX11_film 93 = .ok (.getfield 118, 3) := by decide +kernel
theorem dX11_film_96 : decode cX11_film 96 = .ok (.iload_n 2, 1) := by decide +kernel
theorem dX11_film_97 : decode cX11_film 97 = .ok (.aaload, 1) := by decide +kernel
theorem dX11_film_98 : decode cX11_film 98 = .ok (.invokevirtual 138, 3) := by decide +kernel
theorem dX11_film_101 : decode cX11_film 101 = .ok (.invokevirtual 275, 3) := by decide +kernel
theorem dX11_film_104 : decode cX11_film 104 = .ok (.iinc 4 1, 3) := by decide +kernel
theorem dX11_film_107 : decode cX11_film 107 = .ok (.goto (-51), 3) := by decide +kernel
theorem dX11_film_110 : decode cX11_film 110 = .ok (.iload_n 3, 1) := by decide +kernel
theorem dX11_film_111 : decode cX11_film 111 = .ok (.ireturn, 1) := by decide +kernel
theorem dX11_sell_0 : decode cX11_sell 0 = .ok (.aload_n 0, 1) := by decide +kernel
theorem dX11_sell_1 : decode cX11_sell 1 = .ok (.getfield 52, 3) := by decide +kernel
theorem dX11_sell_4 : decode cX11_sell 4 = .ok (.aload_n 0, 1) := by decide +kernel
theorem dX11_sell_5 : decode cX11_sell 5 = .ok (.getfield 10, 3) := by decide +kernel
theorem dX11_sell_8 : decode cX11_sell 8 = .ok (.iload_n 1, 1) := by decide +kernel
theorem dX11_sell_9 : decode cX11_sell 9 = .ok (.iconst 1, 1) := by decide +kernel
theorem dX11_sell_10 : decode cX11_sell 10 = .ok (.invokevirtual 278, 3) := by decide +kernel
theorem dX11_sell_13 : decode cX11_sell 13 = .ok (.ireturn, 1) := by decide +kernel
theorem dX11_chance_0 : decode cX11_chance 0 = .ok (.iload_n 2, 1) := by decide +kernel
theorem dX11_chance_1 : decode cX11_chance 1 = .ok (.iconst 1, 1) := by decide +kernel
theorem dX11_chance_2 : decode cX11_chance 2 = .ok (.bipush 20, 2) := by decide +kernel
theorem dX11_chance_4 : decode cX11_chance 4 = .ok (.invokestatic 103, 3) := by decide +kernel
theorem dX11_chance_7 : decode cX11_chance 7 = .ok (.ifCond .eq 22, 3) := by decide +kernel
theorem dX11_chance_10 : decode cX11_chance 10 = .ok (.iload_n 3, 1) := by decide +kernel
theorem dX11_chance_11 : decode cX11_chance 11 = .ok (.iconst 0, 1) := by decide +kernel
theorem dX11_chance_12 : decode cX11_chance 12 = .ok (.sipush 9999, 3) := by decide +kernel
theorem dX11_chance_15 : decode cX11_chance 15 = .ok (.invokestatic 103, 3) := by decide +kernel
theorem dX11_chance_18 : decode cX11_chance 18 = .ok (.ifCond .eq 11, 3) := by decide +kernel
theorem dX11_chance_21 : decode cX11_chance 21 = .ok (.iload 4, 2) := by decide +kernel
theorem dX11_chance_23 : decode cX11_chance 23 = .ok (.invokestatic 191, 3) := by decide +kernel
theorem dX11_chance_26 : decode cX11_chance 26 = .ok (.ifCond .ne 7, 3) := by decide +kernel
theorem dX11_chance_29 : decode cX11_chance 29 = .ok (.ldc2_w 194, 3) := by decide +kernel
theorem dX11_chance_32 : decode cX11_chance 32 = .ok (.lreturn, 1) := by decide +kernel
theorem dX11_chance_33 : decode cX11_chance 33 = .ok (.iconst 0, 1) := by decide +kernel
theorem dX11_chance_34 : decode cX11_chance 34 = .ok (.istore 5, 2) := by decide +kernel
theorem dX11_chance_36 : decode cX11_chance 36 = .ok (.iconst 0, 1) := by decide +kernel
theorem dX11_chance_37 : decode cX11_chance 37 = .ok (.istore 6, 2) := by decide +kernel
theorem dX11_chance_39 : decode cX11_chance 39 = .ok (.iload 6, 2) := by decide +kernel
theorem dX11_chance_41 : decode cX11_chance 41 = .ok (.iload_n 2, 1) := by decide +kernel
theorem dX11_chance_42 : decode cX11_chance 42 = .ok (.if_icmp .ge 32, 3) := by decide +kernel
theorem dX11_chance_45 : decode cX11_chance 45 = .ok (.aload_n 0, 1) := by decide +kernel
theorem dX11_chance_46 : decode cX11_chance 46 = .ok (.getfield 52, 3) := by decide +kernel
theorem dX11_chance_49 : decode cX11_chance 49 = .ok (.aload_n 0, 1) := by decide +kernel
theorem dX11_chance_50 : decode cX11_chance 50 = .ok (.getfield 10, 3) := by decide +kernel
theorem dX11_chance_53 : decode cX11_chance 53 = .ok (.iload_n 1, 1) := by decide +kernel
theorem dX11_chance_54 : decode cX11_chance 54 = .ok (.iload 6, 2) := by decide +kernel
theorem dX11_chance_56 : decode cX11_chance 56 = .ok (.iadd, 1) := by decide +kernel
theorem dX11_chance_57 : decode cX11_chance 57 = .ok (.iconst 0, 1) := by decide +kernel
theorem dX11_chance_58 : decode cX11_chance 58 = .ok (.invokevirtual 278, 3) := by decide +kernel
theorem dX11_chance_61 : decode cX11_chance 61 = .ok (.iload_n 3, 1) := by decide +kernel
theorem dX11_chance_62 : decode cX11_chance 62 = .ok (.if_icmp .lt 6, 3) := by decide +kernel
theorem dX11_chance_65 : decode cX11_chance 65 = .ok (.iinc 5 1, 3) := by decide +kernel
theorem dX11_chance_68 : decode cX11_chance 68 = .ok (.iinc 6 1, 3) := by decide +kernel
theorem dX11_chance_71 : decode cX11_chance 71 = .ok (.goto (-32), 3) := by decide +kernel
theorem dX11_chance_74 : decode cX11_chance 74 = .ok (.aload_n 0, 1) := by decide +kernel
theorem dX11_chance_75 : decode cX11_chance 75 = .ok (.getfield 66, 3) := by decide +kernel
theorem dX11_chance_78 : decode cX11_chance 78 = .ok (.iload 5, 2) := by decide +kernel
theorem dX11_chance_80 : decode cX11_chance 80 = .ok (.i2l, 1) := by decide +kernel
theorem dX11_chance_81 : decode cX11_chance 81 = .ok (.iload_n 2, 1) := by decide +kernel
theorem dX11_chance_82 : decode cX11_chance 82 = .ok (.i2l, 1) := by decide +kernel
theorem dX11_chance_83 : decode cX11_chance 83 = .ok (.invokevirtual 196, 3) := by decide +kernel
theorem dX11_chance_86 : decode cX11_chance 86 = .ok (.aload_n 0, 1) := by decide +kernel
theorem dX11_chance_87 : decode cX11_chance 87 = .ok (.getfield 66, 3) := by decide +kernel
theorem dX11_chance_90 : decode cX11_chance 90 = .ok (.iload 4, 2) := by decide +kernel
theorem dX11_chance_92 : decode cX11_chance 92 = .ok (.invokevirtual 205, 3) := by decide +kernel
theorem dX11_chance_95 : decode cX11_chance 95 = .ok (.lreturn, 1) := by decide +kernel
theorem dX11_image_0 : decode cX11_image 0 = .ok (.aload_n 0, 1) := by decide +kernel
theorem dX11_image_1 : decode cX11_image 1 = .ok (.getfield 19, 3) := by decide +kernel
theorem dX11_image_4 : decode cX11_image 4 = .ok (.aload_n 0, 1) := by decide +kernel
theorem dX11_image_5 : decode cX11_image 5 = .ok (.getfield 10, 3) := by decide +kernel
theorem dX11_image_8 : decode cX11_image 8 = .ok (.invokevirtual 236, 3) := by decide +kernel
theorem dX11_image_11 : decode cX11_image 11 = .ok (.aload_n 0, 1) := by decide +kernel
theorem dX11_image_12 : decode cX11_image 12 = .ok (.iconst 1, 1) := by decide +kernel
theorem dX11_image_13 : decode cX11_image 13 = .ok (.putfield 22, 3) := by decide +kernel
theorem dX11_image_16 : decode cX11_image 16 = .ok (.aload_n 0, 1) := by decide +kernel
theorem dX11_image_17 : decode cX11_image 17 = .ok (.getfield 19, 3) := by decide +kernel
theorem dX11_image_20 : decode cX11_image 20 = .ok (.getfield 129, 3) := by decide +kernel
theorem dX11_image_23 : decode cX11_image 23 = .ok (.ireturn, 1) := by decide +kernel
theorem dX11_back_0 : decode cX11_back 0 = .ok (.aload_n 0, 1) := by decide +kernel
theorem dX11_back_1 : decode cX11_back 1 = .ok (.getfield 22, 3) := by decide +kernel
theorem dX11_back_4 : decode cX11_back 4 = .ok (.ifCond .ne 6, 3) := by decide +kernel
theorem dX11_back_7 : decode cX11_back 7 = .ok (.bipush (-3), 2) := by decide +kernel
theorem dX11_back_9 : decode cX11_back 9 = .ok (.ireturn, 1) := by decide +kernel
theorem dX11_back_10 : decode cX11_back 10 = .ok (.aload_n 0, 1) := by decide +kernel
theorem dX11_back_11 : decode cX11_back 11 = .ok (.getfield 10, 3) := by decide +kernel
theorem dX11_back_14 : decode cX11_back 14 = .ok (.aload_n 0, 1) := by decide +kernel
theorem dX11_back_15 : decode cX11_back 15 = .ok (.getfield 19, 3) := by decide +kernel
theorem dX11_back_18 : decode cX11_back 18 = .ok (.invokevirtual 236, 3) := by decide +kernel
theorem dX11_back_21 : decode cX11_back 21 = .ok (.aload_n 0, 1) := by decide +kernel
theorem dX11_back_22 : decode cX11_back 22 = .ok (.getfield 10, 3) := by decide +kernel
theorem dX11_back_25 : decode cX11_back 25 = .ok (.getfield 129, 3) := by decide +kernel
theorem dX11_back_28 : decode cX11_back 28 = .ok (.ireturn, 1) := by decide +kernel
theorem dX11_count_0 : decode cX11_count 0 = .ok (.iload_n 1, 1) := by decide +kernel
theorem dX11_count_1 : decode cX11_count 1 = .ok (.tableswitch 90 0 5 #[39, 47, 58, 66, 74, 82], 39) := by decide +kernel
theorem dX11_count_40 : decode cX11_count 40 = .ok (.aload_n 0, 1) := by decide +kernel
theorem dX11_count_41 : decode cX11_count 41 = .ok (.getfield 10, 3) := by decide +kernel
theorem dX11_count_44 : decode cX11_count 44 = .ok (.getfield 129, 3) := by decide +kernel
theorem dX11_count_47 : decode cX11_count 47 = .ok (.ireturn, 1) := by decide +kernel
theorem dX11_count_48 : decode cX11_count 48 = .ok (.aload_n 0, 1) := by decide +kernel
theorem dX11_count_49 : decode cX11_count 49 = .ok (.getfield 10, 3) := by decide +kernel
theorem dX11_count_52 : decode cX11_count 52 = .ok (.getfield 243, 3) := by decide +kernel
theorem dX11_count_55 : decode cX11_count 55 = .ok (.invokestatic 282, 3) := by decide +kernel
theorem dX11_count_58 : decode cX11_count 58 = .ok (.ireturn, 1) := by decide +kernel
theorem dX11_count_59 : decode cX11_count 59 = .ok (.aload_n 0, 1) := by decide +kernel
theorem dX11_count_60 : decode cX11_count 60 = .ok (.getfield 10, 3) := by decide +kernel
theorem dX11_count_63 : decode cX11_count 63 = .ok (.invokevirtual 287, 3) := by decide +kernel
theorem dX11_count_66 : decode cX11_count 66 = .ok (.ireturn, 1) := by decide +kernel
theorem dX11_count_67 : decode cX11_count 67 = .ok (.aload_n 0, 1) := by decide +kernel
theorem dX11_count_68 : decode cX11_count 68 = .ok (.getfield 43, 3) := by decide +kernel
theorem dX11_count_71 : decode cX11_count 71 = .ok (.getfield 159, 3) := by decide +kernel
theorem dX11_count_74 : decode cX11_count 74 = .ok (.ireturn, 1) := by decide +kernel
theorem dX11_count_75 : decode cX11_count 75 = .ok (.aload_n 0, 1) := by decide +kernel
theorem dX11_count_76 : decode cX11_count 76 = .ok (.getfield 29, 3) := by decide +kernel
theorem dX11_count_79 : decode cX11_count 79 = .ok (.getfield 158, 3) := by decide +kernel
theorem dX11_count_82 : decode cX11_count 82 = .ok (.ireturn, 1) := by decide +kernel
theorem dX11_count_83 : decode cX11_count 83 = .ok (.aload_n 0, 1) := by decide +kernel
theorem dX11_count_84 : decode cX11_count 84 = .ok (.getfield 10, 3) := by decide +kernel
theorem dX11_count_87 : decode cX11_count 87 = .ok (.getfield 169, 3) := by decide +kernel
theorem dX11_count_90 : decode cX11_count 90 = .ok (.ireturn, 1) := by decide +kernel
theorem dX11_count_91 : decode cX11_count 91 = .ok (.bipush (-2), 2) := by decide +kernel
theorem dX11_count_93 : decode cX11_count 93 = .ok (.ireturn, 1) := by decide +kernel
theorem dX11_firstOtherwise_0 : decode cX11_firstOtherwise 0 = .ok (.iconst 0, 1) := by decide +kernel
theorem dX11_firstOtherwise_1 : decode cX11_firstOtherwise 1 = .ok (.istore_n 3, 1) := by decide +kernel
theorem dX11_firstOtherwise_2 : decode cX11_firstOtherwise 2 = .ok (.iload_n 3, 1) := by decide +kernel
theorem dX11_firstOtherwise_3 : decode cX11_firstOtherwise 3 = .ok (.aload_n 1, 1) := by decide +kernel
theorem dX11_firstOtherwise_4 : decode cX11_firstOtherwise 4 = .ok (.getfield 290, 3) := by decide +kernel
theorem dX11_firstOtherwise_7 : decode cX11_firstOtherwise 7 = .ok (.if_icmp .ge 48, 3) := by decide +kernel
theorem dX11_firstOtherwise_10 : decode cX11_firstOtherwise 10 = .ok (.iload_n 3, 1) := by decide +kernel
theorem dX11_firstOtherwise_11 : decode cX11_firstOtherwise 11 = .ok (.bipush 40, 2) := by decide +kernel
theorem dX11_firstOtherwise_13 : decode cX11_firstOtherwise 13 = .ok (.if_icmp .ge 42, 3) := by decide +kernel
theorem dX11_firstOtherwise_16 : decode cX11_firstOtherwise 16 = .ok (.aload_n 0, 1) := by decide +kernel
theorem dX11_firstOtherwise_17 : decode cX11_firstOtherwise 17 = .ok (.getfield 16, 3) := by decide +kernel
theorem dX11_firstOtherwise_20 : decode cX11_firstOtherwise 20 = .ok (.iload_n 3, 1) := by decide +kernel
theorem dX11_firstOtherwise_21 : decode cX11_firstOtherwise 21 = .ok (.iconst 1, 1) := by decide +kernel
theorem dX11_firstOtherwise_22 : decode cX11_firstOtherwise 22 = .ok (.iadd, 1) := by decide +kernel
theorem dX11_firstOtherwise_23 : decode cX11_firstOtherwise 23 = .ok (.putfield 249, 3) := by decide +kernel
theorem dX11_firstOtherwise_26 : decode cX11_firstOtherwise 26 = .ok (.aload_n 0, 1) := by decide +kernel
theorem dX11_firstOtherwise_27 : decode cX11_firstOtherwise 27 = .ok (.getfield 52, 3) := by decide +kernel
theorem dX11_firstOtherwise_30 : decode cX11_firstOtherwise 30 = .ok (.aload_n 0, 1) := by decide +kernel
theorem dX11_firstOtherwise_31 : decode cX11_firstOtherwise 31 = .ok (.getfield 16, 3) := by decide +kernel
theorem dX11_firstOtherwise_34 : decode cX11_firstOtherwise 34 = .ok (.aload_n 2, 1) := by decide +kernel
theorem dX11_firstOtherwise_35 : decode cX11_firstOtherwise 35 = .ok (.invokevirtual 138, 3) := by decide +kernel
theorem dX11_firstOtherwise_38 : decode cX11_firstOtherwise 38 = .ok (.aload_n 1, 1) := by decide +kernel
theorem dX11_firstOtherwise_39 : decode cX11_firstOtherwise 39 = .ok (.getfield 291, 3) := by decide +kernel
theorem dX11_firstOtherwise_42 : decode cX11_firstOtherwise 42 = .ok (.iload_n 3, 1) := by decide +kernel
theorem dX11_firstOtherwise_43 : decode cX11_firstOtherwise 43 = .ok (.iaload, 1) := by decide +kernel
theorem dX11_firstOtherwise_44 : decode cX11_firstOtherwise 44 = .ok (.if_icmp .eq 5, 3) := by decide +kernel
theorem dX11_firstOtherwise_47 : decode cX11_firstOtherwise 47 = .ok (.iload_n 3, 1) := by decide +kernel
theorem dX11_firstOtherwise_48 : decode cX11_firstOtherwise 48 = .ok (.ireturn, 1) := by decide +kernel
theorem dX11_firstOtherwise_49 : decode cX11_firstOtherwise 49 = .ok (.iinc 3 1, 3) := by decide +kernel
theorem dX11_firstOtherwise_52 : decode cX11_firstOtherwise 52 = .ok (.goto (-50), 3) := by decide +kernel
theorem dX11_firstOtherwise_55 : decode cX11_firstOtherwise 55 = .ok (.iconst (-1), 1) := by decide +kernel
theorem dX11_firstOtherwise_56 : decode cX11_firstOtherwise 56 = .ok (.ireturn, 1) := by decide +kernel
theorem dX11_allBy_0 : decode cX11_allBy 0 = .ok (.iconst 0, 1) := by decide +kernel
theorem dX11_allBy_1 : decode cX11_allBy 1 = .ok (.istore 4, 2) := by decide +kernel
theorem dX11_allBy_3 : decode cX11_allBy 3 = .ok (.iconst 0, 1) := by decide +kernel
theorem dX11_allBy_4 : decode cX11_allBy 4 = .ok (.istore 5, 2) := by decide +kernel
theorem dX11_allBy_6 : decode cX11_allBy 6 = .ok (.iconst (-1), 1) := by decide +kernel
theorem dX11_allBy_7 : decode cX11_allBy 7 = .ok (.istore 6, 2) := by decide +kernel
theorem dX11_allBy_9 : decode cX11_allBy 9 = .ok (.iload_n 3, 1) := by decide +kernel
theorem dX11_allBy_10 : decode cX11_allBy 10 = .ok (.bipush 7, 2) := by decide +kernel
theorem dX11_allBy_12 : decode cX11_allBy 12 = .ok (.if_icmp .ne 15, 3) := by decide +kernel
theorem dX11_allBy_15 : decode cX11_allBy 15 = .ok (.aload_n 0, 1) := by decide +kernel
theorem dX11_allBy_16 : decode cX11_allBy 16 = .ok (.getfield 43, 3) := by decide +kernel
theorem dX11_allBy_19 : decode cX11_allBy 19 = .ok (.getfield 159, 3) := by decide +kernel
theorem dX11_allBy_22 : decode cX11_allBy 22 = .ok (.iconst 1, 1) := by decide +kernel
theorem dX11_allBy_23 : decode cX11_allBy 23 = .ok (.isub, 1) := by decide +kernel
theorem dX11_allBy_24 : decode cX11_allBy 24 = .ok (.goto 8, 3) := by decide +kernel
theorem dX11_allBy_27 : decode cX11_allBy 27 = .ok (.getstatic 294, 3) := by decide +kernel
theorem dX11_allBy_30 : decode cX11_allBy 30 = .ok (.iload_n 3, 1) := by decide +kernel
theorem dX11_allBy_31 : decode cX11_allBy 31 = .ok (.iaload, 1) := by decide +kernel
theorem dX11_allBy_32 : decode cX11_allBy 32 = .ok (.istore 7, 2) := by decide +kernel
theorem dX11_allBy_34 : decode cX11_allBy 34 = .ok (.getstatic 297, 3) := by decide +kernel
theorem dX11_allBy_37 : decode cX11_allBy 37 = .ok (.iload_n 3, 1) := by decide +kernel
theorem dX11_allBy_38 : decode cX11_allBy 38 = .ok (.iaload, 1) := by decide +kernel
theorem dX11_allBy_39 : decode cX11_allBy 39 = .ok (.istore 8, 2) := by decide +kernel
theorem dX11_allBy_41 : decode cX11_allBy 41 = .ok (.iload 8, 2) := by decide +kernel
theorem dX11_allBy_43 : decode cX11_allBy 43 = .ok (.iload 7, 2) := by decide +kernel
theorem dX11_allBy_45 : decode cX11_allBy 45 = .ok (.if_icmp .gt 53, 3) := by decide +kernel
theorem dX11_allBy_48 : decode cX11_allBy 48 = .ok (.aload_n 0, 1) := by decide +kernel
theorem dX11_allBy_49 : decode cX11_allBy 49 = .ok (.aload_n 2, 1) := by decide +kernel
theorem dX11_allBy_50 : decode cX11_allBy 50 = .ok (.iload_n 3, 1) := by decide +kernel
theorem dX11_allBy_51 : decode cX11_allBy 51 = .ok (.iload 8, 2) := by decide +kernel
theorem dX11_allBy_53 : decode cX11_allBy 53 = .ok (.invokevirtual 300, 3) := by decide +kernel
theorem dX11_allBy_56 : decode cX11_allBy 56 = .ok (.aload_n 0, 1) := by decide +kernel
theorem dX11_allBy_57 : decode cX11_allBy 57 = .ok (.aload_n 1, 1) := by decide +kernel
theorem dX11_allBy_58 : decode cX11_allBy 58 = .ok (.aload_n 2, 1) := by decide +kernel
theorem dX11_allBy_59 : decode cX11_allBy 59 = .ok (.invokevirtual 265, 3) := by decide +kernel
theorem dX11_allBy_62 : decode cX11_allBy 62 = .ok (.iconst (-1), 1) := by decide +kernel
theorem dX11_allBy_63 : decode cX11_allBy 63 = .ok (.if_icmp .ne 29, 3) := by decide +kernel
theorem dX11_allBy_66 : decode cX11_allBy 66 = .ok (.iload 4, 2) := by decide +kernel
theorem dX11_allBy_68 : decode cX11_allBy 68 = .ok (.iconst 1, 1) := by decide +kernel
theorem dX11_allBy_69 : decode cX11_allBy 69 = .ok (.iload 8, 2) := by decide +kernel
theorem dX11_allBy_71 : decode cX11_allBy 71 = .ok (.ishl, 1) := by decide +kernel
theorem dX11_allBy_72 : decode cX11_allBy 72 = .ok (.ior, 1) := by decide +kernel
theorem dX11_allBy_73 : decode cX11_allBy 73 = .ok (.istore 4, 2) := by decide +kernel
theorem dX11_allBy_75 : decode cX11_allBy 75 = .ok (.iload 5, 2) := by decide +kernel
theorem dX11_allBy_77 : decode cX11_allBy 77 = .ok (.ifCond .ne 8, 3) := by decide +kernel
theorem dX11_allBy_80 : decode cX11_allBy 80 = .ok (.iload 8, 2) := by decide +kernel
theorem dX11_allBy_82 : decode cX11_allBy 82 = .ok (.goto 5, 3) := by decide +kernel
theorem dX11_allBy_85 : decode cX11_allBy 85 = .ok (.iload 6, 2) := by decide +kernel
theorem dX11_allBy_87 : decode cX11_allBy 87 = .ok (.istore 6, 2) := by decide +kernel
theorem dX11_allBy_89 : decode cX11_allBy 89 = .ok (.iinc 5 1, 3) := by decide +kernel
theorem dX11_allBy_92 : decode cX11_allBy 92 = .ok (.iinc 8 1, 3) := by decide +kernel
theorem dX11_allBy_95 : decode cX11_allBy 95 = .ok (.goto (-54), 3) := by decide +kernel
theorem dX11_allBy_98 : decode cX11_allBy 98 = .ok (.iload_n 3, 1) := by decide +kernel
theorem dX11_allBy_99 : decode cX11_allBy 99 = .ok (.iconst 3, 1) := by decide +kernel
theorem dX11_allBy_100 : decode cX11_allBy 100 = .ok (.if_icmp .ne 6, 3) := by decide +kernel
theorem dX11_allBy_103 : decode cX11_allBy 103 = .ok (.iload 5, 2) := by decide +kernel
theorem dX11_allBy_105 : decode cX11_allBy 105 = .ok (.ireturn, 1) := by decide +kernel
theorem dX11_allBy_106 : decode cX11_allBy 106 = .ok (.iload_n 3, 1) := by decide +kernel
theorem dX11_allBy_107 : decode cX11_allBy 107 = .ok (.iconst 4, 1) := by decide +kernel
theorem dX11_allBy_108 : decode cX11_allBy 108 = .ok (.if_icmp .ne 8, 3) := by decide +kernel
theorem dX11_allBy_111 : decode cX11_allBy 111 = .ok (.iload 6, 2) := by decide +kernel
theorem dX11_allBy_113 : decode cX11_allBy 113 = .ok (.goto 5, 3) := by decide +kernel
theorem dX11_allBy_116 : decode cX11_allBy 116 = .ok (.iload 4, 2) := by decide +kernel
theorem dX11_allBy_118 : decode cX11_allBy 118 = .ok (.ireturn, 1) := by decide +kernel
theorem dX11_suppose_0 : decode cX11_suppose 0 = .ok (.iload_n 2, 1) := by decide +kernel
theorem dX11_suppose_1 : decode cX11_suppose 1 = .ok (.tableswitch 97 1 7 #[43, 51, 59, 59, 67, 75, 86], 43) := by decide +kernel
theorem dX11_suppose_44 : decode cX11_suppose 44 = .ok (.aload_n 1, 1) := by decide +kernel
theorem dX11_suppose_45 : decode cX11_suppose 45 = .ok (.iload_n 3, 1) := by decide +kernel
theorem dX11_suppose_46 : decode cX11_suppose 46 = .ok (.putfield 304, 3) := by decide +kernel
theorem dX11_suppose_49 : decode cX11_suppose 49 = .ok (.goto 49, 3) := by decide +kernel
theorem dX11_suppose_52 : decode cX11_suppose 52 = .ok (.aload_n 1, 1) := by decide +kernel
theorem dX11_suppose_53 : decode cX11_suppose 53 = .ok (.iload_n 3, 1) := by decide +kernel
theorem dX11_suppose_54 : decode cX11_suppose 54 = .ok (.putfield 307, 3) := by decide +kernel
theorem dX11_suppose_57 : decode cX11_suppose 57 = .ok (.goto 41, 3) := by decide +kernel
theorem dX11_suppose_60 : decode cX11_suppose 60 = .ok (.aload_n 1, 1) := by decide +kernel
theorem dX11_suppose_61 : decode cX11_suppose 61 = .ok (.iload_n 3, 1) := by decide +kernel
theorem dX11_suppose_62 : decode cX11_suppose 62 = .ok (.putfield 310, 3) := by decide +kernel
theorem dX11_suppose_65 : decode cX11_suppose 65 = .ok (.goto 33, 3) := by decide +kernel
theorem dX11_suppose_68 : decode cX11_suppose 68 = .ok (.aload_n 1, 1) := by decide +kernel
theorem dX11_suppose_69 : decode cX11_suppose 69 = .ok (.iload_n 3, 1) := by decide +kernel
theorem dX11_suppose_70 : decode cX11_suppose 70 = .ok (.putfield 313, 3) := by decide +kernel
theorem dX11_suppose_73 : decode cX11_suppose 73 = .ok (.goto 25, 3) := by decide +kernel
theorem dX11_suppose_76 : decode cX11_suppose 76 = .ok (.aload_n 0, 1) := by decide +kernel
theorem dX11_suppose_77 : decode cX11_suppose 77 = .ok (.getfield 16, 3) := by decide +kernel
theorem dX11_suppose_80 : decode cX11_suppose 80 = .ok (.iload_n 3, 1) := by decide +kernel
theorem dX11_suppose_81 : decode cX11_suppose 81 = .ok (.putfield 252, 3) := by decide +kernel
theorem dX11_suppose_84 : decode cX11_suppose 84 = .ok (.goto 14, 3) := by decide +kernel
theorem dX11_suppose_87 : decode cX11_suppose 87 = .ok (.aload_n 0, 1) := by decide +kernel
theorem dX11_suppose_88 : decode cX11_suppose 88 = .ok (.getfield 16, 3) := by decide +kernel
theorem dX11_suppose_91 : decode cX11_suppose 91 = .ok (.iload_n 3, 1) := by decide +kernel
theorem dX11_suppose_92 : decode cX11_suppose 92 = .ok (.putfield 169, 3) := by decide +kernel
theorem dX11_suppose_95 : decode cX11_suppose 95 = .ok (.goto 3, 3) := by decide +kernel
theorem dX11_suppose_98 : decode cX11_suppose 98 = .ok (.return_, 1) := by decide +kernel
theorem dX11_sheet_0 : decode cX11_sheet 0 = .ok (.iload_n 1, 1) := by decide +kernel
theorem dX11_sheet_1 : decode cX11_sheet 1 = .ok (.invokestatic 258, 3) := by decide +kernel
theorem dX11_sheet_4 : decode cX11_sheet 4 = .ok (.ifCond .eq 12, 3) := by decide +kernel
theorem dX11_sheet_7 : decode cX11_sheet 7 = .ok (.iload_n 2, 1) := by decide +kernel
theorem dX11_sheet_8 : decode cX11_sheet 8 = .ok (.iconst (-1), 1) := by decide +kernel
theorem dX11_sheet_9 : decode cX11_sheet 9 = .ok (.iconst 2, 1) := by decide +kernel
theorem dX11_sheet_10 : decode cX11_sheet 10 = .ok (.invokestatic 103, 3) := by decide +kernel
theorem dX11_sheet_13 : decode cX11_sheet 13 = .ok (.ifCond .ne 6, 3) := by decide +kernel
theorem dX11_sheet_16 : decode cX11_sheet 16 = .ok (.bipush (-2), 2) := by decide +kernel
theorem dX11_sheet_18 : decode cX11_sheet 18 = .ok (.ireturn, 1) := by decide +kernel
theorem dX11_sheet_19 : decode cX11_sheet 19 = .ok (.iload_n 2, 1) := by decide +kernel
theorem dX11_sheet_20 : decode cX11_sheet 20 = .ok (.iconst (-1), 1) := by decide +kernel
theorem dX11_sheet_21 : decode cX11_sheet 21 = .ok (.if_icmp .ne 16, 3) := by decide +kernel
theorem dX11_sheet_24 : decode cX11_sheet 24 = .ok (.aload_n 0, 1) := by decide +kernel
theorem dX11_sheet_25 : decode cX11_sheet 25 = .ok (.getfield 72, 3) := by decide +kernel
theorem dX11_sheet_28 : decode cX11_sheet 28 = .ok (.iload_n 1, 1) := by decide +kernel
theorem dX11_sheet_29 : decode cX11_sheet 29 = .ok (.aaload, 1) := by decide +kernel
theorem dX11_sheet_30 : decode cX11_sheet 30 = .ok (.iconst (-1), 1) := by decide +kernel
theorem dX11_sheet_31 : decode cX11_sheet 31 = .ok (.iconst 0, 1) := by decide +kernel
theorem dX11_sheet_32 : decode cX11_sheet 32 = .ok (.invokevirtual 273, 3) := by decide +kernel
theorem dX11_sheet_35 : decode cX11_sheet 35 = .ok (.iconst 1, 1) := by decide +kernel
theorem dX11_sheet_36 : decode cX11_sheet 36 = .ok (.ireturn, 1) := by decide +kernel
theorem dX11_sheet_37 : decode cX11_sheet 37 = .ok (.iload_n 3, 1) := by decide +kernel
theorem dX11_sheet_38 : decode cX11_sheet 38 = .ok (.bipush 40, 2) := by decide +kernel
theorem dX11_sheet_40 : decode cX11_sheet 40 = .ok (.if_icmp .le 6, 3) := by decide +kernel
theorem dX11_sheet_43 : decode cX11_sheet 43 = .ok (.bipush (-2), 2) := by decide +kernel
theorem dX11_sheet_45 : decode cX11_sheet 45 = .ok (.ireturn, 1) := by decide +kernel
theorem dX11_sheet_46 : decode cX11_sheet 46 = .ok (.iload_n 3, 1) := by decide +kernel
theorem dX11_sheet_47 : decode cX11_sheet 47 = .ok (.ifCond .ge 6, 3) := by decide +kernel
theorem dX11_sheet_50 : decode cX11_sheet 50 = .ok (.bipush (-14), 2) := by decide +kernel
theorem dX11_sheet_52 : decode cX11_sheet 52 = .ok (.ireturn, 1) := by decide +kernel
theorem dX11_sheet_53 : decode cX11_sheet 53 = .ok (.aload_n 0, 1) := by decide +kernel
theorem dX11_sheet_54 : decode cX11_sheet 54 = .ok (.getfield 72, 3) := by decide +kernel
theorem dX11_sheet_57 : decode cX11_sheet 57 = .ok (.iload_n 1, 1) := by decide +kernel
theorem dX11_sheet_58 : decode cX11_sheet 58 = .ok (.aaload, 1) := by decide +kernel
theorem dX11_sheet_59 : decode cX11_sheet 59 = .ok (.iload_n 2, 1) := by decide +kernel
theorem dX11_sheet_60 : decode cX11_sheet 60 = .ok (.iload_n 3, 1) := by decide +kernel
theorem dX11_sheet_61 : decode cX11_sheet 61 = .ok (.invokevirtual 273, 3) := by decide +kernel
theorem dX11_sheet_64 : decode cX11_sheet 64 = .ok (.iconst 1, 1) := by decide +kernel
theorem dX11_sheet_65 : decode cX11_sheet 65 = .ok (.ireturn, 1) := by decide +kernel
theorem dX11_cell_0 : decode cX11_cell 0 = .ok (.iload_n 1, 1) := by decide +kernel
theorem dX11_cell_1 : decode cX11_cell 1 = .ok (.invokestatic 258, 3) := by decide +kernel
theorem dX11_cell_4 : decode cX11_cell 4 = .ok (.ifCond .ne 6, 3) := by decide +kernel
theorem dX11_cell_7 : decode cX11_cell 7 = .ok (.bipush (-2), 2) := by decide +kernel
theorem dX11_cell_9 : decode cX11_cell 9 = .ok (.ireturn, 1) := by decide +kernel
theorem dX11_cell_10 : decode cX11_cell 10 = .ok (.aload_n 0, 1) := by decide +kernel
theorem dX11_cell_11 : decode cX11_cell 11 = .ok (.getfield 72, 3) := by decide +kernel
theorem dX11_cell_14 : decode cX11_cell 14 = .ok (.iload_n 1, 1) := by decide +kernel
theorem dX11_cell_15 : decode cX11_cell 15 = .ok (.aaload, 1) := by decide +kernel
theorem dX11_cell_16 : decode cX11_cell 16 = .ok (.astore 4, 2) := by decide +kernel
theorem dX11_cell_18 : decode cX11_cell 18 = .ok (.aload 4, 2) := by decide +kernel
theorem dX11_cell_20 : decode cX11_cell 20 = .ok (.invokevirtual 261, 3) := by decide +kernel
theorem dX11_cell_23 : decode cX11_cell 23 = .ok (.ifCond .eq 6, 3) := by decide +kernel
theorem dX11_cell_26 : decode cX11_cell 26 = .ok (.bipush (-11), 2) := by decide +kernel
theorem dX11_cell_28 : decode cX11_cell 28 = .ok (.ireturn, 1) := by decide +kernel
theorem dX11_cell_29 : decode cX11_cell 29 = .ok (.aload 4, 2) := by decide +kernel
theorem dX11_cell_31 : decode cX11_cell 31 = .ok (.iload_n 2, 1) := by decide +kernel
theorem dX11_cell_32 : decode cX11_cell 32 = .ok (.iconst 1, 1) := by decide +kernel
theorem dX11_cell_33 : decode cX11_cell 33 = .ok (.invokevirtual 316, 3) := by decide +kernel
theorem dX11_cell_36 : decode cX11_cell 36 = .ok (.ifCond .ne 6, 3) := by decide +kernel
theorem dX11_cell_39 : decode cX11_cell 39 = .ok (.bipush (-12), 2) := by decide +kernel
theorem dX11_cell_41 : decode cX11_cell 41 = .ok (.ireturn, 1) := by decide +kernel
theorem dX11_cell_42 : decode cX11_cell 42 = .ok (.aload 4, 2) := by decide +kernel
theorem dX11_cell_44 : decode cX11_cell 44 = .ok (.iload_n 2, 1) := by decide +kernel
theorem dX11_cell_45 : decode cX11_cell 45 = .ok (.iload_n 3, 1) := by decide +kernel
theorem dX11_cell_46 : decode cX11_cell 46 = .ok (.invokevirtual 275, 3) := by decide +kernel
theorem dX11_cell_49 : decode cX11_cell 49 = .ok (.iconst 1, 1) := by decide +kernel
theorem dX11_cell_50 : decode cX11_cell 50 = .ok (.ireturn, 1) := by decide +kernel
theorem dX11_copy_0 : decode cX11_copy 0 = .ok (.iload_n 1, 1) := by decide +kernel
theorem dX11_copy_1 : decode cX11_copy 1 = .ok (.invokestatic 258, 3) := by decide +kernel
theorem dX11_copy_4 : decode cX11_copy 4 = .ok (.ifCond .eq 10, 3) := by decide +kernel
theorem dX11_copy_7 : decode cX11_copy 7 = .ok (.iload_n 3, 1) := by decide +kernel
theorem dX11_copy_8 : decode cX11_copy 8 = .ok (.invokestatic 258, 3) := by decide +kernel
theorem dX11_copy_11 : decode cX11_copy 11 = .ok (.ifCond .ne 6, 3) := by decide +kernel
theorem dX11_copy_14 : decode cX11_copy 14 = .ok (.bipush (-2), 2) := by decide +kernel
theorem dX11_copy_16 : decode cX11_copy 16 = .ok (.ireturn, 1) := by decide +kernel
theorem dX11_copy_17 : decode cX11_copy 17 = .ok (.aload_n 0, 1) := by decide +kernel
theorem dX11_copy_18 : decode cX11_copy 18 = .ok (.getfield 72, 3) := by decide +kernel
theorem dX11_copy_21 : decode cX11_copy 21 = .ok (.iload_n 1, 1) := by decide +kernel
theorem dX11_copy_22 : decode cX11_copy 22 = .ok (.aaload, 1) := by decide +kernel
theorem dX11_copy_23 : decode cX11_copy 23 = .ok (.astore 6, 2) := by decide +kernel
theorem dX11_copy_25 : decode cX11_copy 25 = .ok (.aload_n 0, 1) := by decide +kernel
theorem dX11_copy_26 : decode cX11_copy 26 = .ok (.getfield 72, 3) := by decide +kernel
theorem dX11_copy_29 : decode cX11_copy 29 = .ok (.iload_n 3, 1) := by decide +kernel
theorem dX11_copy_30 : decode cX11_copy 30 = .ok (.aaload, 1) := by decide +kernel
theorem dX11_copy_31 : decode cX11_copy 31 = .ok (.astore 7, 2) := by decide +kernel
theorem dX11_copy_33 : decode cX11_copy 33 = .ok (.aload 6, 2) := by decide +kernel
theorem dX11_copy_35 : decode cX11_copy 35 = .ok (.invokevirtual 261, 3) := by decide +kernel
theorem dX11_copy_38 : decode cX11_copy 38 = .ok (.ifCond .ne 11, 3) := by decide +kernel
theorem dX11_copy_41 : decode cX11_copy 41 = .ok (.aload 7, 2) := by decide +kernel
theorem dX11_copy_43 : decode cX11_copy 43 = .ok (.invokevirtual 261, 3) := by decide +kernel
theorem dX11_copy_46 : decode cX11_copy 46 = .ok (.ifCond .eq 6, 3) := by decide +kernel
theorem dX11_copy_49 : decode cX11_copy 49 = .ok (.bipush (-11), 2) := by decide +kernel
theorem dX11_copy_51 : decode cX11_copy 51 = .ok (.ireturn, 1) := by decide +kernel
theorem dX11_copy_52 : decode cX11_copy 52 = .ok (.aload 6, 2) := by decide +kernel
theorem dX11_copy_54 : decode cX11_copy 54 = .ok (.getfield 320, 3) := by decide +kernel
theorem dX11_copy_57 : decode cX11_copy 57 = .ok (.aload 7, 2) := by decide +kernel
theorem dX11_copy_59 : decode cX11_copy 59 = .ok (.getfield 320, 3) := by decide +kernel
theorem dX11_copy_62 : decode cX11_copy 62 = .ok (.if_icmp .eq 6, 3) := by decide +kernel
theorem dX11_copy_65 : decode cX11_copy 65 = .ok (.bipush (-13), 2) := by decide +kernel
theorem dX11_copy_67 : decode cX11_copy 67 = .ok (.ireturn, 1) := by decide +kernel
theorem dX11_copy_68 : decode cX11_copy 68 = .ok (.aload 6, 2) := by decide +kernel
theorem dX11_copy_70 : decode cX11_copy 70 = .ok (.iload_n 2, 1) := by decide +kernel
theorem dX11_copy_71 : decode cX11_copy 71 = .ok (.iload 5, 2) := by decide +kernel
theorem dX11_copy_73 : decode cX11_copy 73 = .ok (.invokevirtual 316, 3) := by decide +kernel
theorem dX11_copy_76 : decode cX11_copy 76 = .ok (.ifCond .eq 15, 3) := by decide +kernel
theorem dX11_copy_79 : decode cX11_copy 79 = .ok (.aload 7, 2) := by decide +kernel
theorem dX11_copy_81 : decode cX11_copy 81 = .ok (.iload 4, 2) := by decide +kernel
theorem dX11_copy_83 : decode cX11_copy 83 = .ok (.iload 5, 2) := by decide +kernel
theorem dX11_copy_85 : decode cX11_copy 85 = .ok (.invokevirtual 316, 3) := by decide +kernel
theorem dX11_copy_88 : decode cX11_copy 88 = .ok (.ifCond .ne 6, 3) := by decide +kernel
theorem dX11_copy_91 : decode cX11_copy 91 = .ok (.bipush (-12), 2) := by decide +kernel
theorem dX11_copy_93 : decode cX11_copy 93 = .ok (.ireturn, 1) := by decide +kernel
theorem dX11_copy_94 : decode cX11_copy 94 = .ok (.aload 6, 2) := by decide +kernel
theorem dX11_copy_96 : decode cX11_copy 96 = .ok (.getfield 291, 3) := by decide +kernel
theorem dX11_copy_99 : decode cX11_copy 99 = .ok (.iload_n 2, 1) := by decide +kernel
theorem dX11_copy_100 : decode cX11_copy 100 = .ok (.aload 7, 2) := by decide +kernel
theorem dX11_copy_102 : decode cX11_copy 102 = .ok (.getfield 291, 3) := by decide +kernel
theorem dX11_copy_105 : decode cX11_copy 105 = .ok (.iload 4, 2) := by decide +kernel
theorem dX11_copy_107 : decode cX11_copy 107 = .ok (.iload 5, 2) := by decide +kernel
theorem dX11_copy_109 : decode cX11_copy 109 = .ok (.invokestatic 323, 3) := by decide +kernel
theorem dX11_copy_112 : decode cX11_copy 112 = .ok (.iload 5, 2) := by decide +kernel
theorem dX11_copy_114 : decode cX11_copy 114 = .ok (.ireturn, 1) := by decide +kernel
theorem dX11_customers_0 : decode cX11_customers 0 = .ok (.iload_n 1, 1) := by decide +kernel
theorem dX11_customers_1 : decode cX11_customers 1 = .ok (.invokestatic 258, 3) := by decide +kernel
theorem dX11_customers_4 : decode cX11_customers 4 = .ok (.ifCond .eq 23, 3) := by decide +kernel
theorem dX11_customers_7 : decode cX11_customers 7 = .ok (.iload_n 2, 1) := by decide +kernel
theorem dX11_customers_8 : decode cX11_customers 8 = .ok (.iconst 0, 1) := by decide +kernel
theorem dX11_customers_9 : decode cX11_customers 9 = .ok (.iconst 2, 1) := by decide +kernel
theorem dX11_customers_10 : decode cX11_customers 10 = .ok (.invokestatic 103, 3) := by decide +kernel
theorem dX11_customers_13 : decode cX11_customers 13 = .ok (.ifCond .eq 14, 3) := by decide +kernel
theorem dX11_customers_16 : decode cX11_customers 16 = .ok (.iload 4, 2) := by decide +kernel
theorem dX11_customers_18 : decode cX11_customers 18 = .ok (.iconst 0, 1) := by decide +kernel
theorem dX11_customers_19 : decode cX11_customers 19 = .ok (.bipush 8, 2) := by decide +kernel
theorem dX11_customers_21 : decode cX11_customers 21 = .ok (.invokestatic 103, 3) := by decide +kernel
theorem dX11_customers_24 : decode cX11_customers 24 = .ok (.ifCond .ne 6, 3) := by decide +kernel
theorem dX11_customers_27 : decode cX11_customers 27 = .ok (.bipush (-2), 2) := by decide +kernel
theorem dX11_customers_29 : decode cX11_customers 29 = .ok (.ireturn, 1) := by decide +kernel
theorem dX11_customers_30 : decode cX11_customers 30 = .ok (.aload_n 0, 1) := by decide +kernel
theorem dX11_customers_31 : decode cX11_customers 31 = .ok (.getfield 72, 3) := by decide +kernel
theorem dX11_customers_34 : decode cX11_customers 34 = .ok (.iload_n 1, 1) := by decide +kernel
theorem dX11_customers_35 : decode cX11_customers 35 = .ok (.aaload, 1) := by decide +kernel
theorem dX11_customers_36 : decode cX11_customers 36 = .ok (.astore 5, 2) := by decide +kernel
theorem dX11_customers_38 : decode cX11_customers 38 = .ok (.aload 5, 2) := by decide +kernel
theorem dX11_customers_40 : decode cX11_customers 40 = .ok (.invokevirtual 261, 3) := by decide +kernel
theorem dX11_customers_43 : decode cX11_customers 43 = .ok (.ifCond .ne 15, 3) := by decide +kernel
theorem dX11_customers_46 : decode cX11_customers 46 = .ok (.aload 5, 2) := by decide +kernel
theorem dX11_customers_48 : decode cX11_customers 48 = .ok (.getfield 320, 3) := by decide +kernel
theorem dX11_customers_51 : decode cX11_customers 51 = .ok (.iload_n 2, 1) := by decide +kernel
theorem dX11_customers_52 : decode cX11_customers 52 = .ok (.if_icmp .eq 6, 3) := by decide +kernel
theorem dX11_customers_55 : decode cX11_customers 55 = .ok (.bipush (-13), 2) := by decide +kernel
theorem dX11_customers_57 : decode cX11_customers 57 = .ok (.ireturn, 1) := by decide +kernel
theorem dX11_customers_58 : decode cX11_customers 58 = .ok (.aload 5, 2) := by decide +kernel
theorem dX11_customers_60 : decode cX11_customers 60 = .ok (.invokevirtual 261, 3) := by decide +kernel
theorem dX11_customers_63 : decode cX11_customers 63 = .ok (.ifCond .eq 6, 3) := by decide +kernel
theorem dX11_customers_66 : decode cX11_customers 66 = .ok (.bipush (-11), 2) := by decide +kernel
theorem dX11_customers_68 : decode cX11_customers 68 = .ok (.ireturn, 1) := by decide +kernel
theorem dX11_customers_69 : decode cX11_customers 69 = .ok (.iconst 0, 1) := by decide +kernel
theorem dX11_customers_70 : decode cX11_customers 70 = .ok (.istore 6, 2) := by decide +kernel
theorem dX11_customers_72 : decode cX11_customers 72 = .ok (.iload_n 3, 1) := by decide +kernel
theorem dX11_customers_73 : decode cX11_customers 73 = .ok (.istore 7, 2) := by decide +kernel
theorem dX11_customers_75 : decode cX11_customers 75 = .ok (.iconst 0, 1) := by decide +kernel
theorem dX11_customers_76 : decode cX11_customers 76 = .ok (.istore 8, 2) := by decide +kernel
theorem dX11_customers_78 : decode cX11_customers 78 = .ok (.iload 8, 2) := by decide +kernel
theorem dX11_customers_80 : decode cX11_customers 80 = .ok (.iload 4, 2) := by decide +kernel
theorem dX11_customers_82 : decode cX11_customers 82 = .ok (.if_icmp .ge 64, 3) := by decide +kernel
theorem dX11_customers_85 : decode cX11_customers 85 = .ok (.aload 5, 2) := by decide +kernel
theorem dX11_customers_87 : decode cX11_customers 87 = .ok (.iload 7, 2) := by decide +kernel
theorem dX11_customers_89 : decode cX11_customers 89 = .ok (.iconst 3, 1) := by decide +kernel
theorem dX11_customers_90 : decode cX11_customers 90 = .ok (.invokevirtual 316, 3) := by decide +kernel
theorem dX11_customers_93 : decode cX11_customers 93 = .ok (.ifCond .ne 6, 3) := by decide +kernel
theorem dX11_customers_96 : decode cX11_customers 96 = .ok (.bipush (-12), 2) := by decide +kernel
theorem dX11_customers_98 : decode cX11_customers 98 = .ok (.ireturn, 1) := by decide +kernel
theorem dX11_customers_99 : decode cX11_customers 99 = .ok (.aload_n 0, 1) := by decide +kernel
theorem dX11_customers_100 : decode cX11_customers 100 = .ok (.aload 5, 2) := by decide +kernel
theorem dX11_customers_102 : decode cX11_customers 102 = .ok (.getfield 291, 3) := by decide +kernel
theorem dX11_customers_105 : decode cX11_customers 105 = .ok (.iload 7, 2) := by decide +kernel
theorem dX11_customers_107 : decode cX11_customers 107 = .ok (.iaload, 1) := by decide +kernel
theorem dX11_customers_108 : decode cX11_customers 108 = .ok (.aload 5, 2) := by decide +kernel
theorem dX11_customers_110 : decode cX11_customers 110 = .ok (.getfield 291, 3) := by decide +kernel
theorem dX11_customers_113 : decode cX11_customers 113 = .ok (.iload 7, 2) := by decide +kernel
theorem dX11_customers_115 : decode cX11_customers 115 = .ok (.iconst 1, 1) := by decide +kernel
theorem dX11_customers_116 : decode cX11_customers 116 = .ok (.iadd, 1) := by decide +kernel
theorem dX11_customers_117 : decode cX11_customers 117 = .ok (.iaload, 1) := by decide +kernel
theorem dX11_customers_118 : decode cX11_customers 118 = .ok (.aload 5, 2) := by decide +kernel
theorem dX11_customers_120 : decode cX11_customers 120 = .ok (.getfield 291, 3) := by decide +kernel
theorem dX11_customers_123 : decode cX11_customers 123 = .ok (.iload 7, 2) := by decide +kernel
theorem dX11_customers_125 : decode cX11_customers 125 = .ok (.iconst 2, 1) := by decide +kernel
theorem dX11_customers_126 : decode cX11_customers 126 = .ok (.iadd, 1) := by decide +kernel
theorem dX11_customers_127 : decode cX11_customers 127 = .ok (.iaload, 1) := by decide +kernel
theorem dX11_customers_128 : decode cX11_customers 128 = .ok (.invokevirtual 329, 3) := by decide +kernel
theorem dX11_customers_131 : decode cX11_customers 131 = .ok (.ifCond .lt 6, 3) := by decide +kernel
theorem dX11_customers_134 : decode cX11_customers 134 = .ok (.iinc 6 1, 3) := by decide +kernel
theorem dX11_customers_137 : decode cX11_customers 137 = .ok (.iinc 7 3, 3) := by decide +kernel
theorem dX11_customers_140 : decode cX11_customers 140 = .ok (.iinc 8 1, 3) := by decide +kernel
theorem dX11_customers_143 : decode cX11_customers 143 = .ok (.goto (-65), 3) := by decide +kernel
theorem dX11_customers_146 : decode cX11_customers 146 = .ok (.iload 6, 2) := by decide +kernel
theorem dX11_customers_148 : decode cX11_customers 148 = .ok (.ireturn, 1) := by decide +kernel
theorem dX11_taken_0 : decode cX11_taken 0 = .ok (.iload_n 2, 1) := by decide +kernel
theorem dX11_taken_1 : decode cX11_taken 1 = .ok (.iconst 0, 1) := by decide +kernel
theorem dX11_taken_2 : decode cX11_taken 2 = .ok (.iconst 5, 1) := by decide +kernel
theorem dX11_taken_3 : decode cX11_taken 3 = .ok (.invokestatic 103, 3) := by decide +kernel
theorem dX11_taken_6 : decode cX11_taken 6 = .ok (.ifCond .ne 6, 3) := by decide +kernel
theorem dX11_taken_9 : decode cX11_taken 9 = .ok (.bipush (-2), 2) := by decide +kernel
theorem dX11_taken_11 : decode cX11_taken 11 = .ok (.ireturn, 1) := by decide +kernel
theorem dX11_taken_12 : decode cX11_taken 12 = .ok (.aload_n 0, 1) := by decide +kernel
theorem dX11_taken_13 : decode cX11_taken 13 = .ok (.getfield 10, 3) := by decide +kernel
theorem dX11_taken_16 : decode cX11_taken 16 = .ok (.iload_n 1, 1) := by decide +kernel
theorem dX11_taken_17 : decode cX11_taken 17 = .ok (.invokevirtual 115, 3) := by decide +kernel
theorem dX11_taken_20 : decode cX11_taken 20 = .ok (.ifCond .ne 6, 3) := by decide +kernel
theorem dX11_taken_23 : decode cX11_taken 23 = .ok (.bipush (-11), 2) := by decide +kernel
theorem dX11_taken_25 : decode cX11_taken 25 = .ok (.ireturn, 1) := by decide +kernel
theorem dX11_taken_26 : decode cX11_taken 26 = .ok (.aload_n 0, 1) := by decide +kernel
theorem dX11_taken_27 : decode cX11_taken 27 = .ok (.getfield 10, 3) := by decide +kernel
theorem dX11_taken_30 : decode cX11_taken 30 = .ok (.getfield 118, 3) := by decide +kernel
theorem dX11_taken_33 : decode cX11_taken 33 = .ok (.iload_n 1, 1) := by decide +kernel
theorem dX11_taken_34 : decode cX11_taken 34 = .ok (.aaload, 1) := by decide +kernel
theorem dX11_taken_35 : decode cX11_taken 35 = .ok (.astore_n 3, 1) := by decide +kernel
theorem dX11_taken_36 : decode cX11_taken 36 = .ok (.aload_n 3, 1) := by decide +kernel
theorem dX11_taken_37 : decode cX11_taken 37 = .ok (.getfield 304, 3) := by decide +kernel
theorem dX11_taken_40 : decode cX11_taken 40 = .ok (.iload_n 2, 1) := by decide +kernel
theorem dX11_taken_41 : decode cX11_taken 41 = .ok (.invokestatic 333, 3) := by decide +kernel
theorem dX11_taken_44 : decode cX11_taken 44 = .ok (.ifCond .eq 10, 3) := by decide +kernel
theorem dX11_taken_47 : decode cX11_taken 47 = .ok (.aload_n 3, 1) := by decide +kernel
theorem dX11_taken_48 : decode cX11_taken 48 = .ok (.getfield 307, 3) := by decide +kernel
theorem dX11_taken_51 : decode cX11_taken 51 = .ok (.goto 5, 3) := by decide +kernel
theorem dX11_taken_54 : decode cX11_taken 54 = .ok (.bipush (-13), 2) := by decide +kernel
theorem dX11_taken_56 : decode cX11_taken 56 = .ok (.ireturn, 1) := by decide +kernel
theorem dX11_isUnder_0 : decode cX11_isUnder 0 = .ok (.iload_n 0, 1) := by decide +kernel
theorem dX11_isUnder_1 : decode cX11_isUnder 1 = .ok (.istore_n 2, 1) := by decide +kernel
theorem dX11_isUnder_2 : decode cX11_isUnder 2 = .ok (.iconst 0, 1) := by decide +kernel
theorem dX11_isUnder_3 : decode cX11_isUnder 3 = .ok (.istore_n 3, 1) := by decide +kernel
theorem dX11_isUnder_4 : decode cX11_isUnder 4 = .ok (.iload_n 3, 1) := by decide +kernel
theorem dX11_isUnder_5 : decode cX11_isUnder 5 = .ok (.getstatic 336, 3) := by decide +kernel
theorem dX11_isUnder_8 : decode cX11_isUnder 8 = .ok (.arraylength, 1) := by decide +kernel
theorem dX11_isUnder_9 : decode cX11_isUnder 9 = .ok (.if_icmp .ge 34, 3) := by decide +kernel
theorem dX11_isUnder_12 : decode cX11_isUnder 12 = .ok (.iload_n 2, 1) := by decide +kernel
theorem dX11_isUnder_13 : decode cX11_isUnder 13 = .ok (.ifCond .lt 30, 3) := by decide +kernel
theorem dX11_isUnder_16 : decode cX11_isUnder 16 = .ok (.iload_n 2, 1) := by decide +kernel
theorem dX11_isUnder_17 : decode cX11_isUnder 17 = .ok (.getstatic 336, 3) := by decide +kernel
theorem dX11_isUnder_20 : decode cX11_isUnder 20 = .ok (.arraylength, 1) := by decide +kernel
theorem dX11_isUnder_21 : decode cX11_isUnder 21 = .ok (.if_icmp .ge 22, 3) := by decide +kernel
theorem dX11_isUnder_24 : decode cX11_isUnder 24 = .ok (.iload_n 2, 1) := by decide +kernel
theorem dX11_isUnder_25 : decode cX11_isUnder 25 = .ok (.iload_n 1, 1) := by decide +kernel
theorem dX11_isUnder_26 : decode cX11_isUnder 26 = .ok (.if_icmp .ne 5, 3) := by decide +kernel
theorem dX11_isUnder_29 : decode cX11_isUnder 29 = .ok (.iconst 1, 1) := by decide +kernel
theorem dX11_isUnder_30 : decode cX11_isUnder 30 = .ok (.ireturn, 1) := by decide +kernel
theorem dX11_isUnder_31 : decode cX11_isUnder 31 = .ok (.getstatic 336, 3) := by decide +kernel
theorem dX11_isUnder_34 : decode cX11_isUnder 34 = .ok (.iload_n 2, 1) := by decide +kernel
theorem dX11_isUnder_35 : decode cX11_isUnder 35 = .ok (.iaload, 1) := by decide +kernel
theorem dX11_isUnder_36 : decode cX11_isUnder 36 = .ok (.istore_n 2, 1) := by decide +kernel
theorem dX11_isUnder_37 : decode cX11_isUnder 37 = .ok (.iinc 3 1, 3) := by decide +kernel
theorem dX11_isUnder_40 : decode cX11_isUnder 40 = .ok (.goto (-36), 3) := by decide +kernel
theorem dX11_isUnder_43 : decode cX11_isUnder 43 = .ok (.iconst 0, 1) := by decide +kernel
theorem dX11_isUnder_44 : decode cX11_isUnder 44 = .ok (.ireturn, 1) := by decide +kernel
theorem dX11_isWithin_0 : decode cX11_isWithin 0 = .ok (.iload_n 0, 1) := by decide +kernel
theorem dX11_isWithin_1 : decode cX11_isWithin 1 = .ok (.iload_n 1, 1) := by decide +kernel
theorem dX11_isWithin_2 : decode cX11_isWithin 2 = .ok (.if_icmp .lt 12, 3) := by decide +kernel
theorem dX11_isWithin_5 : decode cX11_isWithin 5 = .ok (.iload_n 0, 1) := by decide +kernel
theorem dX11_isWithin_6 : decode cX11_isWithin 6 = .ok (.iload_n 2, 1) := by decide +kernel
theorem dX11_isWithin_7 : decode cX11_isWithin 7 = .ok (.if_icmp .gt 7, 3) := by decide +kernel
theorem dX11_isWithin_10 : decode cX11_isWithin 10 = .ok (.iconst 1, 1) := by decide +kernel
theorem dX11_isWithin_11 : decode cX11_isWithin 11 = .ok (.goto 4, 3) := by decide +kernel
theorem dX11_isWithin_14 : decode cX11_isWithin 14 = .ok (.iconst 0, 1) := by decide +kernel
theorem dX11_isWithin_15 : decode cX11_isWithin 15 = .ok (.ireturn, 1) := by decide +kernel
theorem dX11_isZeroOrOne_0 : decode cX11_isZeroOrOne 0 = .ok (.iload_n 0, 1) := by decide +kernel
theorem dX11_isZeroOrOne_1 : decode cX11_isZeroOrOne 1 = .ok (.ifCond .eq 8, 3) := by decide +kernel
theorem dX11_isZeroOrOne_4 : decode cX11_isZeroOrOne 4 = .ok (.iload_n 0, 1) := by decide +kernel
theorem dX11_isZeroOrOne_5 : decode cX11_isZeroOrOne 5 = .ok (.iconst 1, 1) := by decide +kernel
theorem dX11_isZeroOrOne_6 : decode cX11_isZeroOrOne 6 = .ok (.if_icmp .ne 7, 3) := by decide +kernel
theorem dX11_isZeroOrOne_9 : decode cX11_isZeroOrOne 9 = .ok (.iconst 1, 1) := by decide +kernel
theorem dX11_isZeroOrOne_10 : decode cX11_isZeroOrOne 10 = .ok (.goto 4, 3) := by decide +kernel
theorem dX11_isZeroOrOne_13 : decode cX11_isZeroOrOne 13 = .ok (.iconst 0, 1) := by decide +kernel
theorem dX11_isZeroOrOne_14 : decode cX11_isZeroOrOne 14 = .ok (.ireturn, 1) := by decide +kernel
theorem dX11_isHour_0 : decode cX11_isHour 0 = .ok (.iload_n 0, 1) := by decide +kernel
theorem dX11_isHour_1 : decode cX11_isHour 1 = .ok (.ifCond .lt 13, 3) := by decide +kernel
theorem dX11_isHour_4 : decode cX11_isHour 4 = .ok (.iload_n 0, 1) := by decide +kernel
theorem dX11_isHour_5 : decode cX11_isHour 5 = .ok (.bipush 10, 2) := by decide +kernel
theorem dX11_isHour_7 : decode cX11_isHour 7 = .ok (.if_icmp .ge 7, 3) := by decide +kernel
theorem dX11_isHour_10 : decode cX11_isHour 10 = .ok (.iconst 1, 1) := by decide +kernel
theorem dX11_isHour_11 : decode cX11_isHour 11 = .ok (.goto 4, 3) := by decide +kernel
theorem dX11_isHour_14 : decode cX11_isHour 14 = .ok (.iconst 0, 1) := by decide +kernel
theorem dX11_isHour_15 : decode cX11_isHour 15 = .ok (.ireturn, 1) := by decide +kernel
theorem dX11_isSheet_0 : decode cX11_isSheet 0 = .ok (.iload_n 0, 1) := by decide +kernel
theorem dX11_isSheet_1 : decode cX11_isSheet 1 = .ok (.ifCond .lt 12, 3) := by decide +kernel
theorem dX11_isSheet_4 : decode cX11_isSheet 4 = .ok (.iload_n 0, 1) := by decide +kernel
theorem dX11_isSheet_5 : decode cX11_isSheet 5 = .ok (.iconst 4, 1) := by decide +kernel
theorem dX11_isSheet_6 : decode cX11_isSheet 6 = .ok (.if_icmp .ge 7, 3) := by decide +kernel
theorem dX11_isSheet_9 : decode cX11_isSheet 9 = .ok (.iconst 1, 1) := by decide +kernel
theorem dX11_isSheet_10 : decode cX11_isSheet 10 = .ok (.goto 4, 3) := by decide +kernel
theorem dX11_isSheet_13 : decode cX11_isSheet 13 = .ok (.iconst 0, 1) := by decide +kernel
theorem dX11_isSheet_14 : decode cX11_isSheet 14 = .ok (.ireturn, 1) := by decide +kernel
theorem dX11_bounded_0 : decode cX11_bounded 0 = .ok (.iconst 0, 1) := by decide +kernel
theorem dX11_bounded_1 : decode cX11_bounded 1 = .ok (.iload_n 0, 1) := by decide +kernel
theorem dX11_bounded_2 : decode cX11_bounded 2 = .ok (.iload_n 1, 1) := by decide +kernel
theorem dX11_bounded_3 : decode cX11_bounded 3 = .ok (.invokestatic 339, 3) := by decide +kernel
theorem dX11_bounded_6 : decode cX11_bounded 6 = .ok (.invokestatic 345, 3) := by decide +kernel
theorem dX11_bounded_9 : decode cX11_bounded 9 = .ok (.ireturn, 1) := by decide +kernel
theorem dJ11_isValidCodePoint_9a6ad_0 : decode cJ11_isValidCodePoint_9a6ad 0 = .ok (.iload_n 0, 1) := by decide +kernel
theorem dJ11_isValidCodePoint_9a6ad_1 : decode cJ11_isValidCodePoint_9a6ad 1 = .ok (.bipush 16, 2) := by decide +kernel
theorem dJ11_isValidCodePoint_9a6ad_3 : decode cJ11_isValidCodePoint_9a6ad 3 = .ok (.iushr, 1) := by decide +kernel
theorem dJ11_isValidCodePoint_9a6ad_4 : decode cJ11_isValidCodePoint_9a6ad 4 = .ok (.istore_n 1, 1) := by decide +kernel
theorem dJ11_isValidCodePoint_9a6ad_5 : decode cJ11_isValidCodePoint_9a6ad 5 = .ok (.iload_n 1, 1) := by decide +kernel
theorem dJ11_isValidCodePoint_9a6ad_6 : decode cJ11_isValidCodePoint_9a6ad 6 = .ok (.bipush 17, 2) := by decide +kernel
theorem dJ11_isValidCodePoint_9a6ad_8 : decode cJ11_isValidCodePoint_9a6ad 8 = .ok (.if_icmp .ge 7, 3) := by decide +kernel
theorem dJ11_isValidCodePoint_9a6ad_11 : decode cJ11_isValidCodePoint_9a6ad 11 = .ok (.iconst 1, 1) := by decide +kernel
theorem dJ11_isValidCodePoint_9a6ad_12 : decode cJ11_isValidCodePoint_9a6ad 12 = .ok (.goto 4, 3) := by decide +kernel
theorem dJ11_isValidCodePoint_9a6ad_15 : decode cJ11_isValidCodePoint_9a6ad 15 = .ok (.iconst 0, 1) := by decide +kernel
theorem dJ11_isValidCodePoint_9a6ad_16 : decode cJ11_isValidCodePoint_9a6ad 16 = .ok (.ireturn, 1) := by decide +kernel
theorem dJ11_highSurrogate_5068e_0 : decode cJ11_highSurrogate_5068e 0 = .ok (.iload_n 0, 1) := by decide +kernel
theorem dJ11_highSurrogate_5068e_1 : decode cJ11_highSurrogate_5068e 1 = .ok (.bipush 10, 2) := by decide +kernel
theorem dJ11_highSurrogate_5068e_3 : decode cJ11_highSurrogate_5068e 3 = .ok (.iushr, 1) := by decide +kernel
theorem dJ11_highSurrogate_5068e_4 : decode cJ11_highSurrogate_5068e 4 = .ok (.ldc 110, 2) := by decide +kernel
theorem dJ11_highSurrogate_5068e_6 : decode cJ11_highSurrogate_5068e 6 = .ok (.iadd, 1) := by decide +kernel
theorem dJ11_highSurrogate_5068e_7 : decode cJ11_highSurrogate_5068e 7 = .ok (.i2c, 1) := by decide +kernel
theorem dJ11_highSurrogate_5068e_8 : decode cJ11_highSurrogate_5068e 8 = .ok (.ireturn, 1) := by decide +kernel
theorem dJ11_lowSurrogate_5068e_0 : decode cJ11_lowSurrogate_5068e 0 = .ok (.iload_n 0, 1) := by decide +kernel
theorem dJ11_lowSurrogate_5068e_1 : decode cJ11_lowSurrogate_5068e 1 = .ok (.sipush 1023, 3) := by decide +kernel
theorem dJ11_lowSurrogate_5068e_4 : decode cJ11_lowSurrogate_5068e 4 = .ok (.iand, 1) := by decide +kernel
theorem dJ11_lowSurrogate_5068e_5 : decode cJ11_lowSurrogate_5068e 5 = .ok (.ldc 76, 2) := by decide +kernel
theorem dJ11_lowSurrogate_5068e_7 : decode cJ11_lowSurrogate_5068e 7 = .ok (.iadd, 1) := by decide +kernel
theorem dJ11_lowSurrogate_5068e_8 : decode cJ11_lowSurrogate_5068e 8 = .ok (.i2c, 1) := by decide +kernel
theorem dJ11_lowSurrogate_5068e_9 : decode cJ11_lowSurrogate_5068e 9 = .ok (.ireturn, 1) := by decide +kernel
theorem dJ6_bitCount_0f7a4_0 : decode cJ6_bitCount_0f7a4 0 = .ok (.iload_n 0, 1) := by decide +kernel
theorem dJ6_bitCount_0f7a4_1 : decode cJ6_bitCount_0f7a4 1 = .ok (.iload_n 0, 1) := by decide +kernel
theorem dJ6_bitCount_0f7a4_2 : decode cJ6_bitCount_0f7a4 2 = .ok (.iconst 1, 1) := by decide +kernel
theorem dJ6_bitCount_0f7a4_3 : decode cJ6_bitCount_0f7a4 3 = .ok (.iushr, 1) := by decide +kernel
theorem dJ6_bitCount_0f7a4_4 : decode cJ6_bitCount_0f7a4 4 = .ok (.ldc_w 265, 3) := by decide +kernel
theorem dJ6_bitCount_0f7a4_7 : decode cJ6_bitCount_0f7a4 7 = .ok (.iand, 1) := by decide +kernel
theorem dJ6_bitCount_0f7a4_8 : decode cJ6_bitCount_0f7a4 8 = .ok (.isub, 1) := by decide +kernel
theorem dJ6_bitCount_0f7a4_9 : decode cJ6_bitCount_0f7a4 9 = .ok (.istore_n 0, 1) := by decide +kernel
theorem dJ6_bitCount_0f7a4_10 : decode cJ6_bitCount_0f7a4 10 = .ok (.iload_n 0, 1) := by decide +kernel
theorem dJ6_bitCount_0f7a4_11 : decode cJ6_bitCount_0f7a4 11 = .ok (.ldc_w 266, 3) := by decide +kernel
theorem dJ6_bitCount_0f7a4_14 : decode cJ6_bitCount_0f7a4 14 = .ok (.iand, 1) := by decide +kernel
theorem dJ6_bitCount_0f7a4_15 : decode cJ6_bitCount_0f7a4 15 = .ok (.iload_n 0, 1) := by decide +kernel
theorem dJ6_bitCount_0f7a4_16 : decode cJ6_bitCount_0f7a4 16 = .ok (.iconst 2, 1) := by decide +kernel
theorem dJ6_bitCount_0f7a4_17 : decode cJ6_bitCount_0f7a4 17 = .ok (.iushr, 1) := by decide +kernel
theorem dJ6_bitCount_0f7a4_18 : decode cJ6_bitCount_0f7a4 18 = .ok (.ldc_w 266, 3) := by decide +kernel
theorem dJ6_bitCount_0f7a4_21 : decode cJ6_bitCount_0f7a4 21 = .ok (.iand, 1) := by decide +kernel
theorem dJ6_bitCount_0f7a4_22 : decode cJ6_bitCount_0f7a4 22 = .ok (.iadd, 1) := by decide +kernel
theorem dJ6_bitCount_0f7a4_23 : decode cJ6_bitCount_0f7a4 23 = .ok (.istore_n 0, 1) := by decide +kernel
theorem dJ6_bitCount_0f7a4_24 : decode cJ6_bitCount_0f7a4 24 = .ok (.iload_n 0, 1) := by decide +kernel
theorem dJ6_bitCount_0f7a4_25 : decode cJ6_bitCount_0f7a4 25 = .ok (.iload_n 0, 1) := by decide +kernel
theorem dJ6_bitCount_0f7a4_26 : decode cJ6_bitCount_0f7a4 26 = .ok (.iconst 4, 1) := by decide +kernel
theorem dJ6_bitCount_0f7a4_27 : decode cJ6_bitCount_0f7a4 27 = .ok (.iushr, 1) := by decide +kernel
theorem dJ6_bitCount_0f7a4_28 : decode cJ6_bitCount_0f7a4 28 = .ok (.iadd, 1) := by decide +kernel
theorem dJ6_bitCount_0f7a4_29 : decode cJ6_bitCount_0f7a4 29 = .ok (.ldc_w 267, 3) := by decide +kernel
theorem dJ6_bitCount_0f7a4_32 : decode cJ6_bitCount_0f7a4 32 = .ok (.iand, 1) := by decide +kernel
theorem dJ6_bitCount_0f7a4_33 : decode cJ6_bitCount_0f7a4 33 = .ok (.istore_n 0, 1) := by decide +kernel
theorem dJ6_bitCount_0f7a4_34 : decode cJ6_bitCount_0f7a4 34 = .ok (.iload_n 0, 1) := by decide +kernel
theorem dJ6_bitCount_0f7a4_35 : decode cJ6_bitCount_0f7a4 35 = .ok (.iload_n 0, 1) := by decide +kernel
theorem dJ6_bitCount_0f7a4_36 : decode cJ6_bitCount_0f7a4 36 = .ok (.bipush 8, 2) := by decide +kernel
theorem dJ6_bitCount_0f7a4_38 : decode cJ6_bitCount_0f7a4 38 = .ok (.iushr, 1) := by decide +kernel
theorem dJ6_bitCount_0f7a4_39 : decode cJ6_bitCount_0f7a4 39 = .ok (.iadd, 1) := by decide +kernel
theorem dJ6_bitCount_0f7a4_40 : decode cJ6_bitCount_0f7a4 40 = .ok (.istore_n 0, 1) := by decide +kernel
theorem dJ6_bitCount_0f7a4_41 : decode cJ6_bitCount_0f7a4 41 = .ok (.iload_n 0, 1) := by decide +kernel
theorem dJ6_bitCount_0f7a4_42 : decode cJ6_bitCount_0f7a4 42 = .ok (.iload_n 0, 1) := by decide +kernel
theorem dJ6_bitCount_0f7a4_43 : decode cJ6_bitCount_0f7a4 43 = .ok (.bipush 16, 2) := by decide +kernel
theorem dJ6_bitCount_0f7a4_45 : decode cJ6_bitCount_0f7a4 45 = .ok (.iushr, 1) := by decide +kernel
theorem dJ6_bitCount_0f7a4_46 : decode cJ6_bitCount_0f7a4 46 = .ok (.iadd, 1) := by decide +kernel
theorem dJ6_bitCount_0f7a4_47 : decode cJ6_bitCount_0f7a4 47 = .ok (.istore_n 0, 1) := by decide +kernel
theorem dJ6_bitCount_0f7a4_48 : decode cJ6_bitCount_0f7a4 48 = .ok (.iload_n 0, 1) := by decide +kernel
theorem dJ6_bitCount_0f7a4_49 : decode cJ6_bitCount_0f7a4 49 = .ok (.bipush 63, 2) := by decide +kernel
theorem dJ6_bitCount_0f7a4_51 : decode cJ6_bitCount_0f7a4 51 = .ok (.iand, 1) := by decide +kernel
theorem dJ6_bitCount_0f7a4_52 : decode cJ6_bitCount_0f7a4 52 = .ok (.ireturn, 1) := by decide +kernel
theorem dJ9_max_7cf53_0 : decode cJ9_max_7cf53 0 = .ok (.iload_n 0, 1) := by decide +kernel
theorem dJ9_max_7cf53_1 : decode cJ9_max_7cf53 1 = .ok (.iload_n 1, 1) := by decide +kernel
theorem dJ9_max_7cf53_2 : decode cJ9_max_7cf53 2 = .ok (.if_icmp .lt 7, 3) := by decide +kernel
theorem dJ9_max_7cf53_5 : decode cJ9_max_7cf53 5 = .ok (.iload_n 0, 1) := by decide +kernel
theorem dJ9_max_7cf53_6 : decode cJ9_max_7cf53 6 = .ok (.goto 4, 3) := by decide +kernel
theorem dJ9_max_7cf53_9 : decode cJ9_max_7cf53 9 = .ok (.iload_n 1, 1) := by decide +kernel
theorem dJ9_max_7cf53_10 : decode cJ9_max_7cf53 10 = .ok (.ireturn, 1) := by decide +kernel
theorem dJ9_min_7cf53_0 : decode cJ9_min_7cf53 0 = .ok (.iload_n 0, 1) := by decide +kernel
theorem dJ9_min_7cf53_1 : decode cJ9_min_7cf53 1 = .ok (.iload_n 1, 1) := by decide +kernel
theorem dJ9_min_7cf53_2 : decode cJ9_min_7cf53 2 = .ok (.if_icmp .gt 7, 3) := by decide +kernel
theorem dJ9_min_7cf53_5 : decode cJ9_min_7cf53 5 = .ok (.iload_n 0, 1) := by decide +kernel
theorem dJ9_min_7cf53_6 : decode cJ9_min_7cf53 6 = .ok (.goto 4, 3) := by decide +kernel
theorem dJ9_min_7cf53_9 : decode cJ9_min_7cf53 9 = .ok (.iload_n 1, 1) := by decide +kernel
theorem dJ9_min_7cf53_10 : decode cJ9_min_7cf53 10 = .ok (.ireturn, 1) := by decide +kernel
theorem dJ0_length_8abf5_0 : decode cJ0_length_8abf5 0 = .ok (.aload_n 0, 1) := by decide +kernel
theorem dJ0_length_8abf5_1 : decode cJ0_length_8abf5 1 = .ok (.getfield 9, 3) := by decide +kernel
theorem dJ0_length_8abf5_4 : decode cJ0_length_8abf5 4 = .ok (.arraylength, 1) := by decide +kernel
theorem dJ0_length_8abf5_5 : decode cJ0_length_8abf5 5 = .ok (.aload_n 0, 1) := by decide +kernel
theorem dJ0_length_8abf5_6 : decode cJ0_length_8abf5 6 = .ok (.invokevirtual 335, 3) := by decide +kernel
theorem dJ0_length_8abf5_9 : decode cJ0_length_8abf5 9 = .ok (.ishr, 1) := by decide +kernel
theorem dJ0_length_8abf5_10 : decode cJ0_length_8abf5 10 = .ok (.ireturn, 1) := by decide +kernel
theorem dJ0_charAt_5068e_0 : decode cJ0_charAt_5068e 0 = .ok (.aload_n 0, 1) := by decide +kernel
theorem dJ0_charAt_5068e_1 : decode cJ0_charAt_5068e 1 = .ok (.invokevirtual 492, 3) := by decide +kernel
theorem dJ0_charAt_5068e_4 : decode cJ0_charAt_5068e 4 = .ok (.ifCond .eq 12, 3) := by decide +kernel
theorem dJ0_charAt_5068e_7 : decode cJ0_charAt_5068e 7 = .ok (.aload_n 0, 1) := by decide +kernel
theorem dJ0_charAt_5068e_8 : decode cJ0_charAt_5068e 8 = .ok (.getfield 9, 3) := by decide +kernel
theorem dJ0_charAt_5068e_11 : decode cJ0_charAt_5068e 11 = .ok (.iload_n 1, 1) := by decide +kernel
theorem dJ0_charAt_5068e_12 : decode cJ0_charAt_5068e 12 = .ok (.invokestatic 495, 3) := by decide +kernel
theorem dJ0_charAt_5068e_15 : decode cJ0_charAt_5068e 15 = .ok (.ireturn, 1) := by decide +kernel
theorem dJ0_charAt_5068e_16 : decode cJ0_charAt_5068e 16 = .ok (.aload_n 0, 1) := by decide +kernel
theorem dJ0_charAt_5068e_17 : decode cJ0_charAt_5068e 17 = .ok (.getfield 9, 3) := by decide +kernel
theorem dJ0_charAt_5068e_20 : decode cJ0_charAt_5068e 20 = .ok (.iload_n 1, 1) := by decide +kernel
theorem dJ0_charAt_5068e_21 : decode cJ0_charAt_5068e 21 = .ok (.invokestatic 498, 3) := by decide +kernel
theorem dJ0_charAt_5068e_24 : decode cJ0_charAt_5068e 24 = .ok (.ireturn, 1) := by decide +kernel
theorem dJ0_indexOf_0f7a4_0 : decode cJ0_indexOf_0f7a4 0 = .ok (.aload_n 0, 1) := by decide +kernel
theorem dJ0_indexOf_0f7a4_1 : decode cJ0_indexOf_0f7a4 1 = .ok (.iload_n 1, 1) := by decide +kernel
theorem dJ0_indexOf_0f7a4_2 : decode cJ0_indexOf_0f7a4 2 = .ok (.iconst 0, 1) := by decide +kernel
theorem dJ0_indexOf_0f7a4_3 : decode cJ0_indexOf_0f7a4 3 = .ok (.invokevirtual 633, 3) := by decide +kernel
theorem dJ0_indexOf_0f7a4_6 : decode cJ0_indexOf_0f7a4 6 = .ok (.ireturn, 1) := by decide +kernel
theorem dJ0_indexOf_7cf53_0 : decode cJ0_indexOf_7cf53 0 = .ok (.aload_n 0, 1) := by decide +kernel
theorem dJ0_indexOf_7cf53_1 : decode cJ0_indexOf_7cf53 1 = .ok (.invokevirtual 492, 3) := by decide +kernel
theorem dJ0_indexOf_7cf53_4 : decode cJ0_indexOf_7cf53 4 = .ok (.ifCond .eq 19, 3) := by decide +kernel
theorem dJ0_indexOf_7cf53_7 : decode cJ0_indexOf_7cf53 7 = .ok (.aload_n 0, 1) := by decide +kernel
theorem dJ0_indexOf_7cf53_8 : decode cJ0_indexOf_7cf53 8 = .ok (.getfield 9, 3) := by decide +kernel
theorem dJ0_indexOf_7cf53_11 : decode cJ0_indexOf_7cf53 11 = .ok (.iload_n 1, 1) := by decide +kernel
theorem dJ0_indexOf_7cf53_12 : decode cJ0_indexOf_7cf53 12 = .ok (.iload_n 2, 1) := by decide +kernel
theorem dJ0_indexOf_7cf53_13 : decode cJ0_indexOf_7cf53 13 = .ok (.aload_n 0, 1) := by decide +kernel
theorem dJ0_indexOf_7cf53_14 : decode cJ0_indexOf_7cf53 14 = .ok (.invokevirtual 505, 3) := by decide +kernel
theorem dJ0_indexOf_7cf53_17 : decode cJ0_indexOf_7cf53 17 = .ok (.invokestatic 637, 3) := by decide +kernel
theorem dJ0_indexOf_7cf53_20 : decode cJ0_indexOf_7cf53 20 = .ok (.goto 16, 3) := by decide +kernel
theorem dJ0_indexOf_7cf53_23 : decode cJ0_indexOf_7cf53 23 = .ok (.aload_n 0, 1) := by decide +kernel
theorem dJ0_indexOf_7cf53_24 : decode cJ0_indexOf_7cf53 24 = .ok (.getfield 9, 3) := by decide +kernel
theorem dJ0_indexOf_7cf53_27 : decode cJ0_indexOf_7cf53 27 = .ok (.iload_n 1, 1) := by decide +kernel
theorem dJ0_indexOf_7cf53_28 : decode cJ0_indexOf_7cf53 28 = .ok (.iload_n 2, 1) := by decide +kernel
theorem dJ0_indexOf_7cf53_29 : decode cJ0_indexOf_7cf53 29 = .ok (.aload_n 0, 1) := by decide +kernel
theorem dJ0_indexOf_7cf53_30 : decode cJ0_indexOf_7cf53 30 = .ok (.invokevirtual 505, 3) := by decide +kernel
theorem dJ0_indexOf_7cf53_33 : decode cJ0_indexOf_7cf53 33 = .ok (.invokestatic 640, 3) := by decide +kernel
theorem dJ0_indexOf_7cf53_36 : decode cJ0_indexOf_7cf53 36 = .ok (.ireturn, 1) := by decide +kernel
theorem dJ0_coder_7d493_0 : decode cJ0_coder_7d493 0 = .ok (.getstatic 38, 3) := by decide +kernel
theorem dJ0_coder_7d493_3 : decode cJ0_coder_7d493 3 = .ok (.ifCond .eq 10, 3) := by decide +kernel
theorem dJ0_coder_7d493_6 : decode cJ0_coder_7d493 6 = .ok (.aload_n 0, 1) := by decide +kernel
theorem dJ0_coder_7d493_7 : decode cJ0_coder_7d493 7 = .ok (.getfield 15, 3) := by decide +kernel
theorem dJ0_coder_7d493_10 : decode cJ0_coder_7d493 10 = .ok (.goto 4, 3) := by decide +kernel
theorem dJ0_coder_7d493_13 : decode cJ0_coder_7d493 13 = .ok (.iconst 1, 1) := by decide +kernel
theorem dJ0_coder_7d493_14 : decode cJ0_coder_7d493 14 = .ok (.ireturn, 1) := by decide +kernel
theorem dJ0_isLatin1_aae02_0 : decode cJ0_isLatin1_aae02 0 = .ok (.getstatic 38, 3) := by decide +kernel
theorem dJ0_isLatin1_aae02_3 : decode cJ0_isLatin1_aae02 3 = .ok (.ifCond .eq 14, 3) := by decide +kernel
theorem dJ0_isLatin1_aae02_6 : decode cJ0_isLatin1_aae02 6 = .ok (.aload_n 0, 1) := by decide +kernel
theorem dJ0_isLatin1_aae02_7 : decode cJ0_isLatin1_aae02 7 = .ok (.getfield 15, 3) := by decide +kernel
theorem dJ0_isLatin1_aae02_10 : decode cJ0_isLatin1_aae02 10 = .ok (.ifCond .ne 7, 3) := by decide +kernel
theorem dJ0_isLatin1_aae02_13 : decode cJ0_isLatin1_aae02 13 = .ok (.iconst 1, 1) := by decide +kernel
theorem dJ0_isLatin1_aae02_14 : decode cJ0_isLatin1_aae02 14 = .ok (.goto 4, 3) := by decide +kernel
theorem dJ0_isLatin1_aae02_17 : decode cJ0_isLatin1_aae02 17 = .ok (.iconst 0, 1) := by decide +kernel
theorem dJ0_isLatin1_aae02_18 : decode cJ0_isLatin1_aae02 18 = .ok (.ireturn, 1) := by decide +kernel
theorem dJ0_checkIndex_df160_0 : decode cJ0_checkIndex_df160 0 = .ok (.iload_n 0, 1) := by decide +kernel
theorem dJ0_checkIndex_df160_1 : decode cJ0_checkIndex_df160 1 = .ok (.iload_n 1, 1) := by decide +kernel
theorem dJ0_checkIndex_df160_2 : decode cJ0_checkIndex_df160 2 = .ok (.getstatic 1053, 3) := by decide +kernel
theorem dJ0_checkIndex_df160_5 : decode cJ0_checkIndex_df160 5 = .ok (.invokestatic 1059, 3) := by decide +kernel
theorem dJ0_checkIndex_df160_8 : decode cJ0_checkIndex_df160 8 = .ok (.pop, 1) := by decide +kernel
theorem dJ0_checkIndex_df160_9 : decode cJ0_checkIndex_df160 9 = .ok (.return_, 1) := by decide +kernel
theorem dJ0_checkBoundsBeginEnd_23922_0 : decode cJ0_checkBoundsBeginEnd_23922 0 = .ok (.iload_n 0, 1) := by decide +kernel
theorem dJ0_checkBoundsBeginEnd_23922_1 : decode cJ0_checkBoundsBeginEnd_23922 1 = .ok (.iload_n 1, 1) := by decide +kernel
theorem dJ0_checkBoundsBeginEnd_23922_2 : decode cJ0_checkBoundsBeginEnd_23922 2 = .ok (.iload_n 2, 1) := by decide +kernel
theorem dJ0_checkBoundsBeginEnd_23922_3 : decode cJ0_checkBoundsBeginEnd_23922 3 = .ok (.getstatic 1053, 3) := by decide +kernel
theorem dJ0_checkBoundsBeginEnd_23922_6 : decode cJ0_checkBoundsBeginEnd_23922 6 = .ok (.invokestatic 1062, 3) := by decide +kernel
theorem dJ0_checkBoundsBeginEnd_23922_9 : decode cJ0_checkBoundsBeginEnd_23922 9 = .ok (.pop, 1) := by decide +kernel
theorem dJ0_checkBoundsBeginEnd_23922_10 : decode cJ0_checkBoundsBeginEnd_23922 10 = .ok (.return_, 1) := by decide +kernel
theorem dJ1_charAt_3b067_0 : decode cJ1_charAt_3b067 0 = .ok (.iload_n 1, 1) := by decide +kernel
theorem dJ1_charAt_3b067_1 : decode cJ1_charAt_3b067 1 = .ok (.aload_n 0, 1) := by decide +kernel
theorem dJ1_charAt_3b067_2 : decode cJ1_charAt_3b067 2 = .ok (.arraylength, 1) := by decide +kernel
theorem dJ1_charAt_3b067_3 : decode cJ1_charAt_3b067 3 = .ok (.invokestatic 9, 3) := by decide +kernel
theorem dJ1_charAt_3b067_6 : decode cJ1_charAt_3b067 6 = .ok (.aload_n 0, 1) := by decide +kernel
theorem dJ1_charAt_3b067_7 : decode cJ1_charAt_3b067 7 = .ok (.iload_n 1, 1) := by decide +kernel
theorem dJ1_charAt_3b067_8 : decode cJ1_charAt_3b067 8 = .ok (.baload, 1) := by decide +kernel
theorem dJ1_charAt_3b067_9 : decode cJ1_charAt_3b067 9 = .ok (.sipush 255, 3) := by decide +kernel
theorem dJ1_charAt_3b067_12 : decode cJ1_charAt_3b067 12 = .ok (.iand, 1) := by decide +kernel
theorem dJ1_charAt_3b067_13 : decode cJ1_charAt_3b067 13 = .ok (.i2c, 1) := by decide +kernel
theorem dJ1_charAt_3b067_14 : decode cJ1_charAt_3b067 14 = .ok (.ireturn, 1) := by decide +kernel
theorem dJ1_canEncode_9a6ad_0 : decode cJ1_canEncode_9a6ad 0 = .ok (.iload_n 0, 1) := by decide +kernel
theorem dJ1_canEncode_9a6ad_1 : decode cJ1_canEncode_9a6ad 1 = .ok (.ifCond .lt 14, 3) := by decide +kernel
theorem dJ1_canEncode_9a6ad_4 : decode cJ1_canEncode_9a6ad 4 = .ok (.iload_n 0, 1) := by decide +kernel
theorem dJ1_canEncode_9a6ad_5 : decode cJ1_canEncode_9a6ad 5 = .ok (.sipush 255, 3) := by decide +kernel
theorem dJ1_canEncode_9a6ad_8 : decode cJ1_canEncode_9a6ad 8 = .ok (.if_icmp .gt 7, 3) := by decide +kernel
theorem dJ1_canEncode_9a6ad_11 : decode cJ1_canEncode_9a6ad 11 = .ok (.iconst 1, 1) := by decide +kernel
theorem dJ1_canEncode_9a6ad_12 : decode cJ1_canEncode_9a6ad 12 = .ok (.goto 4, 3) := by decide +kernel
theorem dJ1_canEncode_9a6ad_15 : decode cJ1_canEncode_9a6ad 15 = .ok (.iconst 0, 1) := by decide +kernel
theorem dJ1_canEncode_9a6ad_16 : decode cJ1_canEncode_9a6ad 16 = .ok (.ireturn, 1) := by decide +kernel
theorem dJ1_indexOf_4cfef_0 : decode cJ1_indexOf_4cfef 0 = .ok (.iload_n 1, 1) := by decide +kernel
theorem dJ1_indexOf_4cfef_1 : decode cJ1_indexOf_4cfef 1 = .ok (.invokestatic 88, 3) := by decide +kernel
theorem dJ1_indexOf_4cfef_4 : decode cJ1_indexOf_4cfef 4 = .ok (.ifCond .ne 5, 3) := by decide +kernel
theorem dJ1_indexOf_4cfef_7 : decode cJ1_indexOf_4cfef 7 = .ok (.iconst (-1), 1) := by decide +kernel
theorem dJ1_indexOf_4cfef_8 : decode cJ1_indexOf_4cfef 8 = .ok (.ireturn, 1) := by decide +kernel
theorem dJ1_indexOf_4cfef_9 : decode cJ1_indexOf_4cfef 9 = .ok (.iload_n 2, 1) := by decide +kernel
theorem dJ1_indexOf_4cfef_10 : decode cJ1_indexOf_4cfef 10 = .ok (.iconst 0, 1) := by decide +kernel
theorem dJ1_indexOf_4cfef_11 : decode cJ1_indexOf_4cfef 11 = .ok (.invokestatic 92, 3) := by decide +kernel
theorem dJ1_indexOf_4cfef_14 : decode cJ1_indexOf_4cfef 14 = .ok (.istore_n 2, 1) := by decide +kernel
theorem dJ1_indexOf_4cfef_15 : decode cJ1_indexOf_4cfef 15 = .ok (.iload_n 3, 1) := by decide +kernel
theorem dJ1_indexOf_4cfef_16 : decode cJ1_indexOf_4cfef 16 = .ok (.aload_n 0, 1) := by decide +kernel
theorem dJ1_indexOf_4cfef_17 : decode cJ1_indexOf_4cfef 17 = .ok (.arraylength, 1) := by decide +kernel
theorem dJ1_indexOf_4cfef_18 : decode cJ1_indexOf_4cfef 18 = .ok (.invokestatic 38, 3) := by decide +kernel
theorem dJ1_indexOf_4cfef_21 : decode cJ1_indexOf_4cfef 21 = .ok (.istore_n 3, 1) := by decide +kernel
theorem dJ1_indexOf_4cfef_22 : decode cJ1_indexOf_4cfef 22 = .ok (.iload_n 2, 1) := by decide +kernel
theorem dJ1_indexOf_4cfef_23 : decode cJ1_indexOf_4cfef 23 = .ok (.iload_n 3, 1) := by decide +kernel
theorem dJ1_indexOf_4cfef_24 : decode cJ1_indexOf_4cfef 24 = .ok (.if_icmp .lt 5, 3) := by decide +kernel
theorem dJ1_indexOf_4cfef_27 : decode cJ1_indexOf_4cfef 27 = .ok (.iconst (-1), 1) := by decide +kernel
theorem dJ1_indexOf_4cfef_28 : decode cJ1_indexOf_4cfef 28 = .ok (.ireturn, 1) := by decide +kernel
theorem dJ1_indexOf_4cfef_29 : decode cJ1_indexOf_4cfef 29 = .ok (.aload_n 0, 1) := by decide +kernel
theorem dJ1_indexOf_4cfef_30 : decode cJ1_indexOf_4cfef 30 = .ok (.iload_n 1, 1) := by decide +kernel
theorem dJ1_indexOf_4cfef_31 : decode cJ1_indexOf_4cfef 31 = .ok (.iload_n 2, 1) := by decide +kernel
theorem dJ1_indexOf_4cfef_32 : decode cJ1_indexOf_4cfef 32 = .ok (.iload_n 3, 1) := by decide +kernel
theorem dJ1_indexOf_4cfef_33 : decode cJ1_indexOf_4cfef 33 = .ok (.invokestatic 95, 3) := by decide +kernel
theorem dJ1_indexOf_4cfef_36 : decode cJ1_indexOf_4cfef 36 = .ok (.ireturn, 1) := by decide +kernel
theorem dJ1_indexOfChar_4cfef_0 : decode cJ1_indexOfChar_4cfef 0 = .ok (.iload_n 1, 1) := by decide +kernel
theorem dJ1_indexOfChar_4cfef_1 : decode cJ1_indexOfChar_4cfef 1 = .ok (.i2b, 1) := by decide +kernel
theorem dJ1_indexOfChar_4cfef_2 : decode cJ1_indexOfChar_4cfef 2 = .ok (.istore 4, 2) := by decide +kernel
theorem dJ1_indexOfChar_4cfef_4 : decode cJ1_indexOfChar_4cfef 4 = .ok (.iload_n 2, 1) := by decide +kernel
theorem dJ1_indexOfChar_4cfef_5 : decode cJ1_indexOfChar_4cfef 5 = .ok (.istore 5, 2) := by decide +kernel
theorem dJ1_indexOfChar_4cfef_7 : decode cJ1_indexOfChar_4cfef 7 = .ok (.iload 5, 2) := by decide +kernel
theorem dJ1_indexOfChar_4cfef_9 : decode cJ1_indexOfChar_4cfef 9 = .ok (.iload_n 3, 1) := by decide +kernel
theorem dJ1_indexOfChar_4cfef_10 : decode cJ1_indexOfChar_4cfef 10 = .ok (.if_icmp .ge 21, 3) := by decide +kernel
theorem dJ1_indexOfChar_4cfef_13 : decode cJ1_indexOfChar_4cfef 13 = .ok (.aload_n 0, 1) := by decide +kernel
theorem dJ1_indexOfChar_4cfef_14 : decode cJ1_indexOfChar_4cfef 14 = .ok (.iload 5, 2) := by decide +kernel
theorem dJ1_indexOfChar_4cfef_16 : decode cJ1_indexOfChar_4cfef 16 = .ok (.baload, 1) := by decide +kernel
theorem dJ1_indexOfChar_4cfef_17 : decode cJ1_indexOfChar_4cfef 17 = .ok (.iload 4, 2) := by decide +kernel
theorem dJ1_indexOfChar_4cfef_19 : decode cJ1_indexOfChar_4cfef 19 = .ok (.if_icmp .ne 6, 3) := by decide +kernel
theorem dJ1_indexOfChar_4cfef_22 : decode cJ1_indexOfChar_4cfef 22 = .ok (.iload 5, 2) := by decide +kernel
theorem dJ1_indexOfChar_4cfef_24 : decode cJ1_indexOfChar_4cfef 24 = .ok (.ireturn, 1) := by decide +kernel
theorem dJ1_indexOfChar_4cfef_25 : decode cJ1_indexOfChar_4cfef 25 = .ok (.iinc 5 1, 3) := by decide +kernel
theorem dJ1_indexOfChar_4cfef_28 : decode cJ1_indexOfChar_4cfef 28 = .ok (.goto (-21), 3) := by decide +kernel
theorem dJ1_indexOfChar_4cfef_31 : decode cJ1_indexOfChar_4cfef 31 = .ok (.iconst (-1), 1) := by decide +kernel
theorem dJ1_indexOfChar_4cfef_32 : decode cJ1_indexOfChar_4cfef 32 = .ok (.ireturn, 1) := by decide +kernel
theorem dJ2_getChar_3b067_0 : decode cJ2_getChar_3b067 0 = .ok (.getstatic 44, 3) := by decide +kernel
theorem dJ2_getChar_3b067_3 : decode cJ2_getChar_3b067 3 = .ok (.ifCond .ne 25, 3) := by decide +kernel
theorem dJ2_getChar_3b067_6 : decode cJ2_getChar_3b067 6 = .ok (.iload_n 1, 1) := by decide +kernel
theorem dJ2_getChar_3b067_7 : decode cJ2_getChar_3b067 7 = .ok (.ifCond .lt 11, 3) := by decide +kernel
theorem dJ2_getChar_3b067_10 : decode cJ2_getChar_3b067 10 = .ok (.iload_n 1, 1) := by decide +kernel
theorem dJ2_getChar_3b067_11 : decode cJ2_getChar_3b067 11 = .ok (.aload_n 0, 1) := by decide +kernel
theorem dJ2_getChar_3b067_12 : decode cJ2_getChar_3b067 12 = .ok (.invokestatic 48, 3) := by decide +kernel
theorem dJ2_getChar_3b067_15 : decode cJ2_getChar_3b067 15 = .ok (.if_icmp .lt 13, 3) := by decide +kernel
theorem dJ2_getChar_3b067_18 : decode cJ2_getChar_3b067 18 = .ok (.new 52, 3) := by decide +kernel
theorem dJ2_getChar_3b067_21 : decode cJ2_getChar_3b067 21 = .ok (.dup, 1) := by decide +kernel
theorem dJ2_getChar_3b067_22 : decode cJ2_getChar_3b067 22 = .ok (.ldc 54, 2) := by decide +kernel
theorem dJ2_getChar_3b067_24 : decode cJ2_getChar_3b067 24 = .ok (.invokespecial 56, 3) := by decide +kernel
theorem dJ2_getChar_3b067_27 : decode cJ2_getChar_3b067 27 = .ok (.athrow, 1) := by decide +kernel
theorem dJ2_getChar_3b067_28 : decode cJ2_getChar_3b067 28 = .ok (.iload_n 1, 1) := by decide +kernel
theorem dJ2_getChar_3b067_29 : decode cJ2_getChar_3b067 29 = .ok (.iconst 1, 1) := by decide +kernel
theorem dJ2_getChar_3b067_30 : decode cJ2_getChar_3b067 30 = .ok (.ishl, 1) := by decide +kernel
theorem dJ2_getChar_3b067_31 : decode cJ2_getChar_3b067 31 = .ok (.istore_n 1, 1) := by decide +kernel
theorem dJ2_getChar_3b067_32 : decode cJ2_getChar_3b067 32 = .ok (.aload_n 0, 1) := by decide +kernel
theorem dJ2_getChar_3b067_33 : decode cJ2_getChar_3b067 33 = .ok (.iload_n 1, 1) := by decide +kernel
theorem dJ2_getChar_3b067_34 : decode cJ2_getChar_3b067 34 = .ok (.iinc 1 1, 3) := by decide +kernel
theorem dJ2_getChar_3b067_37 : decode cJ2_getChar_3b067 37 = .ok (.baload, 1) := by decide +kernel
theorem dJ2_getChar_3b067_38 : decode cJ2_getChar_3b067 38 = .ok (.sipush 255, 3) := by decide +kernel
theorem dJ2_getChar_3b067_41 : decode cJ2_getChar_3b067 41 = .ok (.iand, 1) := by decide +kernel
theorem dJ2_getChar_3b067_42 : decode cJ2_getChar_3b067 42 = .ok (.getstatic 59, 3) := by decide +kernel
theorem dJ2_getChar_3b067_45 : decode cJ2_getChar_3b067 45 = .ok (.ishl, 1) := by decide +kernel
theorem dJ2_getChar_3b067_46 : decode cJ2_getChar_3b067 46 = .ok (.aload_n 0, 1) := by decide +kernel
theorem dJ2_getChar_3b067_47 : decode cJ2_getChar_3b067 47 = .ok (.iload_n 1, 1) := by decide +kernel
theorem dJ2_getChar_3b067_48 : decode cJ2_getChar_3b067 48 = .ok (.baload, 1) := by decide +kernel
theorem dJ2_getChar_3b067_49 : decode cJ2_getChar_3b067 49 = .ok (.sipush 255, 3) := by decide +kernel
theorem dJ2_getChar_3b067_52 : decode cJ2_getChar_3b067 52 = .ok (.iand, 1) := by decide +kernel
theorem dJ2_getChar_3b067_53 : decode cJ2_getChar_3b067 53 = .ok (.getstatic 63, 3) := by decide +kernel
theorem dJ2_getChar_3b067_56 : decode cJ2_getChar_3b067 56 = .ok (.ishl, 1) := by decide +kernel
theorem dJ2_getChar_3b067_57 : decode cJ2_getChar_3b067 57 = .ok (.ior, 1) := by decide +kernel
theorem dJ2_getChar_3b067_58 : decode cJ2_getChar_3b067 58 = .ok (.i2c, 1) := by decide +kernel
theorem dJ2_getChar_3b067_59 : decode cJ2_getChar_3b067 59 = .ok (.ireturn, 1) := by decide +kernel
theorem dJ2_length_9d52b_0 : decode cJ2_length_9d52b 0 = .ok (.aload_n 0, 1) := by decide +kernel
theorem dJ2_length_9d52b_1 : decode cJ2_length_9d52b 1 = .ok (.arraylength, 1) := by decide +kernel
theorem dJ2_length_9d52b_2 : decode cJ2_length_9d52b 2 = .ok (.iconst 1, 1) := by decide +kernel
theorem dJ2_length_9d52b_3 : decode cJ2_length_9d52b 3 = .ok (.ishr, 1) := by decide +kernel
theorem dJ2_length_9d52b_4 : decode cJ2_length_9d52b 4 = .ok (.ireturn, 1) := by decide +kernel
theorem dJ2_indexOf_4cfef_0 : decode cJ2_indexOf_4cfef 0 = .ok (.iload_n 2, 1) := by decide +kernel
theorem dJ2_indexOf_4cfef_1 : decode cJ2_indexOf_4cfef 1 = .ok (.iconst 0, 1) := by decide +kernel
theorem dJ2_indexOf_4cfef_2 : decode cJ2_indexOf_4cfef 2 = .ok (.invokestatic 224, 3) := by decide +kernel
theorem dJ2_indexOf_4cfef_5 : decode cJ2_indexOf_4cfef 5 = .ok (.istore_n 2, 1) := by decide +kernel
theorem dJ2_indexOf_4cfef_6 : decode cJ2_indexOf_4cfef 6 = .ok (.iload_n 3, 1) := by decide +kernel
theorem dJ2_indexOf_4cfef_7 : decode cJ2_indexOf_4cfef 7 = .ok (.aload_n 0, 1) := by decide +kernel
theorem dJ2_indexOf_4cfef_8 : decode cJ2_indexOf_4cfef 8 = .ok (.arraylength, 1) := by decide +kernel
theorem dJ2_indexOf_4cfef_9 : decode cJ2_indexOf_4cfef 9 = .ok (.iconst 1, 1) := by decide +kernel
theorem dJ2_indexOf_4cfef_10 : decode cJ2_indexOf_4cfef 10 = .ok (.ishr, 1) := by decide +kernel
theorem dJ2_indexOf_4cfef_11 : decode cJ2_indexOf_4cfef 11 = .ok (.invokestatic 183, 3) := by decide +kernel
theorem dJ2_indexOf_4cfef_14 : decode cJ2_indexOf_4cfef 14 = .ok (.istore_n 3, 1) := by decide +kernel
theorem dJ2_indexOf_4cfef_15 : decode cJ2_indexOf_4cfef 15 = .ok (.iload_n 2, 1) := by decide +kernel
theorem dJ2_indexOf_4cfef_16 : decode cJ2_indexOf_4cfef 16 = .ok (.iload_n 3, 1) := by decide +kernel
theorem dJ2_indexOf_4cfef_17 : decode cJ2_indexOf_4cfef 17 = .ok (.if_icmp .lt 5, 3) := by decide +kernel
theorem dJ2_indexOf_4cfef_20 : decode cJ2_indexOf_4cfef 20 = .ok (.iconst (-1), 1) := by decide +kernel
theorem dJ2_indexOf_4cfef_21 : decode cJ2_indexOf_4cfef 21 = .ok (.ireturn, 1) := by decide +kernel
theorem dJ2_indexOf_4cfef_22 : decode cJ2_indexOf_4cfef 22 = .ok (.iload_n 1, 1) := by decide +kernel
theorem dJ2_indexOf_4cfef_23 : decode cJ2_indexOf_4cfef 23 = .ok (.ldc 227, 2) := by decide +kernel
theorem dJ2_indexOf_4cfef_25 : decode cJ2_indexOf_4cfef 25 = .ok (.if_icmp .ge 11, 3) := by decide +kernel
theorem dJ2_indexOf_4cfef_28 : decode cJ2_indexOf_4cfef 28 = .ok (.aload_n 0, 1) := by decide +kernel
theorem dJ2_indexOf_4cfef_29 : decode cJ2_indexOf_4cfef 29 = .ok (.iload_n 1, 1) := by decide +kernel
theorem dJ2_indexOf_4cfef_30 : decode cJ2_indexOf_4cfef 30 = .ok (.iload_n 2, 1) := by decide +kernel
theorem dJ2_indexOf_4cfef_31 : decode cJ2_indexOf_4cfef 31 = .ok (.iload_n 3, 1) := by decide +kernel
theorem dJ2_indexOf_4cfef_32 : decode cJ2_indexOf_4cfef 32 = .ok (.invokestatic 228, 3) := by decide +kernel
theorem dJ2_indexOf_4cfef_35 : decode cJ2_indexOf_4cfef 35 = .ok (.ireturn, 1) := by decide +kernel
theorem dJ2_indexOf_4cfef_36 : decode cJ2_indexOf_4cfef 36 = .ok (.aload_n 0, 1) := by decide +kernel
theorem dJ2_indexOf_4cfef_37 : decode cJ2_indexOf_4cfef 37 = .ok (.iload_n 1, 1) := by decide +kernel
theorem dJ2_indexOf_4cfef_38 : decode cJ2_indexOf_4cfef 38 = .ok (.iload_n 2, 1) := by decide +kernel
theorem dJ2_indexOf_4cfef_39 : decode cJ2_indexOf_4cfef 39 = .ok (.iload_n 3, 1) := by decide +kernel
theorem dJ2_indexOf_4cfef_40 : decode cJ2_indexOf_4cfef 40 = .ok (.invokestatic 232, 3) := by decide +kernel
theorem dJ2_indexOf_4cfef_43 : decode cJ2_indexOf_4cfef 43 = .ok (.ireturn, 1) := by decide +kernel
theorem dJ2_indexOfChar_4cfef_0 : decode cJ2_indexOfChar_4cfef 0 = .ok (.iload_n 2, 1) := by decide +kernel
theorem dJ2_indexOfChar_4cfef_1 : decode cJ2_indexOfChar_4cfef 1 = .ok (.iload_n 3, 1) := by decide +kernel
theorem dJ2_indexOfChar_4cfef_2 : decode cJ2_indexOfChar_4cfef 2 = .ok (.aload_n 0, 1) := by decide +kernel
theorem dJ2_indexOfChar_4cfef_3 : decode cJ2_indexOfChar_4cfef 3 = .ok (.invokestatic 96, 3) := by decide +kernel
theorem dJ2_indexOfChar_4cfef_6 : decode cJ2_indexOfChar_4cfef 6 = .ok (.aload_n 0, 1) := by decide +kernel
theorem dJ2_indexOfChar_4cfef_7 : decode cJ2_indexOfChar_4cfef 7 = .ok (.iload_n 1, 1) := by decide +kernel
theorem dJ2_indexOfChar_4cfef_8 : decode cJ2_indexOfChar_4cfef 8 = .ok (.iload_n 2, 1) := by decide +kernel
theorem dJ2_indexOfChar_4cfef_9 : decode cJ2_indexOfChar_4cfef 9 = .ok (.iload_n 3, 1) := by decide +kernel
theorem dJ2_indexOfChar_4cfef_10 : decode cJ2_indexOfChar_4cfef 10 = .ok (.invokestatic 244, 3) := by decide +kernel
theorem dJ2_indexOfChar_4cfef_13 : decode cJ2_indexOfChar_4cfef 13 = .ok (.ireturn, 1) := by decide +kernel
theorem dJ2_indexOfCharUnsafe_4cfef_0 : decode cJ2_indexOfCharUnsafe_4cfef 0 = .ok (.iload_n 2, 1) := by decide +kernel
theorem dJ2_indexOfCharUnsafe_4cfef_1 : decode cJ2_indexOfCharUnsafe_4cfef 1 = .ok (.istore 4, 2) := by decide +kernel
theorem dJ2_indexOfCharUnsafe_4cfef_3 : decode cJ2_indexOfCharUnsafe_4cfef 3 = .ok (.iload 4, 2) := by decide +kernel
theorem dJ2_indexOfCharUnsafe_4cfef_5 : decode cJ2_indexOfCharUnsafe_4cfef 5 = .ok (.iload_n 3, 1) := by decide +kernel
theorem dJ2_indexOfCharUnsafe_4cfef_6 : decode cJ2_indexOfCharUnsafe_4cfef 6 = .ok (.if_icmp .ge 22, 3) := by decide +kernel
theorem dJ2_indexOfCharUnsafe_4cfef_9 : decode cJ2_indexOfCharUnsafe_4cfef 9 = .ok (.aload_n 0, 1) := by decide +kernel
theorem dJ2_indexOfCharUnsafe_4cfef_10 : decode cJ2_indexOfCharUnsafe_4cfef 10 = .ok (.iload 4, 2) := by decide +kernel
theorem dJ2_indexOfCharUnsafe_4cfef_12 : decode cJ2_indexOfCharUnsafe_4cfef 12 = .ok (.invokestatic 71, 3) := by decide +kernel
theorem dJ2_indexOfCharUnsafe_4cfef_15 : decode cJ2_indexOfCharUnsafe_4cfef 15 = .ok (.iload_n 1, 1) := by decide +kernel
theorem dJ2_indexOfCharUnsafe_4cfef_16 : decode cJ2_indexOfCharUnsafe_4cfef 16 = .ok (.if_icmp .ne 6, 3) := by decide +kernel
theorem dJ2_indexOfCharUnsafe_4cfef_19 : decode cJ2_indexOfCharUnsafe_4cfef 19 = .ok (.iload 4, 2) := by decide +kernel
theorem dJ2_indexOfCharUnsafe_4cfef_21 : decode cJ2_indexOfCharUnsafe_4cfef 21 = .ok (.ireturn, 1) := by decide +kernel
theorem dJ2_indexOfCharUnsafe_4cfef_22 : decode cJ2_indexOfCharUnsafe_4cfef 22 = .ok (.iinc 4 1, 3) := by decide +kernel
theorem dJ2_indexOfCharUnsafe_4cfef_25 : decode cJ2_indexOfCharUnsafe_4cfef 25 = .ok (.goto (-22), 3) := by decide +kernel
theorem dJ2_indexOfCharUnsafe_4cfef_28 : decode cJ2_indexOfCharUnsafe_4cfef 28 = .ok (.iconst (-1), 1) := by decide +kernel
theorem dJ2_indexOfCharUnsafe_4cfef_29 : decode cJ2_indexOfCharUnsafe_4cfef 29 = .ok (.ireturn, 1) := by decide +kernel
theorem dJ2_indexOfSupplementary_4cfef_0 : decode cJ2_indexOfSupplementary_4cfef 0 = .ok (.iload_n 1, 1) := by decide +kernel
theorem dJ2_indexOfSupplementary_4cfef_1 : decode cJ2_indexOfSupplementary_4cfef 1 = .ok (.invokestatic 164, 3) := by decide +kernel
theorem dJ2_indexOfSupplementary_4cfef_4 : decode cJ2_indexOfSupplementary_4cfef 4 = .ok (.ifCond .eq 65, 3) := by decide +kernel
theorem dJ2_indexOfSupplementary_4cfef_7 : decode cJ2_indexOfSupplementary_4cfef 7 = .ok (.iload_n 1, 1) := by decide +kernel
theorem dJ2_indexOfSupplementary_4cfef_8 : decode cJ2_indexOfSupplementary_4cfef 8 = .ok (.invokestatic 157, 3) := by decide +kernel
theorem dJ2_indexOfSupplementary_4cfef_11 : decode cJ2_indexOfSupplementary_4cfef 11 = .ok (.istore 4, 2) := by decide +kernel
theorem dJ2_indexOfSupplementary_4cfef_13 : decode cJ2_indexOfSupplementary_4cfef 13 = .ok (.iload_n 1, 1) := by decide +kernel
theorem dJ2_indexOfSupplementary_4cfef_14 : decode cJ2_indexOfSupplementary_4cfef 14 = .ok (.invokestatic 161, 3) := by decide +kernel
theorem dJ2_indexOfSupplementary_4cfef_17 : decode cJ2_indexOfSupplementary_4cfef 17 = .ok (.istore 5, 2) := by decide +kernel
theorem dJ2_indexOfSupplementary_4cfef_19 : decode cJ2_indexOfSupplementary_4cfef 19 = .ok (.iload_n 2, 1) := by decide +kernel
theorem dJ2_indexOfSupplementary_4cfef_20 : decode cJ2_indexOfSupplementary_4cfef 20 = .ok (.iload_n 3, 1) := by decide +kernel
theorem dJ2_indexOfSupplementary_4cfef_21 : decode cJ2_indexOfSupplementary_4cfef 21 = .ok (.aload_n 0, 1) := by decide +kernel
theorem dJ2_indexOfSupplementary_4cfef_22 : decode cJ2_indexOfSupplementary_4cfef 22 = .ok (.invokestatic 96, 3) := by decide +kernel
theorem dJ2_indexOfSupplementary_4cfef_25 : decode cJ2_indexOfSupplementary_4cfef 25 = .ok (.iload_n 2, 1) := by decide +kernel
theorem dJ2_indexOfSupplementary_4cfef_26 : decode cJ2_indexOfSupplementary_4cfef 26 = .ok (.istore 6, 2) := by decide +kernel
theorem dJ2_indexOfSupplementary_4cfef_28 : decode cJ2_indexOfSupplementary_4cfef 28 = .ok (.iload 6, 2) := by decide +kernel
theorem dJ2_indexOfSupplementary_4cfef_30 : decode cJ2_indexOfSupplementary_4cfef 30 = .ok (.iload_n 3, 1) := by decide +kernel
theorem dJ2_indexOfSupplementary_4cfef_31 : decode cJ2_indexOfSupplementary_4cfef 31 = .ok (.iconst 1, 1) := by decide +kernel
theorem dJ2_indexOfSupplementary_4cfef_32 : decode cJ2_indexOfSupplementary_4cfef 32 = .ok (.isub, 1) := by decide +kernel
theorem dJ2_indexOfSupplementary_4cfef_33 : decode cJ2_indexOfSupplementary_4cfef 33 = .ok (.if_icmp .ge 36, 3) := by decide +kernel
theorem dJ2_indexOfSupplementary_4cfef_36 : decode cJ2_indexOfSupplementary_4cfef 36 = .ok (.aload_n 0, 1) := by decide +kernel
theorem dJ2_indexOfSupplementary_4cfef_37 : decode cJ2_indexOfSupplementary_4cfef 37 = .ok (.iload 6, 2) := by decide +kernel
theorem dJ2_indexOfSupplementary_4cfef_39 : decode cJ2_indexOfSupplementary_4cfef 39 = .ok (.invokestatic 71, 3) := by decide +kernel
theorem dJ2_indexOfSupplementary_4cfef_42 : decode cJ2_indexOfSupplementary_4cfef 42 = .ok (.iload 4, 2) := by decide +kernel
theorem dJ2_indexOfSupplementary_4cfef_44 : decode cJ2_indexOfSupplementary_4cfef 44 = .ok (.if_icmp .ne 19, 3) := by decide +kernel
theorem dJ2_indexOfSupplementary_4cfef_47 : decode cJ2_indexOfSupplementary_4cfef 47 = .ok (.aload_n 0, 1) := by decide +kernel
theorem dJ2_indexOfSupplementary_4cfef_48 : decode cJ2_indexOfSupplementary_4cfef 48 = .ok (.iload 6, 2) := by decide +kernel
theorem dJ2_indexOfSupplementary_4cfef_50 : decode cJ2_indexOfSupplementary_4cfef 50 = .ok (.iconst 1, 1) := by decide +kernel
theorem dJ2_indexOfSupplementary_4cfef_51 : decode cJ2_indexOfSupplementary_4cfef 51 = .ok (.iadd, 1) := by decide +kernel
theorem dJ2_indexOfSupplementary_4cfef_52 : decode cJ2_indexOfSupplementary_4cfef 52 = .ok (.invokestatic 71, 3) := by decide +kernel
theorem dJ2_indexOfSupplementary_4cfef_55 : decode cJ2_indexOfSupplementary_4cfef 55 = .ok (.iload 5, 2) := by decide +kernel
theorem dJ2_indexOfSupplementary_4cfef_57 : decode cJ2_indexOfSupplementary_4cfef 57 = .ok (.if_icmp .ne 6, 3) := by decide +kernel
theorem dJ2_indexOfSupplementary_4cfef_60 : decode cJ2_indexOfSupplementary_4cfef 60 = .ok (.iload 6, 2) := by decide +kernel
theorem dJ2_indexOfSupplementary_4cfef_62 : decode cJ2_indexOfSupplementary_4cfef 62 = .ok (.ireturn, 1) := by decide +kernel
theorem dJ2_indexOfSupplementary_4cfef_63 : decode cJ2_indexOfSupplementary_4cfef 63 = .ok (.iinc 6 1, 3) := by decide +kernel
theorem dJ2_indexOfSupplementary_4cfef_66 : decode cJ2_indexOfSupplementary_4cfef 66 = .ok (.goto (-38), 3) := by decide +kernel
theorem dJ2_indexOfSupplementary_4cfef_69 : decode cJ2_indexOfSupplementary_4cfef 69 = .ok (.iconst (-1), 1) := by decide +kernel
theorem dJ2_indexOfSupplementary_4cfef_70 : decode cJ2_indexOfSupplementary_4cfef 70 = .ok (.ireturn, 1) := by decide +kernel
theorem dJ2_charAt_3b067_0 : decode cJ2_charAt_3b067 0 = .ok (.iload_n 1, 1) := by decide +kernel
theorem dJ2_charAt_3b067_1 : decode cJ2_charAt_3b067 1 = .ok (.aload_n 0, 1) := by decide +kernel
theorem dJ2_charAt_3b067_2 : decode cJ2_charAt_3b067 2 = .ok (.invokestatic 67, 3) := by decide +kernel
theorem dJ2_charAt_3b067_5 : decode cJ2_charAt_3b067 5 = .ok (.aload_n 0, 1) := by decide +kernel
theorem dJ2_charAt_3b067_6 : decode cJ2_charAt_3b067 6 = .ok (.iload_n 1, 1) := by decide +kernel
theorem dJ2_charAt_3b067_7 : decode cJ2_charAt_3b067 7 = .ok (.invokestatic 71, 3) := by decide +kernel
theorem dJ2_charAt_3b067_10 : decode cJ2_charAt_3b067 10 = .ok (.ireturn, 1) := by decide +kernel
theorem dJ2_checkIndex_2214a_0 : decode cJ2_checkIndex_2214a 0 = .ok (.iload_n 0, 1) := by decide +kernel
theorem dJ2_checkIndex_2214a_1 : decode cJ2_checkIndex_2214a 1 = .ok (.aload_n 1, 1) := by decide +kernel
theorem dJ2_checkIndex_2214a_2 : decode cJ2_checkIndex_2214a 2 = .ok (.invokestatic 48, 3) := by decide +kernel
theorem dJ2_checkIndex_2214a_5 : decode cJ2_checkIndex_2214a 5 = .ok (.invokestatic 414, 3) := by decide +kernel
theorem dJ2_checkIndex_2214a_8 : decode cJ2_checkIndex_2214a 8 = .ok (.return_, 1) := by decide +kernel
theorem dJ2_checkBoundsBeginEnd_d044e_0 : decode cJ2_checkBoundsBeginEnd_d044e 0 = .ok (.iload_n 0, 1) := by decide +kernel
theorem dJ2_checkBoundsBeginEnd_d044e_1 : decode cJ2_checkBoundsBeginEnd_d044e 1 = .ok (.iload_n 1, 1) := by decide +kernel
theorem dJ2_checkBoundsBeginEnd_d044e_2 : decode cJ2_checkBoundsBeginEnd_d044e 2 = .ok (.aload_n 2, 1) := by decide +kernel
theorem dJ2_checkBoundsBeginEnd_d044e_3 : decode cJ2_checkBoundsBeginEnd_d044e 3 = .ok (.invokestatic 48, 3) := by decide +kernel
theorem dJ2_checkBoundsBeginEnd_d044e_6 : decode cJ2_checkBoundsBeginEnd_d044e 6 = .ok (.invokestatic 241, 3) := by decide +kernel
theorem dJ2_checkBoundsBeginEnd_d044e_9 : decode cJ2_checkBoundsBeginEnd_d044e 9 = .ok (.return_, 1) := by decide +kernel
theorem dJ3_checkIndex_8e157_0 : decode cJ3_checkIndex_8e157 0 = .ok (.iload_n 0, 1) := by decide +kernel
theorem dJ3_checkIndex_8e157_1 : decode cJ3_checkIndex_8e157 1 = .ok (.ifCond .lt 8, 3) := by decide +kernel
theorem dJ3_checkIndex_8e157_4 : decode cJ3_checkIndex_8e157 4 = .ok (.iload_n 0, 1) := by decide +kernel
theorem dJ3_checkIndex_8e157_5 : decode cJ3_checkIndex_8e157 5 = .ok (.iload_n 1, 1) := by decide +kernel
theorem dJ3_checkIndex_8e157_6 : decode cJ3_checkIndex_8e157 6 = .ok (.if_icmp .lt 10, 3) := by decide +kernel
theorem dJ3_checkIndex_8e157_9 : decode cJ3_checkIndex_8e157 9 = .ok (.aload_n 2, 1) := by decide +kernel
theorem dJ3_checkIndex_8e157_10 : decode cJ3_checkIndex_8e157 10 = .ok (.iload_n 0, 1) := by decide +kernel
theorem dJ3_checkIndex_8e157_11 : decode cJ3_checkIndex_8e157 11 = .ok (.iload_n 1, 1) := by decide +kernel
theorem dJ3_checkIndex_8e157_12 : decode cJ3_checkIndex_8e157 12 = .ok (.invokestatic 95, 3) := by decide +kernel
theorem dJ3_checkIndex_8e157_15 : decode cJ3_checkIndex_8e157 15 = .ok (.athrow, 1) := by decide +kernel
theorem dJ3_checkIndex_8e157_16 : decode cJ3_checkIndex_8e157 16 = .ok (.iload_n 0, 1) := by decide +kernel
theorem dJ3_checkIndex_8e157_17 : decode cJ3_checkIndex_8e157 17 = .ok (.ireturn, 1) := by decide +kernel
theorem dJ3_checkFromToIndex_8c36e_0 : decode cJ3_checkFromToIndex_8c36e 0 = .ok (.iload_n 0, 1) := by decide +kernel
theorem dJ3_checkFromToIndex_8c36e_1 : decode cJ3_checkFromToIndex_8c36e 1 = .ok (.ifCond .lt 13, 3) := by decide +kernel
theorem dJ3_checkFromToIndex_8c36e_4 : decode cJ3_checkFromToIndex_8c36e 4 = .ok (.iload_n 0, 1) := by decide +kernel
theorem dJ3_checkFromToIndex_8c36e_5 : decode cJ3_checkFromToIndex_8c36e 5 = .ok (.iload_n 1, 1) := by decide +kernel
theorem dJ3_checkFromToIndex_8c36e_6 : decode cJ3_checkFromToIndex_8c36e 6 = .ok (.if_icmp .gt 8, 3) := by decide +kernel
theorem dJ3_checkFromToIndex_8c36e_9 : decode cJ3_checkFromToIndex_8c36e 9 = .ok (.iload_n 1, 1) := by decide +kernel
theorem dJ3_checkFromToIndex_8c36e_10 : decode cJ3_checkFromToIndex_8c36e 10 = .ok (.iload_n 2, 1) := by decide +kernel
theorem dJ3_checkFromToIndex_8c36e_11 : decode cJ3_checkFromToIndex_8c36e 11 = .ok (.if_icmp .le 11, 3) := by decide +kernel
theorem dJ3_checkFromToIndex_8c36e_14 : decode cJ3_checkFromToIndex_8c36e 14 = .ok (.aload_n 3, 1) := by decide +kernel
theorem dJ3_checkFromToIndex_8c36e_15 : decode cJ3_checkFromToIndex_8c36e 15 = .ok (.iload_n 0, 1) := by decide +kernel
theorem dJ3_checkFromToIndex_8c36e_16 : decode cJ3_checkFromToIndex_8c36e 16 = .ok (.iload_n 1, 1) := by decide +kernel
theorem dJ3_checkFromToIndex_8c36e_17 : decode cJ3_checkFromToIndex_8c36e 17 = .ok (.iload_n 2, 1) := by decide +kernel
theorem dJ3_checkFromToIndex_8c36e_18 : decode cJ3_checkFromToIndex_8c36e 18 = .ok (.invokestatic 99, 3) := by decide +kernel
theorem dJ3_checkFromToIndex_8c36e_21 : decode cJ3_checkFromToIndex_8c36e 21 = .ok (.athrow, 1) := by decide +kernel
theorem dJ3_checkFromToIndex_8c36e_22 : decode cJ3_checkFromToIndex_8c36e 22 = .ok (.iload_n 0, 1) := by decide +kernel
theorem dJ3_checkFromToIndex_8c36e_23 : decode cJ3_checkFromToIndex_8c36e 23 = .ok (.ireturn, 1) := by decide +kernel
