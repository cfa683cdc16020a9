theorem dX0_init_0 : decode cX0_init 0 = .ok (.aload_n 0, 1) := by decide +kernel
theorem dX0_init_1 : decode cX0_init 1 = .ok (.invokespecial 3, 3) := by decide +kernel
theorem dX0_init_4 : decode cX0_init 4 = .ok (.return_, 1) := by decide +kernel
theorem dX0_begin_0 : decode cX0_begin 0 = .ok (.aload_n 0, 1) := by decide +kernel
theorem dX0_begin_1 : decode cX0_begin 1 = .ok (.iconst 0, 1) := by decide +kernel
theorem dX0_begin_2 : decode cX0_begin 2 = .ok (.putfield 9, 3) := by decide +kernel
theorem dX0_begin_5 : decode cX0_begin 5 = .ok (.aload_n 0, 1) := by decide +kernel
theorem dX0_begin_6 : decode cX0_begin 6 = .ok (.iconst (-1), 1) := by decide +kernel
theorem dX0_begin_7 : decode cX0_begin 7 = .ok (.putfield 15, 3) := by decide +kernel
theorem dX0_begin_10 : decode cX0_begin 10 = .ok (.aload_n 0, 1) := by decide +kernel
theorem dX0_begin_11 : decode cX0_begin 11 = .ok (.iconst 0, 1) := by decide +kernel
theorem dX0_begin_12 : decode cX0_begin 12 = .ok (.putfield 19, 3) := by decide +kernel
theorem dX0_begin_15 : decode cX0_begin 15 = .ok (.return_, 1) := by decide +kernel
theorem dX0_beginWith_0 : decode cX0_beginWith 0 = .ok (.aload_n 0, 1) := by decide +kernel
theorem dX0_beginWith_1 : decode cX0_beginWith 1 = .ok (.iconst 1, 1) := by decide +kernel
theorem dX0_beginWith_2 : decode cX0_beginWith 2 = .ok (.putfield 9, 3) := by decide +kernel
theorem dX0_beginWith_5 : decode cX0_beginWith 5 = .ok (.aload_n 0, 1) := by decide +kernel
theorem dX0_beginWith_6 : decode cX0_beginWith 6 = .ok (.iload_n 1, 1) := by decide +kernel
theorem dX0_beginWith_7 : decode cX0_beginWith 7 = .ok (.putfield 15, 3) := by decide +kernel
theorem dX0_beginWith_10 : decode cX0_beginWith 10 = .ok (.aload_n 0, 1) := by decide +kernel
theorem dX0_beginWith_11 : decode cX0_beginWith 11 = .ok (.iload_n 2, 1) := by decide +kernel
theorem dX0_beginWith_12 : decode cX0_beginWith 12 = .ok (.putfield 19, 3) := by decide +kernel
theorem dX0_beginWith_15 : decode cX0_beginWith 15 = .ok (.return_, 1) := by decide +kernel
set_option maxRecDepth 20000 in
theorem ggX0_offer_X0_beginWith : GoodIn wsX0_offer wsX0_beginWith := goodIn_r _ [7, 1, 8, 2, 9, 10, 11] (by decide +kernel) (by decide +kernel)
set_option maxRecDepth 20000 in
theorem gX0_offer_X0_beginWith : GoodIn wsX0_offer (wsV RX0 22 RX0 yX0_beginWith wsX0_beginWith) := goodIn_app (goodIn_of _ (by decide +kernel)) ggX0_offer_X0_beginWith
theorem dX0_offer_0 : decode cX0_offer 0 = .ok (.aload_n 0, 1) := by decide +kernel
theorem dX0_offer_1 : decode cX0_offer 1 = .ok (.getfield 9, 3) := by decide +kernel
theorem dX0_offer_4 : decode cX0_offer 4 = .ok (.ifCond .eq 11, 3) := by decide +kernel
theorem dX0_offer_7 : decode cX0_offer 7 = .ok (.iload_n 2, 1) := by decide +kernel
theorem dX0_offer_8 : decode cX0_offer 8 = .ok (.aload_n 0, 1) := by decide +kernel
theorem dX0_offer_9 : decode cX0_offer 9 = .ok (.getfield 19, 3) := by decide +kernel
theorem dX0_offer_12 : decode cX0_offer 12 = .ok (.if_icmp .le 9, 3) := by decide +kernel
theorem dX0_offer_15 : decode cX0_offer 15 = .ok (.aload_n 0, 1) := by decide +kernel
theorem dX0_offer_16 : decode cX0_offer 16 = .ok (.iload_n 1, 1) := by decide +kernel
theorem dX0_offer_17 : decode cX0_offer 17 = .ok (.iload_n 2, 1) := by decide +kernel
theorem dX0_offer_18 : decode cX0_offer 18 = .ok (.invokevirtual 22, 3) := by decide +kernel
theorem dX0_offer_21 : decode cX0_offer 21 = .ok (.return_, 1) := by decide +kernel
theorem dX0_answer_0 : decode cX0_answer 0 = .ok (.iload_n 1, 1) := by decide +kernel
theorem dX0_answer_1 : decode cX0_answer 1 = .ok (.ifCond .ne 10, 3) := by decide +kernel
theorem dX0_answer_4 : decode cX0_answer 4 = .ok (.aload_n 0, 1) := by decide +kernel
theorem dX0_answer_5 : decode cX0_answer 5 = .ok (.getfield 15, 3) := by decide +kernel
theorem dX0_answer_8 : decode cX0_answer 8 = .ok (.goto 7, 3) := by decide +kernel
theorem dX0_answer_11 : decode cX0_answer 11 = .ok (.aload_n 0, 1) := by decide +kernel
theorem dX0_answer_12 : decode cX0_answer 12 = .ok (.getfield 19, 3) := by decide +kernel
theorem dX0_answer_15 : decode cX0_answer 15 = .ok (.ireturn, 1) := by decide +kernel
theorem dX1_init_0 : decode cX1_init 0 = .ok (.aload_n 0, 1) := by decide +kernel
theorem dX1_init_1 : decode cX1_init 1 = .ok (.invokespecial 3, 3) := by decide +kernel
theorem dX1_init_4 : decode cX1_init 4 = .ok (.return_, 1) := by decide +kernel
theorem dX1_come_0 : decode cX1_come 0 = .ok (.aload_n 0, 1) := by decide +kernel
theorem dX1_come_1 : decode cX1_come 1 = .ok (.iload_n 1, 1) := by decide +kernel
theorem dX1_come_2 : decode cX1_come 2 = .ok (.putfield 9, 3) := by decide +kernel
theorem dX1_come_5 : decode cX1_come 5 = .ok (.aload_n 0, 1) := by decide +kernel
theorem dX1_come_6 : decode cX1_come 6 = .ok (.iload_n 2, 1) := by decide +kernel
theorem dX1_come_7 : decode cX1_come 7 = .ok (.putfield 15, 3) := by decide +kernel
theorem dX1_come_10 : decode cX1_come 10 = .ok (.aload_n 0, 1) := by decide +kernel
theorem dX1_come_11 : decode cX1_come 11 = .ok (.iload_n 3, 1) := by decide +kernel
theorem dX1_come_12 : decode cX1_come 12 = .ok (.putfield 18, 3) := by decide +kernel
theorem dX1_come_15 : decode cX1_come 15 = .ok (.aload_n 0, 1) := by decide +kernel
theorem dX1_come_16 : decode cX1_come 16 = .ok (.bipush 20, 2) := by decide +kernel
theorem dX1_come_18 : decode cX1_come 18 = .ok (.putfield 21, 3) := by decide +kernel
theorem dX1_come_21 : decode cX1_come 21 = .ok (.aload_n 0, 1) := by decide +kernel
theorem dX1_come_22 : decode cX1_come 22 = .ok (.iconst 0, 1) := by decide +kernel
theorem dX1_come_23 : decode cX1_come 23 = .ok (.putfield 24, 3) := by decide +kernel
theorem dX1_come_26 : decode cX1_come 26 = .ok (.return_, 1) := by decide +kernel
theorem dX1_become_0 : decode cX1_become 0 = .ok (.aload_n 0, 1) := by decide +kernel
theorem dX1_become_1 : decode cX1_become 1 = .ok (.aload_n 1, 1) := by decide +kernel
theorem dX1_become_2 : decode cX1_become 2 = .ok (.getfield 9, 3) := by decide +kernel
theorem dX1_become_5 : decode cX1_become 5 = .ok (.putfield 9, 3) := by decide +kernel
theorem dX1_become_8 : decode cX1_become 8 = .ok (.aload_n 0, 1) := by decide +kernel
theorem dX1_become_9 : decode cX1_become 9 = .ok (.aload_n 1, 1) := by decide +kernel
theorem dX1_become_10 : decode cX1_become 10 = .ok (.getfield 15, 3) := by decide +kernel
theorem dX1_become_13 : decode cX1_become 13 = .ok (.putfield 15, 3) := by decide +kernel
theorem dX1_become_16 : decode cX1_become 16 = .ok (.aload_n 0, 1) := by decide +kernel
theorem dX1_become_17 : decode cX1_become 17 = .ok (.aload_n 1, 1) := by decide +kernel
theorem dX1_become_18 : decode cX1_become 18 = .ok (.getfield 18, 3) := by decide +kernel
theorem dX1_become_21 : decode cX1_become 21 = .ok (.putfield 18, 3) := by decide +kernel
theorem dX1_become_24 : decode cX1_become 24 = .ok (.aload_n 0, 1) := by decide +kernel
theorem dX1_become_25 : decode cX1_become 25 = .ok (.aload_n 1, 1) := by decide +kernel
theorem dX1_become_26 : decode cX1_become 26 = .ok (.getfield 21, 3) := by decide +kernel
theorem dX1_become_29 : decode cX1_become 29 = .ok (.putfield 21, 3) := by decide +kernel
theorem dX1_become_32 : decode cX1_become 32 = .ok (.aload_n 0, 1) := by decide +kernel
theorem dX1_become_33 : decode cX1_become 33 = .ok (.aload_n 1, 1) := by decide +kernel
theorem dX1_become_34 : decode cX1_become 34 = .ok (.getfield 24, 3) := by decide +kernel
theorem dX1_become_37 : decode cX1_become 37 = .ok (.putfield 24, 3) := by decide +kernel
theorem dX1_become_40 : decode cX1_become 40 = .ok (.return_, 1) := by decide +kernel
theorem dX1_reading_0 : decode cX1_reading 0 = .ok (.iload_n 1, 1) := by decide +kernel
theorem dX1_reading_1 : decode cX1_reading 1 = .ok (.tableswitch 51 5 8 #[31, 36, 41, 46], 31) := by decide +kernel
theorem dX1_reading_32 : decode cX1_reading 32 = .ok (.aload_n 0, 1) := by decide +kernel
theorem dX1_reading_33 : decode cX1_reading 33 = .ok (.getfield 15, 3) := by decide +kernel
theorem dX1_reading_36 : decode cX1_reading 36 = .ok (.ireturn, 1) := by decide +kernel
theorem dX1_reading_37 : decode cX1_reading 37 = .ok (.aload_n 0, 1) := by decide +kernel
theorem dX1_reading_38 : decode cX1_reading 38 = .ok (.getfield 18, 3) := by decide +kernel
theorem dX1_reading_41 : decode cX1_reading 41 = .ok (.ireturn, 1) := by decide +kernel
theorem dX1_reading_42 : decode cX1_reading 42 = .ok (.aload_n 0, 1) := by decide +kernel
theorem dX1_reading_43 : decode cX1_reading 43 = .ok (.getfield 21, 3) := by decide +kernel
theorem dX1_reading_46 : decode cX1_reading 46 = .ok (.ireturn, 1) := by decide +kernel
theorem dX1_reading_47 : decode cX1_reading 47 = .ok (.aload_n 0, 1) := by decide +kernel
theorem dX1_reading_48 : decode cX1_reading 48 = .ok (.getfield 9, 3) := by decide +kernel
theorem dX1_reading_51 : decode cX1_reading 51 = .ok (.ireturn, 1) := by decide +kernel
theorem dX1_reading_52 : decode cX1_reading 52 = .ok (.aload_n 0, 1) := by decide +kernel
theorem dX1_reading_53 : decode cX1_reading 53 = .ok (.getfield 24, 3) := by decide +kernel
theorem dX1_reading_56 : decode cX1_reading 56 = .ok (.ireturn, 1) := by decide +kernel
theorem dX1_lay_0 : decode cX1_lay 0 = .ok (.iload_n 1, 1) := by decide +kernel
theorem dX1_lay_1 : decode cX1_lay 1 = .ok (.tableswitch 51 5 7 #[27, 35, 43], 27) := by decide +kernel
theorem dX1_lay_28 : decode cX1_lay 28 = .ok (.aload_n 0, 1) := by decide +kernel
theorem dX1_lay_29 : decode cX1_lay 29 = .ok (.iload_n 2, 1) := by decide +kernel
theorem dX1_lay_30 : decode cX1_lay 30 = .ok (.putfield 15, 3) := by decide +kernel
theorem dX1_lay_33 : decode cX1_lay 33 = .ok (.goto 19, 3) := by decide +kernel
theorem dX1_lay_36 : decode cX1_lay 36 = .ok (.aload_n 0, 1) := by decide +kernel
theorem dX1_lay_37 : decode cX1_lay 37 = .ok (.iload_n 2, 1) := by decide +kernel
theorem dX1_lay_38 : decode cX1_lay 38 = .ok (.putfield 18, 3) := by decide +kernel
theorem dX1_lay_41 : decode cX1_lay 41 = .ok (.goto 11, 3) := by decide +kernel
theorem dX1_lay_44 : decode cX1_lay 44 = .ok (.aload_n 0, 1) := by decide +kernel
theorem dX1_lay_45 : decode cX1_lay 45 = .ok (.iload_n 2, 1) := by decide +kernel
theorem dX1_lay_46 : decode cX1_lay 46 = .ok (.putfield 21, 3) := by decide +kernel
theorem dX1_lay_49 : decode cX1_lay 49 = .ok (.goto 3, 3) := by decide +kernel
theorem dX1_lay_52 : decode cX1_lay 52 = .ok (.return_, 1) := by decide +kernel
theorem dX2_init_0 : decode cX2_init 0 = .ok (.aload_n 0, 1) := by decide +kernel
theorem dX2_init_1 : decode cX2_init 1 = .ok (.invokespecial 1, 3) := by decide +kernel
theorem dX2_init_4 : decode cX2_init 4 = .ok (.aload_n 0, 1) := by decide +kernel
theorem dX2_init_5 : decode cX2_init 5 = .ok (.lconst 0, 1) := by decide +kernel
theorem dX2_init_6 : decode cX2_init 6 = .ok (.putfield 7, 3) := by decide +kernel
theorem dX2_init_9 : decode cX2_init 9 = .ok (.aload_n 0, 1) := by decide +kernel
theorem dX2_init_10 : decode cX2_init 10 = .ok (.lconst 1, 1) := by decide +kernel
theorem dX2_init_11 : decode cX2_init 11 = .ok (.putfield 13, 3) := by decide +kernel
theorem dX2_init_14 : decode cX2_init 14 = .ok (.return_, 1) := by decide +kernel
set_option maxRecDepth 20000 in
theorem ggX2_lay_X2_commonOf : GoodIn wsX2_lay wsX2_commonOf := goodIn_r _ [6] (by decide +kernel) (by decide +kernel)
set_option maxRecDepth 20000 in
theorem gX2_lay_X2_commonOf : GoodIn wsX2_lay (va_wsS RX2 16 yX2_commonOf wsX2_commonOf) := goodIn_app (goodIn_of _ (by decide +kernel)) ggX2_lay_X2_commonOf
theorem dX2_lay_0 : decode cX2_lay 0 = .ok (.lload_n 1, 1) := by decide +kernel
theorem dX2_lay_1 : decode cX2_lay 1 = .ok (.lload_n 3, 1) := by decide +kernel
theorem dX2_lay_2 : decode cX2_lay 2 = .ok (.invokestatic 16, 3) := by decide +kernel
theorem dX2_lay_5 : decode cX2_lay 5 = .ok (.lstore 5, 2) := by decide +kernel
theorem dX2_lay_7 : decode cX2_lay 7 = .ok (.aload_n 0, 1) := by decide +kernel
theorem dX2_lay_8 : decode cX2_lay 8 = .ok (.lload 5, 2) := by decide +kernel
theorem dX2_lay_10 : decode cX2_lay 10 = .ok (.lconst 0, 1) := by decide +kernel
theorem dX2_lay_11 : decode cX2_lay 11 = .ok (.lcmp, 1) := by decide +kernel
theorem dX2_lay_12 : decode cX2_lay 12 = .ok (.ifCond .le 10, 3) := by decide +kernel
theorem dX2_lay_15 : decode cX2_lay 15 = .ok (.lload_n 1, 1) := by decide +kernel
theorem dX2_lay_16 : decode cX2_lay 16 = .ok (.lload 5, 2) := by decide +kernel
theorem dX2_lay_18 : decode cX2_lay 18 = .ok (.ldiv, 1) := by decide +kernel
theorem dX2_lay_19 : decode cX2_lay 19 = .ok (.goto 4, 3) := by decide +kernel
theorem dX2_lay_22 : decode cX2_lay 22 = .ok (.lload_n 1, 1) := by decide +kernel
theorem dX2_lay_23 : decode cX2_lay 23 = .ok (.putfield 7, 3) := by decide +kernel
theorem dX2_lay_26 : decode cX2_lay 26 = .ok (.aload_n 0, 1) := by decide +kernel
theorem dX2_lay_27 : decode cX2_lay 27 = .ok (.lload 5, 2) := by decide +kernel
theorem dX2_lay_29 : decode cX2_lay 29 = .ok (.lconst 0, 1) := by decide +kernel
theorem dX2_lay_30 : decode cX2_lay 30 = .ok (.lcmp, 1) := by decide +kernel
theorem dX2_lay_31 : decode cX2_lay 31 = .ok (.ifCond .le 10, 3) := by decide +kernel
theorem dX2_lay_34 : decode cX2_lay 34 = .ok (.lload_n 3, 1) := by decide +kernel
theorem dX2_lay_35 : decode cX2_lay 35 = .ok (.lload 5, 2) := by decide +kernel
theorem dX2_lay_37 : decode cX2_lay 37 = .ok (.ldiv, 1) := by decide +kernel
theorem dX2_lay_38 : decode cX2_lay 38 = .ok (.goto 4, 3) := by decide +kernel
theorem dX2_lay_41 : decode cX2_lay 41 = .ok (.lload_n 3, 1) := by decide +kernel
theorem dX2_lay_42 : decode cX2_lay 42 = .ok (.putfield 13, 3) := by decide +kernel
theorem dX2_lay_45 : decode cX2_lay 45 = .ok (.return_, 1) := by decide +kernel
set_option maxRecDepth 20000 in
theorem ggX2_plus_X2_lay : GoodIn wsX2_plus wsX2_lay := goodIn_r _ [7, 1, 2, 8, 9, 6, 10, 11, 12] (by decide +kernel) (by decide +kernel)
set_option maxRecDepth 20000 in
theorem gX2_plus_X2_lay : GoodIn wsX2_plus (wsV RX2 20 RX2 yX2_lay wsX2_lay) := goodIn_app (goodIn_of _ (by decide +kernel)) ggX2_plus_X2_lay
theorem dX2_plus_0 : decode cX2_plus 0 = .ok (.aload_n 0, 1) := by decide +kernel
theorem dX2_plus_1 : decode cX2_plus 1 = .ok (.aload_n 0, 1) := by decide +kernel
theorem dX2_plus_2 : decode cX2_plus 2 = .ok (.getfield 7, 3) := by decide +kernel
theorem dX2_plus_5 : decode cX2_plus 5 = .ok (.lload_n 3, 1) := by decide +kernel
theorem dX2_plus_6 : decode cX2_plus 6 = .ok (.lmul, 1) := by decide +kernel
theorem dX2_plus_7 : decode cX2_plus 7 = .ok (.lload_n 1, 1) := by decide +kernel
theorem dX2_plus_8 : decode cX2_plus 8 = .ok (.aload_n 0, 1) := by decide +kernel
theorem dX2_plus_9 : decode cX2_plus 9 = .ok (.getfield 13, 3) := by decide +kernel
theorem dX2_plus_12 : decode cX2_plus 12 = .ok (.lmul, 1) := by decide +kernel
theorem dX2_plus_13 : decode cX2_plus 13 = .ok (.ladd, 1) := by decide +kernel
theorem dX2_plus_14 : decode cX2_plus 14 = .ok (.aload_n 0, 1) := by decide +kernel
theorem dX2_plus_15 : decode cX2_plus 15 = .ok (.getfield 13, 3) := by decide +kernel
theorem dX2_plus_18 : decode cX2_plus 18 = .ok (.lload_n 3, 1) := by decide +kernel
theorem dX2_plus_19 : decode cX2_plus 19 = .ok (.lmul, 1) := by decide +kernel
theorem dX2_plus_20 : decode cX2_plus 20 = .ok (.invokevirtual 20, 3) := by decide +kernel
theorem dX2_plus_23 : decode cX2_plus 23 = .ok (.return_, 1) := by decide +kernel
set_option maxRecDepth 20000 in
theorem ggX2_times_X2_lay : GoodIn wsX2_times wsX2_lay := goodIn_r _ [7, 1, 2, 8, 9, 6, 10, 11, 12] (by decide +kernel) (by decide +kernel)
set_option maxRecDepth 20000 in
theorem gX2_times_X2_lay : GoodIn wsX2_times (wsV RX2 20 RX2 yX2_lay wsX2_lay) := goodIn_app (goodIn_of _ (by decide +kernel)) ggX2_times_X2_lay
theorem dX2_times_0 : decode cX2_times 0 = .ok (.aload_n 0, 1) := by decide +kernel
theorem dX2_times_1 : decode cX2_times 1 = .ok (.aload_n 0, 1) := by decide +kernel
theorem dX2_times_2 : decode cX2_times 2 = .ok (.getfield 7, 3) := by decide +kernel
theorem dX2_times_5 : decode cX2_times 5 = .ok (.lload_n 1, 1) := by decide +kernel
theorem dX2_times_6 : decode cX2_times 6 = .ok (.lmul, 1) := by decide +kernel
theorem dX2_times_7 : decode cX2_times 7 = .ok (.aload_n 0, 1) := by decide +kernel
theorem dX2_times_8 : decode cX2_times 8 = .ok (.getfield 13, 3) := by decide +kernel
theorem dX2_times_11 : decode cX2_times 11 = .ok (.lload_n 3, 1) := by decide +kernel
theorem dX2_times_12 : decode cX2_times 12 = .ok (.lmul, 1) := by decide +kernel
theorem dX2_times_13 : decode cX2_times 13 = .ok (.invokevirtual 20, 3) := by decide +kernel
theorem dX2_times_16 : decode cX2_times 16 = .ok (.return_, 1) := by decide +kernel
theorem dX2_part_0 : decode cX2_part 0 = .ok (.iload_n 1, 1) := by decide +kernel
theorem dX2_part_1 : decode cX2_part 1 = .ok (.ifCond .ne 10, 3) := by decide +kernel
theorem dX2_part_4 : decode cX2_part 4 = .ok (.aload_n 0, 1) := by decide +kernel
theorem dX2_part_5 : decode cX2_part 5 = .ok (.getfield 7, 3) := by decide +kernel
theorem dX2_part_8 : decode cX2_part 8 = .ok (.goto 7, 3) := by decide +kernel
theorem dX2_part_11 : decode cX2_part 11 = .ok (.aload_n 0, 1) := by decide +kernel
theorem dX2_part_12 : decode cX2_part 12 = .ok (.getfield 13, 3) := by decide +kernel
theorem dX2_part_15 : decode cX2_part 15 = .ok (.lreturn, 1) := by decide +kernel
theorem dX2_commonOf_0 : decode cX2_commonOf 0 = .ok (.lload_n 0, 1) := by decide +kernel
theorem dX2_commonOf_1 : decode cX2_commonOf 1 = .ok (.lstore 4, 2) := by decide +kernel
theorem dX2_commonOf_3 : decode cX2_commonOf 3 = .ok (.lload_n 2, 1) := by decide +kernel
theorem dX2_commonOf_4 : decode cX2_commonOf 4 = .ok (.lstore 6, 2) := by decide +kernel
theorem dX2_commonOf_6 : decode cX2_commonOf 6 = .ok (.iconst 0, 1) := by decide +kernel
theorem dX2_commonOf_7 : decode cX2_commonOf 7 = .ok (.istore 8, 2) := by decide +kernel
theorem dX2_commonOf_9 : decode cX2_commonOf 9 = .ok (.iload 8, 2) := by decide +kernel
theorem dX2_commonOf_11 : decode cX2_commonOf 11 = .ok (.sipush 200, 3) := by decide +kernel
theorem dX2_commonOf_14 : decode cX2_commonOf 14 = .ok (.if_icmp .ge 31, 3) := by decide +kernel
theorem dX2_commonOf_17 : decode cX2_commonOf 17 = .ok (.lload 6, 2) := by decide +kernel
theorem dX2_commonOf_19 : decode cX2_commonOf 19 = .ok (.lconst 0, 1) := by decide +kernel
theorem dX2_commonOf_20 : decode cX2_commonOf 20 = .ok (.lcmp, 1) := by decide +kernel
theorem dX2_commonOf_21 : decode cX2_commonOf 21 = .ok (.ifCond .eq 24, 3) := by decide +kernel
theorem dX2_commonOf_24 : decode cX2_commonOf 24 = .ok (.lload 4, 2) := by decide +kernel
theorem dX2_commonOf_26 : decode cX2_commonOf 26 = .ok (.lload 6, 2) := by decide +kernel
theorem dX2_commonOf_28 : decode cX2_commonOf 28 = .ok (.lrem, 1) := by decide +kernel
theorem dX2_commonOf_29 : decode cX2_commonOf 29 = .ok (.lstore 9, 2) := by decide +kernel
theorem dX2_commonOf_31 : decode cX2_commonOf 31 = .ok (.lload 6, 2) := by decide +kernel
theorem dX2_commonOf_33 : decode cX2_commonOf 33 = .ok (.lstore 4, 2) := by decide +kernel
theorem dX2_commonOf_35 : decode cX2_commonOf 35 = .ok (.lload 9, 2) := by decide +kernel
theorem dX2_commonOf_37 : decode cX2_commonOf 37 = .ok (.lstore 6, 2) := by decide +kernel
theorem dX2_commonOf_39 : decode cX2_commonOf 39 = .ok (.iinc 8 1, 3) := by decide +kernel
theorem dX2_commonOf_42 : decode cX2_commonOf 42 = .ok (.goto (-33), 3) := by decide +kernel
theorem dX2_commonOf_45 : decode cX2_commonOf 45 = .ok (.lload 4, 2) := by decide +kernel
theorem dX2_commonOf_47 : decode cX2_commonOf 47 = .ok (.lreturn, 1) := by decide +kernel
set_option maxRecDepth 20000 in
theorem ggX3_init_X10_init : GoodIn wsX3_init wsX10_init := goodIn_r _ [11, 12, 2, 3, 13, 14, 15, 16, 17, 18, 19] (by decide +kernel) (by decide +kernel)
set_option maxRecDepth 20000 in
theorem gX3_init_X10_init_n11 : GoodIn wsX3_init (wsX10_init) := ggX3_init_X10_init
theorem dX3_init_0 : decode cX3_init 0 = .ok (.aload_n 0, 1) := by decide +kernel
theorem dX3_init_1 : decode cX3_init 1 = .ok (.invokespecial 3, 3) := by decide +kernel
theorem dX3_init_4 : decode cX3_init 4 = .ok (.aload_n 0, 1) := by decide +kernel
theorem dX3_init_5 : decode cX3_init 5 = .ok (.new 9, 3) := by decide +kernel
theorem dX3_init_8 : decode cX3_init 8 = .ok (.dup, 1) := by decide +kernel
theorem dX3_init_9 : decode cX3_init 9 = .ok (.invokespecial 11, 3) := by decide +kernel
theorem dX3_init_12 : decode cX3_init 12 = .ok (.putfield 12, 3) := by decide +kernel
theorem dX3_init_15 : decode cX3_init 15 = .ok (.aload_n 0, 1) := by decide +kernel
theorem dX3_init_16 : decode cX3_init 16 = .ok (.iconst 0, 1) := by decide +kernel
theorem dX3_init_17 : decode cX3_init 17 = .ok (.putfield 18, 3) := by decide +kernel
theorem dX3_init_20 : decode cX3_init 20 = .ok (.aload_n 0, 1) := by decide +kernel
theorem dX3_init_21 : decode cX3_init 21 = .ok (.iconst (-1), 1) := by decide +kernel
theorem dX3_init_22 : decode cX3_init 22 = .ok (.putfield 22, 3) := by decide +kernel
theorem dX3_init_25 : decode cX3_init 25 = .ok (.return_, 1) := by decide +kernel
set_option maxRecDepth 20000 in
theorem ggX3_read_X10_cut : GoodIn wsX3_read wsX10_cut := goodIn_r _ [9, 10, 11, 12, 13, 8, 14, 15, 16, 17, 18, 19, 20, 21, 22, 23, 24, 25, 26, 27, 28, 29, 30, 31, 32, 33, 34, 35, 36, 37, 38, 39, 40, 41, 42, 43, 44, 45, 46, 47, 48, 49, 50, 51, 52, 53, 54, 55, 56, 57, 58, 59, 60, 61, 62, 63, 64, 65, 66, 67, 68, 69, 70, 71, 72, 73, 74, 75, 76, 77, 78, 79, 80, 81, 82, 83, 84, 85, 86, 87, 88, 89, 90, 91, 92, 93, 94, 95, 96, 97, 98, 99, 100, 101, 102, 103, 104, 105, 106, 107, 108, 109, 110, 111, 112, 113, 114, 115, 116, 117, 118, 119, 120, 121, 122, 123, 124, 125, 126, 127, 128, 129, 130, 131, 132, 133, 134, 135, 136, 137, 138, 139, 140, 141, 142, 143, 144, 145, 146, 147, 148, 149, 150, 151, 152, 153, 154, 155, 156, 157, 158, 159, 160, 161, 162, 163, 164, 165, 217, 218, 219, 220, 221] (by decide +kernel) (by decide +kernel)
set_option maxRecDepth 20000 in
theorem gX3_read_X10_cut : GoodIn wsX3_read (wsV RX3 25 RX10 yX10_cut wsX10_cut) := goodIn_app (goodIn_of _ (by decide +kernel)) ggX3_read_X10_cut
set_option maxRecDepth 20000 in
theorem ggX3_read_X3_pass : GoodIn wsX3_read wsX3_pass := goodIn_r _ [170, 3, 1, 2, 171, 172, 173, 8, 174, 10, 164, 175, 176, 177, 169, 178, 179, 180, 181, 182, 165, 210, 211, 212, 217, 218, 219] (by decide +kernel) (by decide +kernel)
set_option maxRecDepth 20000 in
theorem gX3_read_X3_pass : GoodIn wsX3_read (wsV RX3 34 RX3 yX3_pass wsX3_pass) := goodIn_app (goodIn_of _ (by decide +kernel)) ggX3_read_X3_pass
set_option maxRecDepth 20000 in
theorem ggX3_read_X3_readLevel : GoodIn wsX3_read wsX3_readLevel := goodIn_r _ [186, 1, 2, 3, 187, 188, 189, 169, 171, 172, 173, 8, 174, 10, 164, 190, 191, 192, 183, 184, 185, 193, 194, 195, 196, 197, 198, 199, 200, 201, 202, 203, 175, 176, 177, 178, 179, 180, 181, 182, 165, 204, 166, 167, 168, 170, 210, 211, 212, 217, 218, 219, 213, 214, 215, 216] (by decide +kernel) (by decide +kernel)
set_option maxRecDepth 20000 in
theorem gX3_read_X3_readLevel : GoodIn wsX3_read (wsV RX3 38 RX3 yX3_readLevel wsX3_readLevel) := goodIn_app (goodIn_of _ (by decide +kernel)) ggX3_read_X3_readLevel
set_option maxRecDepth 20000 in
theorem ggX3_read_X8_endPart : GoodIn wsX3_read wsX8_endPart := goodIn_r _ [208, 209, 201, 213, 214, 215, 216] (by decide +kernel) (by decide +kernel)
set_option maxRecDepth 20000 in
theorem gX3_read_X8_endPart : GoodIn wsX3_read (wsV RX3 42 RX8 yX8_endPart wsX8_endPart) := goodIn_app (goodIn_of _ (by decide +kernel)) ggX3_read_X8_endPart
theorem dX3_read_0 : decode cX3_read 0 = .ok (.aload_n 0, 1) := by decide +kernel
theorem dX3_read_1 : decode cX3_read 1 = .ok (.getfield 12, 3) := by decide +kernel
theorem dX3_read_4 : decode cX3_read 4 = .ok (.aload_n 1, 1) := by decide +kernel
theorem dX3_read_5 : decode cX3_read 5 = .ok (.invokevirtual 25, 3) := by decide +kernel
theorem dX3_read_8 : decode cX3_read 8 = .ok (.aload_n 0, 1) := by decide +kernel
theorem dX3_read_9 : decode cX3_read 9 = .ok (.iconst 0, 1) := by decide +kernel
theorem dX3_read_10 : decode cX3_read 10 = .ok (.putfield 18, 3) := by decide +kernel
theorem dX3_read_13 : decode cX3_read 13 = .ok (.aload_n 0, 1) := by decide +kernel
theorem dX3_read_14 : decode cX3_read 14 = .ok (.iconst (-1), 1) := by decide +kernel
theorem dX3_read_15 : decode cX3_read 15 = .ok (.putfield 22, 3) := by decide +kernel
theorem dX3_read_18 : decode cX3_read 18 = .ok (.aload_n 2, 1) := by decide +kernel
theorem dX3_read_19 : decode cX3_read 19 = .ok (.iconst 0, 1) := by decide +kernel
theorem dX3_read_20 : decode cX3_read 20 = .ok (.putfield 29, 3) := by decide +kernel
theorem dX3_read_23 : decode cX3_read 23 = .ok (.iconst 0, 1) := by decide +kernel
theorem dX3_read_24 : decode cX3_read 24 = .ok (.istore_n 3, 1) := by decide +kernel
theorem dX3_read_25 : decode cX3_read 25 = .ok (.iload_n 3, 1) := by decide +kernel
theorem dX3_read_26 : decode cX3_read 26 = .ok (.iconst 3, 1) := by decide +kernel
theorem dX3_read_27 : decode cX3_read 27 = .ok (.if_icmp .ge 35, 3) := by decide +kernel
theorem dX3_read_30 : decode cX3_read 30 = .ok (.aload_n 0, 1) := by decide +kernel
theorem dX3_read_31 : decode cX3_read 31 = .ok (.bipush 6, 2) := by decide +kernel
theorem dX3_read_33 : decode cX3_read 33 = .ok (.iload_n 3, 1) := by decide +kernel
theorem dX3_read_34 : decode cX3_read 34 = .ok (.iadd, 1) := by decide +kernel
theorem dX3_read_35 : decode cX3_read 35 = .ok (.invokevirtual 34, 3) := by decide +kernel
theorem dX3_read_38 : decode cX3_read 38 = .ok (.aload_n 0, 1) := by decide +kernel
theorem dX3_read_39 : decode cX3_read 39 = .ok (.aload_n 2, 1) := by decide +kernel
theorem dX3_read_40 : decode cX3_read 40 = .ok (.iconst 0, 1) := by decide +kernel
theorem dX3_read_41 : decode cX3_read 41 = .ok (.iconst 0, 1) := by decide +kernel
theorem dX3_read_42 : decode cX3_read 42 = .ok (.invokevirtual 38, 3) := by decide +kernel
theorem dX3_read_45 : decode cX3_read 45 = .ok (.aload_n 0, 1) := by decide +kernel
theorem dX3_read_46 : decode cX3_read 46 = .ok (.bipush 14, 2) := by decide +kernel
theorem dX3_read_48 : decode cX3_read 48 = .ok (.invokevirtual 34, 3) := by decide +kernel
theorem dX3_read_51 : decode cX3_read 51 = .ok (.aload_n 2, 1) := by decide +kernel
theorem dX3_read_52 : decode cX3_read 52 = .ok (.iload_n 3, 1) := by decide +kernel
theorem dX3_read_53 : decode cX3_read 53 = .ok (.invokevirtual 42, 3) := by decide +kernel
theorem dX3_read_56 : decode cX3_read 56 = .ok (.iinc 3 1, 3) := by decide +kernel
theorem dX3_read_59 : decode cX3_read 59 = .ok (.goto (-34), 3) := by decide +kernel
theorem dX3_read_62 : decode cX3_read 62 = .ok (.aload_n 0, 1) := by decide +kernel
theorem dX3_read_63 : decode cX3_read 63 = .ok (.bipush 21, 2) := by decide +kernel
theorem dX3_read_65 : decode cX3_read 65 = .ok (.invokevirtual 34, 3) := by decide +kernel
theorem dX3_read_68 : decode cX3_read 68 = .ok (.aload_n 0, 1) := by decide +kernel
theorem dX3_read_69 : decode cX3_read 69 = .ok (.getfield 22, 3) := by decide +kernel
theorem dX3_read_72 : decode cX3_read 72 = .ok (.ireturn, 1) := by decide +kernel
set_option maxRecDepth 20000 in
theorem ggX3_fail_X10_placeAt : GoodIn wsX3_fail wsX10_placeAt := goodIn_r _ [8, 9, 10, 14, 15, 16] (by decide +kernel) (by decide +kernel)
set_option maxRecDepth 20000 in
theorem gX3_fail_X10_placeAt : GoodIn wsX3_fail (wsV RX3 45 RX10 yX10_placeAt wsX10_placeAt) := goodIn_app (goodIn_of _ (by decide +kernel)) ggX3_fail_X10_placeAt
theorem dX3_fail_0 : decode cX3_fail 0 = .ok (.aload_n 0, 1) := by decide +kernel
theorem dX3_fail_1 : decode cX3_fail 1 = .ok (.getfield 22, 3) := by decide +kernel
theorem dX3_fail_4 : decode cX3_fail 4 = .ok (.iconst (-1), 1) := by decide +kernel
theorem dX3_fail_5 : decode cX3_fail 5 = .ok (.if_icmp .ne 18, 3) := by decide +kernel
theorem dX3_fail_8 : decode cX3_fail 8 = .ok (.aload_n 0, 1) := by decide +kernel
theorem dX3_fail_9 : decode cX3_fail 9 = .ok (.aload_n 0, 1) := by decide +kernel
theorem dX3_fail_10 : decode cX3_fail 10 = .ok (.getfield 12, 3) := by decide +kernel
theorem dX3_fail_13 : decode cX3_fail 13 = .ok (.aload_n 0, 1) := by decide +kernel
theorem dX3_fail_14 : decode cX3_fail 14 = .ok (.getfield 18, 3) := by decide +kernel
theorem dX3_fail_17 : decode cX3_fail 17 = .ok (.invokevirtual 45, 3) := by decide +kernel
theorem dX3_fail_20 : decode cX3_fail 20 = .ok (.putfield 22, 3) := by decide +kernel
theorem dX3_fail_23 : decode cX3_fail 23 = .ok (.return_, 1) := by decide +kernel
set_option maxRecDepth 20000 in
theorem ggX3_pass_X10_tokenAt : GoodIn wsX3_pass wsX10_tokenAt := goodIn_r _ [8, 9, 10, 24, 25, 26] (by decide +kernel) (by decide +kernel)
set_option maxRecDepth 20000 in
theorem gX3_pass_X10_tokenAt : GoodIn wsX3_pass (wsV RX3 49 RX10 yX10_tokenAt wsX10_tokenAt) := goodIn_app (goodIn_of _ (by decide +kernel)) ggX3_pass_X10_tokenAt
set_option maxRecDepth 20000 in
theorem ggX3_pass_X3_fail : GoodIn wsX3_pass wsX3_fail := goodIn_r _ [15, 1, 2, 3, 16, 17, 18, 7, 19, 9, 20, 21, 22, 23, 24, 25, 26] (by decide +kernel) (by decide +kernel)
set_option maxRecDepth 20000 in
theorem gX3_pass_X3_fail : GoodIn wsX3_pass (wsV RX3 52 RX3 yX3_fail wsX3_fail) := goodIn_app (goodIn_of _ (by decide +kernel)) ggX3_pass_X3_fail
theorem dX3_pass_0 : decode cX3_pass 0 = .ok (.aload_n 0, 1) := by decide +kernel
theorem dX3_pass_1 : decode cX3_pass 1 = .ok (.getfield 22, 3) := by decide +kernel
theorem dX3_pass_4 : decode cX3_pass 4 = .ok (.iconst (-1), 1) := by decide +kernel
theorem dX3_pass_5 : decode cX3_pass 5 = .ok (.if_icmp .ne 31, 3) := by decide +kernel
theorem dX3_pass_8 : decode cX3_pass 8 = .ok (.aload_n 0, 1) := by decide +kernel
theorem dX3_pass_9 : decode cX3_pass 9 = .ok (.getfield 12, 3) := by decide +kernel
theorem dX3_pass_12 : decode cX3_pass 12 = .ok (.aload_n 0, 1) := by decide +kernel
theorem dX3_pass_13 : decode cX3_pass 13 = .ok (.getfield 18, 3) := by decide +kernel
theorem dX3_pass_16 : decode cX3_pass 16 = .ok (.invokevirtual 49, 3) := by decide +kernel
theorem dX3_pass_19 : decode cX3_pass 19 = .ok (.iload_n 1, 1) := by decide +kernel
theorem dX3_pass_20 : decode cX3_pass 20 = .ok (.if_icmp .ne 16, 3) := by decide +kernel
theorem dX3_pass_23 : decode cX3_pass 23 = .ok (.aload_n 0, 1) := by decide +kernel
theorem dX3_pass_24 : decode cX3_pass 24 = .ok (.dup, 1) := by decide +kernel
theorem dX3_pass_25 : decode cX3_pass 25 = .ok (.getfield 18, 3) := by decide +kernel
theorem dX3_pass_28 : decode cX3_pass 28 = .ok (.iconst 1, 1) := by decide +kernel
theorem dX3_pass_29 : decode cX3_pass 29 = .ok (.iadd, 1) := by decide +kernel
theorem dX3_pass_30 : decode cX3_pass 30 = .ok (.putfield 18, 3) := by decide +kernel
theorem dX3_pass_33 : decode cX3_pass 33 = .ok (.goto 7, 3) := by decide +kernel
theorem dX3_pass_36 : decode cX3_pass 36 = .ok (.aload_n 0, 1) := by decide +kernel
theorem dX3_pass_37 : decode cX3_pass 37 = .ok (.invokevirtual 52, 3) := by decide +kernel
theorem dX3_pass_40 : decode cX3_pass 40 = .ok (.return_, 1) := by decide +kernel
set_option maxRecDepth 20000 in
theorem ggX3_readLevel_X3_readOne : GoodIn wsX3_readLevel wsX3_readOne := goodIn_r _ [41, 1, 2, 3, 8, 9, 10, 11, 12, 13, 14, 24, 25, 26, 27, 28, 29, 30, 4, 5, 6, 7, 18, 19, 20, 42, 43, 44, 45, 32, 33, 34, 35, 36, 37, 38, 39, 40, 0, 15, 16, 17, 21, 22, 23, 31, 46, 47, 48, 49, 50, 51, 52, 53, 54, 55] (by decide +kernel) (by decide +kernel)
set_option maxRecDepth 20000 in
theorem gX3_readLevel_X3_readOne : GoodIn wsX3_readLevel (wsV RX3 55 RX3 yX3_readOne wsX3_readOne) := goodIn_app (goodIn_of _ (by decide +kernel)) ggX3_readLevel_X3_readOne
set_option maxRecDepth 20000 in
theorem ggX3_readLevel_X10_tokenAt : GoodIn wsX3_readLevel wsX10_tokenAt := goodIn_r _ [12, 13, 14, 49, 50, 51] (by decide +kernel) (by decide +kernel)
set_option maxRecDepth 20000 in
theorem gX3_readLevel_X10_tokenAt : GoodIn wsX3_readLevel (wsV RX3 49 RX10 yX10_tokenAt wsX10_tokenAt) := goodIn_app (goodIn_of _ (by decide +kernel)) ggX3_readLevel_X10_tokenAt
set_option maxRecDepth 20000 in
theorem ggX3_readLevel_X3_readNot : GoodIn wsX3_readLevel wsX3_readNot := goodIn_r _ [31, 3, 2, 32, 33, 34, 7, 35, 1, 36, 37, 38, 11, 39, 13, 40, 18, 19, 20, 24, 25, 26, 27, 28, 29, 30, 0, 4, 5, 6, 8, 9, 10, 12, 14, 15, 16, 17, 21, 22, 23, 41, 42, 43, 44, 45, 46, 47, 48, 49, 50, 51, 52, 53, 54, 55] (by decide +kernel) (by decide +kernel)
set_option maxRecDepth 20000 in
theorem gX3_readLevel_X3_readNot : GoodIn wsX3_readLevel (wsV RX3 59 RX3 yX3_readNot wsX3_readNot) := goodIn_app (goodIn_of _ (by decide +kernel)) ggX3_readLevel_X3_readNot
set_option maxRecDepth 20000 in
theorem ggX3_readLevel_X3_readLevel : GoodIn wsX3_readLevel wsX3_readLevel := goodIn_r _ [0, 1, 2, 3, 4, 5, 6, 7, 8, 9, 10, 11, 12, 13, 14, 15, 16, 17, 18, 19, 20, 21, 22, 23, 24, 25, 26, 27, 28, 29, 30, 31, 32, 33, 34, 35, 36, 37, 38, 39, 40, 41, 42, 43, 44, 45, 46, 47, 48, 49, 50, 51, 52, 53, 54, 55] (by decide +kernel) (by decide +kernel)
set_option maxRecDepth 20000 in
theorem gX3_readLevel_X3_readLevel : GoodIn wsX3_readLevel (wsV RX3 38 RX3 yX3_readLevel wsX3_readLevel) := goodIn_app (goodIn_of _ (by decide +kernel)) ggX3_readLevel_X3_readLevel
set_option maxRecDepth 20000 in
theorem ggX3_readLevel_X3_levelOf : GoodIn wsX3_readLevel wsX3_levelOf := goodIn_r _ [23] (by decide +kernel) (by decide +kernel)
set_option maxRecDepth 20000 in
theorem gX3_readLevel_X3_levelOf : GoodIn wsX3_readLevel (va_wsS RX3 62 yX3_levelOf wsX3_levelOf) := goodIn_app (goodIn_of _ (by decide +kernel)) ggX3_readLevel_X3_levelOf
set_option maxRecDepth 20000 in
theorem ggX3_readLevel_X8_add : GoodIn wsX3_readLevel wsX8_add := goodIn_r _ [28, 29, 30, 52, 53, 54, 55] (by decide +kernel) (by decide +kernel)
set_option maxRecDepth 20000 in
theorem gX3_readLevel_X8_add : GoodIn wsX3_readLevel (wsV RX3 65 RX8 yX8_add wsX8_add) := goodIn_app (goodIn_of _ (by decide +kernel)) ggX3_readLevel_X8_add
theorem dX3_readLevel_0 : decode cX3_readLevel 0 = .ok (.iload_n 2, 1) := by decide +kernel
theorem dX3_readLevel_1 : decode cX3_readLevel 1 = .ok (.iconst 4, 1) := by decide +kernel
theorem dX3_readLevel_2 : decode cX3_readLevel 2 = .ok (.if_icmp .le 10, 3) := by decide +kernel
theorem dX3_readLevel_5 : decode cX3_readLevel 5 = .ok (.aload_n 0, 1) := by decide +kernel
theorem dX3_readLevel_6 : decode cX3_readLevel 6 = .ok (.aload_n 1, 1) := by decide +kernel
theorem dX3_readLevel_7 : decode cX3_readLevel 7 = .ok (.iload_n 3, 1) := by decide +kernel
theorem dX3_readLevel_8 : decode cX3_readLevel 8 = .ok (.invokevirtual 55, 3) := by decide +kernel
theorem dX3_readLevel_11 : decode cX3_readLevel 11 = .ok (.return_, 1) := by decide +kernel
theorem dX3_readLevel_12 : decode cX3_readLevel 12 = .ok (.iload_n 2, 1) := by decide +kernel
theorem dX3_readLevel_13 : decode cX3_readLevel 13 = .ok (.iconst 2, 1) := by decide +kernel
theorem dX3_readLevel_14 : decode cX3_readLevel 14 = .ok (.if_icmp .ne 26, 3) := by decide +kernel
theorem dX3_readLevel_17 : decode cX3_readLevel 17 = .ok (.aload_n 0, 1) := by decide +kernel
theorem dX3_readLevel_18 : decode cX3_readLevel 18 = .ok (.getfield 12, 3) := by decide +kernel
theorem dX3_readLevel_21 : decode cX3_readLevel 21 = .ok (.aload_n 0, 1) := by decide +kernel
theorem dX3_readLevel_22 : decode cX3_readLevel 22 = .ok (.getfield 18, 3) := by decide +kernel
theorem dX3_readLevel_25 : decode cX3_readLevel 25 = .ok (.invokevirtual 49, 3) := by decide +kernel
theorem dX3_readLevel_28 : decode cX3_readLevel 28 = .ok (.bipush 11, 2) := by decide +kernel
theorem dX3_readLevel_30 : decode cX3_readLevel 30 = .ok (.if_icmp .ne 10, 3) := by decide +kernel
theorem dX3_readLevel_33 : decode cX3_readLevel 33 = .ok (.aload_n 0, 1) := by decide +kernel
theorem dX3_readLevel_34 : decode cX3_readLevel 34 = .ok (.aload_n 1, 1) := by decide +kernel
theorem dX3_readLevel_35 : decode cX3_readLevel 35 = .ok (.iload_n 3, 1) := by decide +kernel
theorem dX3_readLevel_36 : decode cX3_readLevel 36 = .ok (.invokevirtual 59, 3) := by decide +kernel
theorem dX3_readLevel_39 : decode cX3_readLevel 39 = .ok (.return_, 1) := by decide +kernel
theorem dX3_readLevel_40 : decode cX3_readLevel 40 = .ok (.aload_n 0, 1) := by decide +kernel
theorem dX3_readLevel_41 : decode cX3_readLevel 41 = .ok (.aload_n 1, 1) := by decide +kernel
theorem dX3_readLevel_42 : decode cX3_readLevel 42 = .ok (.iload_n 2, 1) := by decide +kernel
theorem dX3_readLevel_43 : decode cX3_readLevel 43 = .ok (.iconst 1, 1) := by decide +kernel
theorem dX3_readLevel_44 : decode cX3_readLevel 44 = .ok (.iadd, 1) := by decide +kernel
theorem dX3_readLevel_45 : decode cX3_readLevel 45 = .ok (.iload_n 3, 1) := by decide +kernel
theorem dX3_readLevel_46 : decode cX3_readLevel 46 = .ok (.invokevirtual 38, 3) := by decide +kernel
theorem dX3_readLevel_49 : decode cX3_readLevel 49 = .ok (.iconst 0, 1) := by decide +kernel
theorem dX3_readLevel_50 : decode cX3_readLevel 50 = .ok (.istore 4, 2) := by decide +kernel
theorem dX3_readLevel_52 : decode cX3_readLevel 52 = .ok (.iload 4, 2) := by decide +kernel
theorem dX3_readLevel_54 : decode cX3_readLevel 54 = .ok (.sipush 160, 3) := by decide +kernel
theorem dX3_readLevel_57 : decode cX3_readLevel 57 = .ok (.if_icmp .ge 71, 3) := by decide +kernel
theorem dX3_readLevel_60 : decode cX3_readLevel 60 = .ok (.aload_n 0, 1) := by decide +kernel
theorem dX3_readLevel_61 : decode cX3_readLevel 61 = .ok (.getfield 22, 3) := by decide +kernel
theorem dX3_readLevel_64 : decode cX3_readLevel 64 = .ok (.iconst (-1), 1) := by decide +kernel
theorem dX3_readLevel_65 : decode cX3_readLevel 65 = .ok (.if_icmp .ne 63, 3) := by decide +kernel
theorem dX3_readLevel_68 : decode cX3_readLevel 68 = .ok (.aload_n 0, 1) := by decide +kernel
theorem dX3_readLevel_69 : decode cX3_readLevel 69 = .ok (.getfield 12, 3) := by decide +kernel
theorem dX3_readLevel_72 : decode cX3_readLevel 72 = .ok (.aload_n 0, 1) := by decide +kernel
theorem dX3_readLevel_73 : decode cX3_readLevel 73 = .ok (.getfield 18, 3) := by decide +kernel
theorem dX3_readLevel_76 : decode cX3_readLevel 76 = .ok (.invokevirtual 49, 3) := by decide +kernel
theorem dX3_readLevel_79 : decode cX3_readLevel 79 = .ok (.istore 5, 2) := by decide +kernel
theorem dX3_readLevel_81 : decode cX3_readLevel 81 = .ok (.iload 5, 2) := by decide +kernel
theorem dX3_readLevel_83 : decode cX3_readLevel 83 = .ok (.invokestatic 62, 3) := by decide +kernel
theorem dX3_readLevel_86 : decode cX3_readLevel 86 = .ok (.iload_n 2, 1) := by decide +kernel
theorem dX3_readLevel_87 : decode cX3_readLevel 87 = .ok (.if_icmp .eq 4, 3) := by decide +kernel
theorem dX3_readLevel_90 : decode cX3_readLevel 90 = .ok (.return_, 1) := by decide +kernel
theorem dX3_readLevel_91 : decode cX3_readLevel 91 = .ok (.aload_n 0, 1) := by decide +kernel
theorem dX3_readLevel_92 : decode cX3_readLevel 92 = .ok (.dup, 1) := by decide +kernel
theorem dX3_readLevel_93 : decode cX3_readLevel 93 = .ok (.getfield 18, 3) := by decide +kernel
theorem dX3_readLevel_96 : decode cX3_readLevel 96 = .ok (.iconst 1, 1) := by decide +kernel
theorem dX3_readLevel_97 : decode cX3_readLevel 97 = .ok (.iadd, 1) := by decide +kernel
theorem dX3_readLevel_98 : decode cX3_readLevel 98 = .ok (.putfield 18, 3) := by decide +kernel
theorem dX3_readLevel_101 : decode cX3_readLevel 101 = .ok (.aload_n 0, 1) := by decide +kernel
theorem dX3_readLevel_102 : decode cX3_readLevel 102 = .ok (.aload_n 1, 1) := by decide +kernel
theorem dX3_readLevel_103 : decode cX3_readLevel 103 = .ok (.iload_n 2, 1) := by decide +kernel
theorem dX3_readLevel_104 : decode cX3_readLevel 104 = .ok (.iconst 1, 1) := by decide +kernel
theorem dX3_readLevel_105 : decode cX3_readLevel 105 = .ok (.iadd, 1) := by decide +kernel
theorem dX3_readLevel_106 : decode cX3_readLevel 106 = .ok (.iload_n 3, 1) := by decide +kernel
theorem dX3_readLevel_107 : decode cX3_readLevel 107 = .ok (.invokevirtual 38, 3) := by decide +kernel
theorem dX3_readLevel_110 : decode cX3_readLevel 110 = .ok (.aload_n 1, 1) := by decide +kernel
theorem dX3_readLevel_111 : decode cX3_readLevel 111 = .ok (.iload 5, 2) := by decide +kernel
theorem dX3_readLevel_113 : decode cX3_readLevel 113 = .ok (.invokevirtual 65, 3) := by decide +kernel
theorem dX3_readLevel_116 : decode cX3_readLevel 116 = .ok (.iload_n 2, 1) := by decide +kernel
theorem dX3_readLevel_117 : decode cX3_readLevel 117 = .ok (.iconst 2, 1) := by decide +kernel
theorem dX3_readLevel_118 : decode cX3_readLevel 118 = .ok (.if_icmp .ne 4, 3) := by decide +kernel
theorem dX3_readLevel_121 : decode cX3_readLevel 121 = .ok (.return_, 1) := by decide +kernel
theorem dX3_readLevel_122 : decode cX3_readLevel 122 = .ok (.iinc 4 1, 3) := by decide +kernel
theorem dX3_readLevel_125 : decode cX3_readLevel 125 = .ok (.goto (-73), 3) := by decide +kernel
theorem dX3_readLevel_128 : decode cX3_readLevel 128 = .ok (.return_, 1) := by decide +kernel
set_option maxRecDepth 20000 in
theorem ggX3_readNot_X3_fail : GoodIn wsX3_readNot wsX3_fail := goodIn_r _ [7, 1, 8, 2, 9, 10, 11, 12, 13, 14, 15, 46, 47, 48, 49, 50, 51] (by decide +kernel) (by decide +kernel)
set_option maxRecDepth 20000 in
theorem gX3_readNot_X3_fail : GoodIn wsX3_readNot (wsV RX3 52 RX3 yX3_fail wsX3_fail) := goodIn_app (goodIn_of _ (by decide +kernel)) ggX3_readNot_X3_fail
set_option maxRecDepth 20000 in
theorem ggX3_readNot_X3_readLevel : GoodIn wsX3_readNot wsX3_readLevel := goodIn_r _ [26, 8, 2, 1, 27, 28, 29, 6, 30, 31, 32, 12, 33, 14, 34, 35, 36, 37, 16, 17, 18, 38, 39, 40, 19, 20, 21, 22, 23, 24, 25, 0, 3, 4, 5, 7, 9, 10, 11, 13, 15, 41, 42, 43, 44, 45, 46, 47, 48, 49, 50, 51, 52, 53, 54, 55] (by decide +kernel) (by decide +kernel)
set_option maxRecDepth 20000 in
theorem gX3_readNot_X3_readLevel : GoodIn wsX3_readNot (wsV RX3 38 RX3 yX3_readLevel wsX3_readLevel) := goodIn_app (goodIn_of _ (by decide +kernel)) ggX3_readNot_X3_readLevel
set_option maxRecDepth 20000 in
theorem ggX3_readNot_X8_add : GoodIn wsX3_readNot wsX8_add := goodIn_r _ [23, 24, 25, 52, 53, 54, 55] (by decide +kernel) (by decide +kernel)
set_option maxRecDepth 20000 in
theorem gX3_readNot_X8_add : GoodIn wsX3_readNot (wsV RX3 65 RX8 yX8_add wsX8_add) := goodIn_app (goodIn_of _ (by decide +kernel)) ggX3_readNot_X8_add
theorem dX3_readNot_0 : decode cX3_readNot 0 = .ok (.aload_n 0, 1) := by decide +kernel
theorem dX3_readNot_1 : decode cX3_readNot 1 = .ok (.getfield 22, 3) := by decide +kernel
theorem dX3_readNot_4 : decode cX3_readNot 4 = .ok (.iconst (-1), 1) := by decide +kernel
theorem dX3_readNot_5 : decode cX3_readNot 5 = .ok (.if_icmp .ne 8, 3) := by decide +kernel
theorem dX3_readNot_8 : decode cX3_readNot 8 = .ok (.iload_n 2, 1) := by decide +kernel
theorem dX3_readNot_9 : decode cX3_readNot 9 = .ok (.iconst 5, 1) := by decide +kernel
theorem dX3_readNot_10 : decode cX3_readNot 10 = .ok (.if_icmp .lt 8, 3) := by decide +kernel
theorem dX3_readNot_13 : decode cX3_readNot 13 = .ok (.aload_n 0, 1) := by decide +kernel
theorem dX3_readNot_14 : decode cX3_readNot 14 = .ok (.invokevirtual 52, 3) := by decide +kernel
theorem dX3_readNot_17 : decode cX3_readNot 17 = .ok (.return_, 1) := by decide +kernel
theorem dX3_readNot_18 : decode cX3_readNot 18 = .ok (.aload_n 0, 1) := by decide +kernel
theorem dX3_readNot_19 : decode cX3_readNot 19 = .ok (.dup, 1) := by decide +kernel
theorem dX3_readNot_20 : decode cX3_readNot 20 = .ok (.getfield 18, 3) := by decide +kernel
theorem dX3_readNot_23 : decode cX3_readNot 23 = .ok (.iconst 1, 1) := by decide +kernel
theorem dX3_readNot_24 : decode cX3_readNot 24 = .ok (.iadd, 1) := by decide +kernel
theorem dX3_readNot_25 : decode cX3_readNot 25 = .ok (.putfield 18, 3) := by decide +kernel
theorem dX3_readNot_28 : decode cX3_readNot 28 = .ok (.aload_n 0, 1) := by decide +kernel
theorem dX3_readNot_29 : decode cX3_readNot 29 = .ok (.aload_n 1, 1) := by decide +kernel
theorem dX3_readNot_30 : decode cX3_readNot 30 = .ok (.iconst 2, 1) := by decide +kernel
theorem dX3_readNot_31 : decode cX3_readNot 31 = .ok (.iload_n 2, 1) := by decide +kernel
theorem dX3_readNot_32 : decode cX3_readNot 32 = .ok (.iconst 1, 1) := by decide +kernel
theorem dX3_readNot_33 : decode cX3_readNot 33 = .ok (.iadd, 1) := by decide +kernel
theorem dX3_readNot_34 : decode cX3_readNot 34 = .ok (.invokevirtual 38, 3) := by decide +kernel
theorem dX3_readNot_37 : decode cX3_readNot 37 = .ok (.aload_n 1, 1) := by decide +kernel
theorem dX3_readNot_38 : decode cX3_readNot 38 = .ok (.bipush 11, 2) := by decide +kernel
theorem dX3_readNot_40 : decode cX3_readNot 40 = .ok (.invokevirtual 65, 3) := by decide +kernel
theorem dX3_readNot_43 : decode cX3_readNot 43 = .ok (.return_, 1) := by decide +kernel
set_option maxRecDepth 20000 in
theorem ggX3_readOne_X10_tokenAt : GoodIn wsX3_readOne wsX10_tokenAt := goodIn_r _ [8, 9, 10, 49, 50, 51] (by decide +kernel) (by decide +kernel)
set_option maxRecDepth 20000 in
theorem gX3_readOne_X10_tokenAt : GoodIn wsX3_readOne (wsV RX3 49 RX10 yX10_tokenAt wsX10_tokenAt) := goodIn_app (goodIn_of _ (by decide +kernel)) ggX3_readOne_X10_tokenAt
set_option maxRecDepth 20000 in
theorem ggX3_readOne_X8_add : GoodIn wsX3_readOne wsX8_add := goodIn_r _ [15, 16, 17, 52, 53, 54, 55] (by decide +kernel) (by decide +kernel)
set_option maxRecDepth 20000 in
theorem gX3_readOne_X8_add : GoodIn wsX3_readOne (wsV RX3 65 RX8 yX8_add wsX8_add) := goodIn_app (goodIn_of _ (by decide +kernel)) ggX3_readOne_X8_add
set_option maxRecDepth 20000 in
theorem ggX3_readOne_X3_readOne : GoodIn wsX3_readOne wsX3_readOne := goodIn_r _ [0, 1, 2, 3, 4, 5, 6, 7, 8, 9, 10, 11, 12, 13, 14, 15, 16, 17, 18, 19, 20, 21, 22, 23, 24, 25, 26, 27, 28, 29, 30, 31, 32, 33, 34, 35, 36, 37, 38, 39, 40, 41, 42, 43, 44, 45, 46, 47, 48, 49, 50, 51, 52, 53, 54, 55] (by decide +kernel) (by decide +kernel)
set_option maxRecDepth 20000 in
theorem gX3_readOne_X3_readOne : GoodIn wsX3_readOne (wsV RX3 55 RX3 yX3_readOne wsX3_readOne) := goodIn_app (goodIn_of _ (by decide +kernel)) ggX3_readOne_X3_readOne
set_option maxRecDepth 20000 in
theorem ggX3_readOne_X3_readLevel : GoodIn wsX3_readOne wsX3_readLevel := goodIn_r _ [38, 1, 2, 3, 18, 19, 20, 21, 4, 5, 6, 7, 8, 9, 10, 39, 40, 41, 22, 23, 24, 42, 43, 44, 11, 12, 13, 14, 15, 16, 17, 45, 29, 30, 31, 32, 33, 34, 35, 36, 37, 0, 25, 26, 27, 28, 46, 47, 48, 49, 50, 51, 52, 53, 54, 55] (by decide +kernel) (by decide +kernel)
set_option maxRecDepth 20000 in
theorem gX3_readOne_X3_readLevel : GoodIn wsX3_readOne (wsV RX3 38 RX3 yX3_readLevel wsX3_readLevel) := goodIn_app (goodIn_of _ (by decide +kernel)) ggX3_readOne_X3_readLevel
set_option maxRecDepth 20000 in
theorem ggX3_readOne_X3_pass : GoodIn wsX3_readOne wsX3_pass := goodIn_r _ [28, 3, 1, 2, 4, 5, 6, 7, 8, 9, 10, 29, 30, 31, 21, 32, 33, 34, 35, 36, 37, 46, 47, 48, 49, 50, 51] (by decide +kernel) (by decide +kernel)
set_option maxRecDepth 20000 in
theorem gX3_readOne_X3_pass : GoodIn wsX3_readOne (wsV RX3 34 RX3 yX3_pass wsX3_pass) := goodIn_app (goodIn_of _ (by decide +kernel)) ggX3_readOne_X3_pass
set_option maxRecDepth 20000 in
theorem ggX3_readOne_X3_fail : GoodIn wsX3_readOne wsX3_fail := goodIn_r _ [32, 3, 1, 2, 33, 34, 35, 7, 36, 9, 37, 46, 47, 48, 49, 50, 51] (by decide +kernel) (by decide +kernel)
set_option maxRecDepth 20000 in
theorem gX3_readOne_X3_fail : GoodIn wsX3_readOne (wsV RX3 52 RX3 yX3_fail wsX3_fail) := goodIn_app (goodIn_of _ (by decide +kernel)) ggX3_readOne_X3_fail
theorem dX3_readOne_0 : decode cX3_readOne 0 = .ok (.aload_n 0, 1) := by decide +kernel
theorem dX3_readOne_1 : decode cX3_readOne 1 = .ok (.getfield 12, 3) := by decide +kernel
theorem dX3_readOne_4 : decode cX3_readOne 4 = .ok (.aload_n 0, 1) := by decide +kernel
theorem dX3_readOne_5 : decode cX3_readOne 5 = .ok (.getfield 18, 3) := by decide +kernel
theorem dX3_readOne_8 : decode cX3_readOne 8 = .ok (.invokevirtual 49, 3) := by decide +kernel
theorem dX3_readOne_11 : decode cX3_readOne 11 = .ok (.istore_n 3, 1) := by decide +kernel
theorem dX3_readOne_12 : decode cX3_readOne 12 = .ok (.aload_n 0, 1) := by decide +kernel
theorem dX3_readOne_13 : decode cX3_readOne 13 = .ok (.getfield 22, 3) := by decide +kernel
theorem dX3_readOne_16 : decode cX3_readOne 16 = .ok (.iconst (-1), 1) := by decide +kernel
theorem dX3_readOne_17 : decode cX3_readOne 17 = .ok (.if_icmp .eq 4, 3) := by decide +kernel
theorem dX3_readOne_20 : decode cX3_readOne 20 = .ok (.return_, 1) := by decide +kernel
theorem dX3_readOne_21 : decode cX3_readOne 21 = .ok (.iload_n 3, 1) := by decide +kernel
theorem dX3_readOne_22 : decode cX3_readOne 22 = .ok (.iconst 5, 1) := by decide +kernel
theorem dX3_readOne_23 : decode cX3_readOne 23 = .ok (.if_icmp .le 9, 3) := by decide +kernel
theorem dX3_readOne_26 : decode cX3_readOne 26 = .ok (.iload_n 3, 1) := by decide +kernel
theorem dX3_readOne_27 : decode cX3_readOne 27 = .ok (.bipush 100, 2) := by decide +kernel
theorem dX3_readOne_29 : decode cX3_readOne 29 = .ok (.if_icmp .lt 21, 3) := by decide +kernel
theorem dX3_readOne_32 : decode cX3_readOne 32 = .ok (.aload_n 0, 1) := by decide +kernel
theorem dX3_readOne_33 : decode cX3_readOne 33 = .ok (.dup, 1) := by decide +kernel
theorem dX3_readOne_34 : decode cX3_readOne 34 = .ok (.getfield 18, 3) := by decide +kernel
theorem dX3_readOne_37 : decode cX3_readOne 37 = .ok (.iconst 1, 1) := by decide +kernel
theorem dX3_readOne_38 : decode cX3_readOne 38 = .ok (.iadd, 1) := by decide +kernel
theorem dX3_readOne_39 : decode cX3_readOne 39 = .ok (.putfield 18, 3) := by decide +kernel
theorem dX3_readOne_42 : decode cX3_readOne 42 = .ok (.aload_n 1, 1) := by decide +kernel
theorem dX3_readOne_43 : decode cX3_readOne 43 = .ok (.iload_n 3, 1) := by decide +kernel
theorem dX3_readOne_44 : decode cX3_readOne 44 = .ok (.invokevirtual 65, 3) := by decide +kernel
theorem dX3_readOne_47 : decode cX3_readOne 47 = .ok (.goto 84, 3) := by decide +kernel
theorem dX3_readOne_50 : decode cX3_readOne 50 = .ok (.iload_n 3, 1) := by decide +kernel
theorem dX3_readOne_51 : decode cX3_readOne 51 = .ok (.bipush 16, 2) := by decide +kernel
theorem dX3_readOne_53 : decode cX3_readOne 53 = .ok (.if_icmp .ne 35, 3) := by decide +kernel
theorem dX3_readOne_56 : decode cX3_readOne 56 = .ok (.iload_n 2, 1) := by decide +kernel
theorem dX3_readOne_57 : decode cX3_readOne 57 = .ok (.iconst 5, 1) := by decide +kernel
theorem dX3_readOne_58 : decode cX3_readOne 58 = .ok (.if_icmp .ge 30, 3) := by decide +kernel
theorem dX3_readOne_61 : decode cX3_readOne 61 = .ok (.aload_n 0, 1) := by decide +kernel
theorem dX3_readOne_62 : decode cX3_readOne 62 = .ok (.dup, 1) := by decide +kernel
theorem dX3_readOne_63 : decode cX3_readOne 63 = .ok (.getfield 18, 3) := by decide +kernel
theorem dX3_readOne_66 : decode cX3_readOne 66 = .ok (.iconst 1, 1) := by decide +kernel
theorem dX3_readOne_67 : decode cX3_readOne 67 = .ok (.iadd, 1) := by decide +kernel
theorem dX3_readOne_68 : decode cX3_readOne 68 = .ok (.putfield 18, 3) := by decide +kernel
theorem dX3_readOne_71 : decode cX3_readOne 71 = .ok (.aload_n 0, 1) := by decide +kernel
theorem dX3_readOne_72 : decode cX3_readOne 72 = .ok (.aload_n 1, 1) := by decide +kernel
theorem dX3_readOne_73 : decode cX3_readOne 73 = .ok (.iload_n 2, 1) := by decide +kernel
theorem dX3_readOne_74 : decode cX3_readOne 74 = .ok (.iconst 1, 1) := by decide +kernel
theorem dX3_readOne_75 : decode cX3_readOne 75 = .ok (.iadd, 1) := by decide +kernel
theorem dX3_readOne_76 : decode cX3_readOne 76 = .ok (.invokevirtual 55, 3) := by decide +kernel
theorem dX3_readOne_79 : decode cX3_readOne 79 = .ok (.aload_n 1, 1) := by decide +kernel
theorem dX3_readOne_80 : decode cX3_readOne 80 = .ok (.bipush 20, 2) := by decide +kernel
theorem dX3_readOne_82 : decode cX3_readOne 82 = .ok (.invokevirtual 65, 3) := by decide +kernel
theorem dX3_readOne_85 : decode cX3_readOne 85 = .ok (.goto 46, 3) := by decide +kernel
theorem dX3_readOne_88 : decode cX3_readOne 88 = .ok (.iload_n 3, 1) := by decide +kernel
theorem dX3_readOne_89 : decode cX3_readOne 89 = .ok (.bipush 12, 2) := by decide +kernel
theorem dX3_readOne_91 : decode cX3_readOne 91 = .ok (.if_icmp .ne 36, 3) := by decide +kernel
theorem dX3_readOne_94 : decode cX3_readOne 94 = .ok (.iload_n 2, 1) := by decide +kernel
theorem dX3_readOne_95 : decode cX3_readOne 95 = .ok (.iconst 5, 1) := by decide +kernel
theorem dX3_readOne_96 : decode cX3_readOne 96 = .ok (.if_icmp .ge 31, 3) := by decide +kernel
theorem dX3_readOne_99 : decode cX3_readOne 99 = .ok (.aload_n 0, 1) := by decide +kernel
theorem dX3_readOne_100 : decode cX3_readOne 100 = .ok (.dup, 1) := by decide +kernel
theorem dX3_readOne_101 : decode cX3_readOne 101 = .ok (.getfield 18, 3) := by decide +kernel
theorem dX3_readOne_104 : decode cX3_readOne 104 = .ok (.iconst 1, 1) := by decide +kernel
theorem dX3_readOne_105 : decode cX3_readOne 105 = .ok (.iadd, 1) := by decide +kernel
theorem dX3_readOne_106 : decode cX3_readOne 106 = .ok (.putfield 18, 3) := by decide +kernel
theorem dX3_readOne_109 : decode cX3_readOne 109 = .ok (.aload_n 0, 1) := by decide +kernel
theorem dX3_readOne_110 : decode cX3_readOne 110 = .ok (.aload_n 1, 1) := by decide +kernel
theorem dX3_readOne_111 : decode cX3_readOne 111 = .ok (.iconst 0, 1) := by decide +kernel
theorem dX3_readOne_112 : decode cX3_readOne 112 = .ok (.iload_n 2, 1) := by decide +kernel
theorem dX3_readOne_113 : decode cX3_readOne 113 = .ok (.iconst 1, 1) := by decide +kernel
theorem dX3_readOne_114 : decode cX3_readOne 114 = .ok (.iadd, 1) := by decide +kernel
theorem dX3_readOne_115 : decode cX3_readOne 115 = .ok (.invokevirtual 38, 3) := by decide +kernel
theorem dX3_readOne_118 : decode cX3_readOne 118 = .ok (.aload_n 0, 1) := by decide +kernel
theorem dX3_readOne_119 : decode cX3_readOne 119 = .ok (.bipush 13, 2) := by decide +kernel
theorem dX3_readOne_121 : decode cX3_readOne 121 = .ok (.invokevirtual 34, 3) := by decide +kernel
theorem dX3_readOne_124 : decode cX3_readOne 124 = .ok (.goto 7, 3) := by decide +kernel
theorem dX3_readOne_127 : decode cX3_readOne 127 = .ok (.aload_n 0, 1) := by decide +kernel
theorem dX3_readOne_128 : decode cX3_readOne 128 = .ok (.invokevirtual 52, 3) := by decide +kernel
theorem dX3_readOne_131 : decode cX3_readOne 131 = .ok (.return_, 1) := by decide +kernel
theorem dX3_levelOf_0 : decode cX3_levelOf 0 = .ok (.iload_n 0, 1) := by decide +kernel
theorem dX3_levelOf_1 : decode cX3_levelOf 1 = .ok (.tableswitch 69 9 19 #[59, 61, 69, 69, 69, 69, 65, 65, 67, 63, 63], 59) := by decide +kernel
theorem dX3_levelOf_60 : decode cX3_levelOf 60 = .ok (.iconst 0, 1) := by decide +kernel
theorem dX3_levelOf_61 : decode cX3_levelOf 61 = .ok (.ireturn, 1) := by decide +kernel
theorem dX3_levelOf_62 : decode cX3_levelOf 62 = .ok (.iconst 1, 1) := by decide +kernel
theorem dX3_levelOf_63 : decode cX3_levelOf 63 = .ok (.ireturn, 1) := by decide +kernel
theorem dX3_levelOf_64 : decode cX3_levelOf 64 = .ok (.iconst 2, 1) := by decide +kernel
theorem dX3_levelOf_65 : decode cX3_levelOf 65 = .ok (.ireturn, 1) := by decide +kernel
theorem dX3_levelOf_66 : decode cX3_levelOf 66 = .ok (.iconst 3, 1) := by decide +kernel
theorem dX3_levelOf_67 : decode cX3_levelOf 67 = .ok (.ireturn, 1) := by decide +kernel
theorem dX3_levelOf_68 : decode cX3_levelOf 68 = .ok (.iconst 4, 1) := by decide +kernel
theorem dX3_levelOf_69 : decode cX3_levelOf 69 = .ok (.ireturn, 1) := by decide +kernel
theorem dX3_levelOf_70 : decode cX3_levelOf 70 = .ok (.iconst (-1), 1) := by decide +kernel
theorem dX3_levelOf_71 : decode cX3_levelOf 71 = .ok (.ireturn, 1) := by decide +kernel
theorem dX4_init_0 : decode cX4_init 0 = .ok (.aload_n 0, 1) := by decide +kernel
theorem dX4_init_1 : decode cX4_init 1 = .ok (.invokespecial 3, 3) := by decide +kernel
theorem dX4_init_4 : decode cX4_init 4 = .ok (.aload_n 0, 1) := by decide +kernel
theorem dX4_init_5 : decode cX4_init 5 = .ok (.aload_n 1, 1) := by decide +kernel
theorem dX4_init_6 : decode cX4_init 6 = .ok (.putfield 9, 3) := by decide +kernel
theorem dX4_init_9 : decode cX4_init 9 = .ok (.return_, 1) := by decide +kernel
set_option maxRecDepth 20000 in
theorem ggX4_eatsOf_X9_ruleOf : GoodIn wsX4_eatsOf wsX9_ruleOf := goodIn_r _ [14, 15, 16, 17, 18, 19, 13, 20, 21, 57, 58, 59, 60, 61, 62, 63, 64, 66, 67] (by decide +kernel) (by decide +kernel)
set_option maxRecDepth 20000 in
theorem gX4_eatsOf_X9_ruleOf : GoodIn wsX4_eatsOf (wsV RX4 26 RX9 yX9_ruleOf wsX9_ruleOf) := goodIn_app (goodIn_of _ (by decide +kernel)) ggX4_eatsOf_X9_ruleOf
set_option maxRecDepth 20000 in
theorem ggX4_eatsOf_X8_tell : GoodIn wsX4_eatsOf wsX8_tell := goodIn_r _ [26, 27, 28, 29, 30, 31, 25, 32, 33, 34, 35, 36, 37, 38, 39, 40, 41, 42, 43, 44, 45, 46, 47, 48, 6, 7, 8, 49, 50, 51, 68, 69, 70, 71, 52, 53, 54, 55, 56, 57, 58, 59, 60, 61, 62, 63, 64] (by decide +kernel) (by decide +kernel)
set_option maxRecDepth 20000 in
theorem gX4_eatsOf_X8_tell : GoodIn wsX4_eatsOf (wsV RX4 32 RX8 yX8_tell wsX8_tell) := goodIn_app (goodIn_of _ (by decide +kernel)) ggX4_eatsOf_X8_tell
set_option maxRecDepth 20000 in
theorem ggX4_eatsOf_X11_bounded : GoodIn wsX4_eatsOf wsX11_bounded := goodIn_r _ [47, 48, 6, 7, 8, 49, 50, 51] (by decide +kernel) (by decide +kernel)
set_option maxRecDepth 20000 in
theorem gX4_eatsOf_X11_bounded_n38 : GoodIn wsX4_eatsOf (wsX11_bounded) := ggX4_eatsOf_X11_bounded
theorem dX4_eatsOf_0 : decode cX4_eatsOf 0 = .ok (.aload_n 2, 1) := by decide +kernel
theorem dX4_eatsOf_1 : decode cX4_eatsOf 1 = .ok (.getfield 15, 3) := by decide +kernel
theorem dX4_eatsOf_4 : decode cX4_eatsOf 4 = .ok (.iconst 4, 1) := by decide +kernel
theorem dX4_eatsOf_5 : decode cX4_eatsOf 5 = .ok (.if_icmp .ne 13, 3) := by decide +kernel
theorem dX4_eatsOf_8 : decode cX4_eatsOf 8 = .ok (.aload_n 1, 1) := by decide +kernel
theorem dX4_eatsOf_9 : decode cX4_eatsOf 9 = .ok (.getfield 21, 3) := by decide +kernel
theorem dX4_eatsOf_12 : decode cX4_eatsOf 12 = .ok (.iconst 1, 1) := by decide +kernel
theorem dX4_eatsOf_13 : decode cX4_eatsOf 13 = .ok (.if_icmp .ne 5, 3) := by decide +kernel
theorem dX4_eatsOf_16 : decode cX4_eatsOf 16 = .ok (.iconst 1, 1) := by decide +kernel
theorem dX4_eatsOf_17 : decode cX4_eatsOf 17 = .ok (.ireturn, 1) := by decide +kernel
theorem dX4_eatsOf_18 : decode cX4_eatsOf 18 = .ok (.aload_n 0, 1) := by decide +kernel
theorem dX4_eatsOf_19 : decode cX4_eatsOf 19 = .ok (.getfield 9, 3) := by decide +kernel
theorem dX4_eatsOf_22 : decode cX4_eatsOf 22 = .ok (.aload_n 1, 1) := by decide +kernel
theorem dX4_eatsOf_23 : decode cX4_eatsOf 23 = .ok (.invokevirtual 26, 3) := by decide +kernel
theorem dX4_eatsOf_26 : decode cX4_eatsOf 26 = .ok (.iconst 0, 1) := by decide +kernel
theorem dX4_eatsOf_27 : decode cX4_eatsOf 27 = .ok (.aload_n 1, 1) := by decide +kernel
theorem dX4_eatsOf_28 : decode cX4_eatsOf 28 = .ok (.aload_n 2, 1) := by decide +kernel
theorem dX4_eatsOf_29 : decode cX4_eatsOf 29 = .ok (.invokevirtual 32, 3) := by decide +kernel
theorem dX4_eatsOf_32 : decode cX4_eatsOf 32 = .ok (.istore_n 3, 1) := by decide +kernel
theorem dX4_eatsOf_33 : decode cX4_eatsOf 33 = .ok (.aload_n 2, 1) := by decide +kernel
theorem dX4_eatsOf_34 : decode cX4_eatsOf 34 = .ok (.getfield 15, 3) := by decide +kernel
theorem dX4_eatsOf_37 : decode cX4_eatsOf 37 = .ok (.tableswitch 86 1 5 #[35, 44, 58, 44, 75], 35) := by decide +kernel
theorem dX4_eatsOf_72 : decode cX4_eatsOf 72 = .ok (.iconst 2, 1) := by decide +kernel
theorem dX4_eatsOf_73 : decode cX4_eatsOf 73 = .ok (.iload_n 3, 1) := by decide +kernel
theorem dX4_eatsOf_74 : decode cX4_eatsOf 74 = .ok (.imul, 1) := by decide +kernel
theorem dX4_eatsOf_75 : decode cX4_eatsOf 75 = .ok (.bipush 99, 2) := by decide +kernel
theorem dX4_eatsOf_77 : decode cX4_eatsOf 77 = .ok (.invokestatic 38, 3) := by decide +kernel
theorem dX4_eatsOf_80 : decode cX4_eatsOf 80 = .ok (.ireturn, 1) := by decide +kernel
theorem dX4_eatsOf_81 : decode cX4_eatsOf 81 = .ok (.iload_n 3, 1) := by decide +kernel
theorem dX4_eatsOf_82 : decode cX4_eatsOf 82 = .ok (.aload_n 1, 1) := by decide +kernel
theorem dX4_eatsOf_83 : decode cX4_eatsOf 83 = .ok (.getfield 42, 3) := by decide +kernel
theorem dX4_eatsOf_86 : decode cX4_eatsOf 86 = .ok (.invokestatic 45, 3) := by decide +kernel
theorem dX4_eatsOf_89 : decode cX4_eatsOf 89 = .ok (.bipush 99, 2) := by decide +kernel
theorem dX4_eatsOf_91 : decode cX4_eatsOf 91 = .ok (.invokestatic 38, 3) := by decide +kernel
theorem dX4_eatsOf_94 : decode cX4_eatsOf 94 = .ok (.ireturn, 1) := by decide +kernel
theorem dX4_eatsOf_95 : decode cX4_eatsOf 95 = .ok (.iconst 2, 1) := by decide +kernel
theorem dX4_eatsOf_96 : decode cX4_eatsOf 96 = .ok (.iload_n 3, 1) := by decide +kernel
theorem dX4_eatsOf_97 : decode cX4_eatsOf 97 = .ok (.imul, 1) := by decide +kernel
theorem dX4_eatsOf_98 : decode cX4_eatsOf 98 = .ok (.aload_n 2, 1) := by decide +kernel
theorem dX4_eatsOf_99 : decode cX4_eatsOf 99 = .ok (.getfield 50, 3) := by decide +kernel
theorem dX4_eatsOf_102 : decode cX4_eatsOf 102 = .ok (.bipush 10, 2) := by decide +kernel
theorem dX4_eatsOf_104 : decode cX4_eatsOf 104 = .ok (.idiv, 1) := by decide +kernel
theorem dX4_eatsOf_105 : decode cX4_eatsOf 105 = .ok (.iadd, 1) := by decide +kernel
theorem dX4_eatsOf_106 : decode cX4_eatsOf 106 = .ok (.bipush 99, 2) := by decide +kernel
theorem dX4_eatsOf_108 : decode cX4_eatsOf 108 = .ok (.invokestatic 38, 3) := by decide +kernel
theorem dX4_eatsOf_111 : decode cX4_eatsOf 111 = .ok (.ireturn, 1) := by decide +kernel
theorem dX4_eatsOf_112 : decode cX4_eatsOf 112 = .ok (.iload_n 3, 1) := by decide +kernel
theorem dX4_eatsOf_113 : decode cX4_eatsOf 113 = .ok (.iconst 1, 1) := by decide +kernel
theorem dX4_eatsOf_114 : decode cX4_eatsOf 114 = .ok (.invokestatic 45, 3) := by decide +kernel
theorem dX4_eatsOf_117 : decode cX4_eatsOf 117 = .ok (.bipush 99, 2) := by decide +kernel
theorem dX4_eatsOf_119 : decode cX4_eatsOf 119 = .ok (.invokestatic 38, 3) := by decide +kernel
theorem dX4_eatsOf_122 : decode cX4_eatsOf 122 = .ok (.ireturn, 1) := by decide +kernel
theorem dX4_eatsOf_123 : decode cX4_eatsOf 123 = .ok (.iload_n 3, 1) := by decide +kernel
theorem dX4_eatsOf_124 : decode cX4_eatsOf 124 = .ok (.ireturn, 1) := by decide +kernel
set_option maxRecDepth 20000 in
theorem ggX4_triesOf_X9_ruleOf : GoodIn wsX4_triesOf wsX9_ruleOf := goodIn_r _ [9, 10, 11, 12, 13, 14, 8, 15, 16, 55, 56, 57, 58, 59, 60, 61, 62, 64, 65] (by decide +kernel) (by decide +kernel)
set_option maxRecDepth 20000 in
theorem gX4_triesOf_X9_ruleOf : GoodIn wsX4_triesOf (wsV RX4 26 RX9 yX9_ruleOf wsX9_ruleOf) := goodIn_app (goodIn_of _ (by decide +kernel)) ggX4_triesOf_X9_ruleOf
set_option maxRecDepth 20000 in
theorem ggX4_triesOf_X8_tell : GoodIn wsX4_triesOf wsX8_tell := goodIn_r _ [21, 22, 23, 24, 25, 26, 20, 27, 28, 29, 30, 31, 32, 33, 34, 35, 36, 37, 38, 39, 40, 41, 42, 43, 44, 45, 46, 47, 48, 49, 66, 67, 68, 69, 50, 51, 52, 53, 54, 55, 56, 57, 58, 59, 60, 61, 62] (by decide +kernel) (by decide +kernel)
set_option maxRecDepth 20000 in
theorem gX4_triesOf_X8_tell : GoodIn wsX4_triesOf (wsV RX4 32 RX8 yX8_tell wsX8_tell) := goodIn_app (goodIn_of _ (by decide +kernel)) ggX4_triesOf_X8_tell
set_option maxRecDepth 20000 in
theorem ggX4_triesOf_X11_bounded : GoodIn wsX4_triesOf wsX11_bounded := goodIn_r _ [42, 43, 44, 45, 46, 47, 48, 49] (by decide +kernel) (by decide +kernel)
set_option maxRecDepth 20000 in
theorem gX4_triesOf_X11_bounded_n38 : GoodIn wsX4_triesOf (wsX11_bounded) := ggX4_triesOf_X11_bounded
theorem dX4_triesOf_0 : decode cX4_triesOf 0 = .ok (.aload_n 2, 1) := by decide +kernel
theorem dX4_triesOf_1 : decode cX4_triesOf 1 = .ok (.getfield 15, 3) := by decide +kernel
theorem dX4_triesOf_4 : decode cX4_triesOf 4 = .ok (.iconst 1, 1) := by decide +kernel
theorem dX4_triesOf_5 : decode cX4_triesOf 5 = .ok (.if_icmp .eq 11, 3) := by decide +kernel
theorem dX4_triesOf_8 : decode cX4_triesOf 8 = .ok (.aload_n 2, 1) := by decide +kernel
theorem dX4_triesOf_9 : decode cX4_triesOf 9 = .ok (.getfield 15, 3) := by decide +kernel
theorem dX4_triesOf_12 : decode cX4_triesOf 12 = .ok (.iconst 4, 1) := by decide +kernel
theorem dX4_triesOf_13 : decode cX4_triesOf 13 = .ok (.if_icmp .ne 5, 3) := by decide +kernel
theorem dX4_triesOf_16 : decode cX4_triesOf 16 = .ok (.iconst 0, 1) := by decide +kernel
theorem dX4_triesOf_17 : decode cX4_triesOf 17 = .ok (.ireturn, 1) := by decide +kernel
theorem dX4_triesOf_18 : decode cX4_triesOf 18 = .ok (.aload_n 2, 1) := by decide +kernel
theorem dX4_triesOf_19 : decode cX4_triesOf 19 = .ok (.getfield 15, 3) := by decide +kernel
theorem dX4_triesOf_22 : decode cX4_triesOf 22 = .ok (.iconst 5, 1) := by decide +kernel
theorem dX4_triesOf_23 : decode cX4_triesOf 23 = .ok (.if_icmp .ne 13, 3) := by decide +kernel
theorem dX4_triesOf_26 : decode cX4_triesOf 26 = .ok (.aload_n 1, 1) := by decide +kernel
theorem dX4_triesOf_27 : decode cX4_triesOf 27 = .ok (.getfield 42, 3) := by decide +kernel
theorem dX4_triesOf_30 : decode cX4_triesOf 30 = .ok (.iconst 3, 1) := by decide +kernel
theorem dX4_triesOf_31 : decode cX4_triesOf 31 = .ok (.if_icmp .le 5, 3) := by decide +kernel
theorem dX4_triesOf_34 : decode cX4_triesOf 34 = .ok (.iconst 1, 1) := by decide +kernel
theorem dX4_triesOf_35 : decode cX4_triesOf 35 = .ok (.ireturn, 1) := by decide +kernel
theorem dX4_triesOf_36 : decode cX4_triesOf 36 = .ok (.aload_n 0, 1) := by decide +kernel
theorem dX4_triesOf_37 : decode cX4_triesOf 37 = .ok (.getfield 9, 3) := by decide +kernel
theorem dX4_triesOf_40 : decode cX4_triesOf 40 = .ok (.aload_n 1, 1) := by decide +kernel
theorem dX4_triesOf_41 : decode cX4_triesOf 41 = .ok (.invokevirtual 26, 3) := by decide +kernel
theorem dX4_triesOf_44 : decode cX4_triesOf 44 = .ok (.iconst 1, 1) := by decide +kernel
theorem dX4_triesOf_45 : decode cX4_triesOf 45 = .ok (.aload_n 1, 1) := by decide +kernel
theorem dX4_triesOf_46 : decode cX4_triesOf 46 = .ok (.aload_n 2, 1) := by decide +kernel
theorem dX4_triesOf_47 : decode cX4_triesOf 47 = .ok (.invokevirtual 32, 3) := by decide +kernel
theorem dX4_triesOf_50 : decode cX4_triesOf 50 = .ok (.istore_n 3, 1) := by decide +kernel
theorem dX4_triesOf_51 : decode cX4_triesOf 51 = .ok (.aload_n 2, 1) := by decide +kernel
theorem dX4_triesOf_52 : decode cX4_triesOf 52 = .ok (.getfield 15, 3) := by decide +kernel
theorem dX4_triesOf_55 : decode cX4_triesOf 55 = .ok (.lookupswitch 46 #[(2, 25), (3, 34)], 25) := by decide +kernel
theorem dX4_triesOf_80 : decode cX4_triesOf 80 = .ok (.iconst 2, 1) := by decide +kernel
theorem dX4_triesOf_81 : decode cX4_triesOf 81 = .ok (.iload_n 3, 1) := by decide +kernel
theorem dX4_triesOf_82 : decode cX4_triesOf 82 = .ok (.imul, 1) := by decide +kernel
theorem dX4_triesOf_83 : decode cX4_triesOf 83 = .ok (.bipush 99, 2) := by decide +kernel
theorem dX4_triesOf_85 : decode cX4_triesOf 85 = .ok (.invokestatic 38, 3) := by decide +kernel
theorem dX4_triesOf_88 : decode cX4_triesOf 88 = .ok (.ireturn, 1) := by decide +kernel
theorem dX4_triesOf_89 : decode cX4_triesOf 89 = .ok (.iload_n 3, 1) := by decide +kernel
theorem dX4_triesOf_90 : decode cX4_triesOf 90 = .ok (.aload_n 2, 1) := by decide +kernel
theorem dX4_triesOf_91 : decode cX4_triesOf 91 = .ok (.getfield 53, 3) := by decide +kernel
theorem dX4_triesOf_94 : decode cX4_triesOf 94 = .ok (.iadd, 1) := by decide +kernel
theorem dX4_triesOf_95 : decode cX4_triesOf 95 = .ok (.bipush 99, 2) := by decide +kernel
theorem dX4_triesOf_97 : decode cX4_triesOf 97 = .ok (.invokestatic 38, 3) := by decide +kernel
theorem dX4_triesOf_100 : decode cX4_triesOf 100 = .ok (.ireturn, 1) := by decide +kernel
theorem dX4_triesOf_101 : decode cX4_triesOf 101 = .ok (.iload_n 3, 1) := by decide +kernel
theorem dX4_triesOf_102 : decode cX4_triesOf 102 = .ok (.ireturn, 1) := by decide +kernel
set_option maxRecDepth 20000 in
theorem ggX4_spendsOf_X9_ruleOf : GoodIn wsX4_spendsOf wsX9_ruleOf := goodIn_r _ [8, 9, 10, 11, 12, 13, 7, 14, 15, 55, 56, 57, 58, 59, 60, 61, 62, 63, 64] (by decide +kernel) (by decide +kernel)
set_option maxRecDepth 20000 in
theorem gX4_spendsOf_X9_ruleOf : GoodIn wsX4_spendsOf (wsV RX4 26 RX9 yX9_ruleOf wsX9_ruleOf) := goodIn_app (goodIn_of _ (by decide +kernel)) ggX4_spendsOf_X9_ruleOf
set_option maxRecDepth 20000 in
theorem ggX4_spendsOf_X8_tell : GoodIn wsX4_spendsOf wsX8_tell := goodIn_r _ [20, 21, 22, 23, 24, 25, 19, 26, 27, 28, 29, 30, 31, 32, 33, 34, 35, 36, 37, 38, 39, 40, 41, 42, 43, 44, 45, 46, 47, 48, 65, 66, 67, 68, 49, 50, 51, 52, 53, 55, 56, 57, 58, 59, 60, 61, 62] (by decide +kernel) (by decide +kernel)
set_option maxRecDepth 20000 in
theorem gX4_spendsOf_X8_tell : GoodIn wsX4_spendsOf (wsV RX4 32 RX8 yX8_tell wsX8_tell) := goodIn_app (goodIn_of _ (by decide +kernel)) ggX4_spendsOf_X8_tell
set_option maxRecDepth 20000 in
theorem ggX4_spendsOf_X11_bounded : GoodIn wsX4_spendsOf wsX11_bounded := goodIn_r _ [41, 42, 43, 44, 45, 46, 47, 48] (by decide +kernel) (by decide +kernel)
set_option maxRecDepth 20000 in
theorem gX4_spendsOf_X11_bounded_n38 : GoodIn wsX4_spendsOf (wsX11_bounded) := ggX4_spendsOf_X11_bounded
theorem dX4_spendsOf_0 : decode cX4_spendsOf 0 = .ok (.aload_n 2, 1) := by decide +kernel
theorem dX4_spendsOf_1 : decode cX4_spendsOf 1 = .ok (.getfield 15, 3) := by decide +kernel
theorem dX4_spendsOf_4 : decode cX4_spendsOf 4 = .ok (.iconst 1, 1) := by decide +kernel
theorem dX4_spendsOf_5 : decode cX4_spendsOf 5 = .ok (.if_icmp .ne 5, 3) := by decide +kernel
theorem dX4_spendsOf_8 : decode cX4_spendsOf 8 = .ok (.iconst 0, 1) := by decide +kernel
theorem dX4_spendsOf_9 : decode cX4_spendsOf 9 = .ok (.ireturn, 1) := by decide +kernel
theorem dX4_spendsOf_10 : decode cX4_spendsOf 10 = .ok (.aload_n 2, 1) := by decide +kernel
theorem dX4_spendsOf_11 : decode cX4_spendsOf 11 = .ok (.getfield 15, 3) := by decide +kernel
theorem dX4_spendsOf_14 : decode cX4_spendsOf 14 = .ok (.iconst 3, 1) := by decide +kernel
theorem dX4_spendsOf_15 : decode cX4_spendsOf 15 = .ok (.if_icmp .ne 5, 3) := by decide +kernel
theorem dX4_spendsOf_18 : decode cX4_spendsOf 18 = .ok (.iconst 3, 1) := by decide +kernel
theorem dX4_spendsOf_19 : decode cX4_spendsOf 19 = .ok (.ireturn, 1) := by decide +kernel
theorem dX4_spendsOf_20 : decode cX4_spendsOf 20 = .ok (.aload_n 0, 1) := by decide +kernel
theorem dX4_spendsOf_21 : decode cX4_spendsOf 21 = .ok (.getfield 9, 3) := by decide +kernel
theorem dX4_spendsOf_24 : decode cX4_spendsOf 24 = .ok (.aload_n 1, 1) := by decide +kernel
theorem dX4_spendsOf_25 : decode cX4_spendsOf 25 = .ok (.invokevirtual 26, 3) := by decide +kernel
theorem dX4_spendsOf_28 : decode cX4_spendsOf 28 = .ok (.iconst 2, 1) := by decide +kernel
theorem dX4_spendsOf_29 : decode cX4_spendsOf 29 = .ok (.aload_n 1, 1) := by decide +kernel
theorem dX4_spendsOf_30 : decode cX4_spendsOf 30 = .ok (.aload_n 2, 1) := by decide +kernel
theorem dX4_spendsOf_31 : decode cX4_spendsOf 31 = .ok (.invokevirtual 32, 3) := by decide +kernel
theorem dX4_spendsOf_34 : decode cX4_spendsOf 34 = .ok (.istore_n 3, 1) := by decide +kernel
theorem dX4_spendsOf_35 : decode cX4_spendsOf 35 = .ok (.aload_n 2, 1) := by decide +kernel
theorem dX4_spendsOf_36 : decode cX4_spendsOf 36 = .ok (.getfield 15, 3) := by decide +kernel
theorem dX4_spendsOf_39 : decode cX4_spendsOf 39 = .ok (.tableswitch 55 2 5 #[29, 55, 29, 39], 29) := by decide +kernel
theorem dX4_spendsOf_68 : decode cX4_spendsOf 68 = .ok (.iload_n 3, 1) := by decide +kernel
theorem dX4_spendsOf_69 : decode cX4_spendsOf 69 = .ok (.iconst 2, 1) := by decide +kernel
theorem dX4_spendsOf_70 : decode cX4_spendsOf 70 = .ok (.idiv, 1) := by decide +kernel
theorem dX4_spendsOf_71 : decode cX4_spendsOf 71 = .ok (.sipush 999, 3) := by decide +kernel
theorem dX4_spendsOf_74 : decode cX4_spendsOf 74 = .ok (.invokestatic 38, 3) := by decide +kernel
theorem dX4_spendsOf_77 : decode cX4_spendsOf 77 = .ok (.ireturn, 1) := by decide +kernel
theorem dX4_spendsOf_78 : decode cX4_spendsOf 78 = .ok (.iload_n 3, 1) := by decide +kernel
theorem dX4_spendsOf_79 : decode cX4_spendsOf 79 = .ok (.bipush 10, 2) := by decide +kernel
theorem dX4_spendsOf_81 : decode cX4_spendsOf 81 = .ok (.aload_n 2, 1) := by decide +kernel
theorem dX4_spendsOf_82 : decode cX4_spendsOf 82 = .ok (.getfield 53, 3) := by decide +kernel
theorem dX4_spendsOf_85 : decode cX4_spendsOf 85 = .ok (.imul, 1) := by decide +kernel
theorem dX4_spendsOf_86 : decode cX4_spendsOf 86 = .ok (.iadd, 1) := by decide +kernel
theorem dX4_spendsOf_87 : decode cX4_spendsOf 87 = .ok (.sipush 999, 3) := by decide +kernel
theorem dX4_spendsOf_90 : decode cX4_spendsOf 90 = .ok (.invokestatic 38, 3) := by decide +kernel
theorem dX4_spendsOf_93 : decode cX4_spendsOf 93 = .ok (.ireturn, 1) := by decide +kernel
theorem dX4_spendsOf_94 : decode cX4_spendsOf 94 = .ok (.iload_n 3, 1) := by decide +kernel
theorem dX4_spendsOf_95 : decode cX4_spendsOf 95 = .ok (.ireturn, 1) := by decide +kernel
set_option maxRecDepth 20000 in
theorem ggX4_eatenBy_X6_isThere : GoodIn wsX4_eatenBy wsX6_isThere := goodIn_r _ [5, 6, 7, 64, 65, 66, 67, 68, 69, 70, 71, 72, 73, 74, 75, 76] (by decide +kernel) (by decide +kernel)
set_option maxRecDepth 20000 in
theorem gX4_eatenBy_X6_isThere : GoodIn wsX4_eatenBy (wsV RX4 56 RX6 yX6_isThere wsX6_isThere) := goodIn_app (goodIn_of _ (by decide +kernel)) ggX4_eatenBy_X6_isThere
set_option maxRecDepth 20000 in
theorem ggX4_eatenBy_X4_eatsOf : GoodIn wsX4_eatenBy wsX4_eatsOf := goodIn_r _ [12, 13, 14, 15, 16, 17, 18, 19, 20, 21, 22, 23, 24, 25, 26, 27, 28, 29, 30, 31, 32, 33, 34, 35, 36, 37, 38, 39, 40, 41, 42, 43, 44, 45, 46, 47, 48, 49, 50, 51, 52, 53, 54, 55, 56, 57, 58, 59, 60, 61, 62, 63, 72, 73, 74, 75, 76, 64, 65, 66, 67, 68, 69, 70, 71, 77, 78, 79, 80, 81, 82, 83] (by decide +kernel) (by decide +kernel)
set_option maxRecDepth 20000 in
theorem gX4_eatenBy_X4_eatsOf : GoodIn wsX4_eatenBy (wsV RX4 60 RX4 yX4_eatsOf wsX4_eatsOf) := goodIn_app (goodIn_of _ (by decide +kernel)) ggX4_eatenBy_X4_eatsOf
theorem dX4_eatenBy_0 : decode cX4_eatenBy 0 = .ok (.aload_n 1, 1) := by decide +kernel
theorem dX4_eatenBy_1 : decode cX4_eatenBy 1 = .ok (.aload_n 2, 1) := by decide +kernel
theorem dX4_eatenBy_2 : decode cX4_eatenBy 2 = .ok (.invokevirtual 56, 3) := by decide +kernel
theorem dX4_eatenBy_5 : decode cX4_eatenBy 5 = .ok (.ifCond .eq 12, 3) := by decide +kernel
theorem dX4_eatenBy_8 : decode cX4_eatenBy 8 = .ok (.aload_n 0, 1) := by decide +kernel
theorem dX4_eatenBy_9 : decode cX4_eatenBy 9 = .ok (.aload_n 1, 1) := by decide +kernel
theorem dX4_eatenBy_10 : decode cX4_eatenBy 10 = .ok (.aload_n 2, 1) := by decide +kernel
theorem dX4_eatenBy_11 : decode cX4_eatenBy 11 = .ok (.invokevirtual 60, 3) := by decide +kernel
theorem dX4_eatenBy_14 : decode cX4_eatenBy 14 = .ok (.goto 4, 3) := by decide +kernel
theorem dX4_eatenBy_17 : decode cX4_eatenBy 17 = .ok (.iconst 0, 1) := by decide +kernel
theorem dX4_eatenBy_18 : decode cX4_eatenBy 18 = .ok (.ireturn, 1) := by decide +kernel
set_option maxRecDepth 20000 in
theorem ggX4_triesIfThere_X6_isThere : GoodIn wsX4_triesIfThere wsX6_isThere := goodIn_r _ [5, 6, 7, 62, 63, 64, 65, 66, 67, 68, 69, 70, 71, 72, 73, 74] (by decide +kernel) (by decide +kernel)
set_option maxRecDepth 20000 in
theorem gX4_triesIfThere_X6_isThere : GoodIn wsX4_triesIfThere (wsV RX4 56 RX6 yX6_isThere wsX6_isThere) := goodIn_app (goodIn_of _ (by decide +kernel)) ggX4_triesIfThere_X6_isThere
set_option maxRecDepth 20000 in
theorem ggX4_triesIfThere_X4_triesOf : GoodIn wsX4_triesIfThere wsX4_triesOf := goodIn_r _ [12, 13, 14, 15, 16, 17, 18, 19, 20, 21, 22, 23, 24, 25, 26, 27, 28, 29, 30, 31, 32, 33, 34, 35, 36, 37, 38, 39, 40, 41, 42, 43, 44, 45, 46, 47, 48, 49, 50, 51, 52, 53, 54, 55, 56, 57, 58, 59, 60, 61, 70, 71, 72, 73, 74, 62, 63, 64, 65, 66, 67, 68, 69, 75, 76, 77, 78, 79, 80, 81] (by decide +kernel) (by decide +kernel)
set_option maxRecDepth 20000 in
theorem gX4_triesIfThere_X4_triesOf : GoodIn wsX4_triesIfThere (wsV RX4 64 RX4 yX4_triesOf wsX4_triesOf) := goodIn_app (goodIn_of _ (by decide +kernel)) ggX4_triesIfThere_X4_triesOf
theorem dX4_triesIfThere_0 : decode cX4_triesIfThere 0 = .ok (.aload_n 1, 1) := by decide +kernel
theorem dX4_triesIfThere_1 : decode cX4_triesIfThere 1 = .ok (.aload_n 2, 1) := by decide +kernel
theorem dX4_triesIfThere_2 : decode cX4_triesIfThere 2 = .ok (.invokevirtual 56, 3) := by decide +kernel
theorem dX4_triesIfThere_5 : decode cX4_triesIfThere 5 = .ok (.ifCond .eq 12, 3) := by decide +kernel
theorem dX4_triesIfThere_8 : decode cX4_triesIfThere 8 = .ok (.aload_n 0, 1) := by decide +kernel
theorem dX4_triesIfThere_9 : decode cX4_triesIfThere 9 = .ok (.aload_n 1, 1) := by decide +kernel
theorem dX4_triesIfThere_10 : decode cX4_triesIfThere 10 = .ok (.aload_n 2, 1) := by decide +kernel
theorem dX4_triesIfThere_11 : decode cX4_triesIfThere 11 = .ok (.invokevirtual 64, 3) := by decide +kernel
theorem dX4_triesIfThere_14 : decode cX4_triesIfThere 14 = .ok (.goto 4, 3) := by decide +kernel
theorem dX4_triesIfThere_17 : decode cX4_triesIfThere 17 = .ok (.iconst 0, 1) := by decide +kernel
theorem dX4_triesIfThere_18 : decode cX4_triesIfThere 18 = .ok (.ireturn, 1) := by decide +kernel
set_option maxRecDepth 20000 in
theorem ggX4_costOf_X4_eatenBy : GoodIn wsX4_costOf wsX4_eatenBy := goodIn_r _ [5, 6, 7, 8, 9, 10, 11, 12, 13, 14, 15, 4, 16, 17, 18, 19, 20, 21, 22, 23, 24, 25, 26, 27, 28, 29, 30, 31, 32, 33, 34, 35, 36, 37, 38, 39, 40, 41, 42, 43, 44, 45, 46, 47, 48, 49, 50, 51, 52, 53, 54, 55, 56, 57, 58, 59, 60, 61, 62, 63, 64, 65, 66, 67, 73, 74, 75, 76, 77, 78, 79, 80, 81, 82, 83, 84, 85, 86, 87, 88, 89, 90, 91, 92] (by decide +kernel) (by decide +kernel)
set_option maxRecDepth 20000 in
theorem gX4_costOf_X4_eatenBy : GoodIn wsX4_costOf (wsV RX4 67 RX4 yX4_eatenBy wsX4_eatenBy) := goodIn_app (goodIn_of _ (by decide +kernel)) ggX4_costOf_X4_eatenBy
set_option maxRecDepth 20000 in
theorem ggX4_costOf_X4_priceOf : GoodIn wsX4_costOf wsX4_priceOf := goodIn_r _ [70, 71, 72, 73, 74, 75, 76, 77, 78, 79, 80] (by decide +kernel) (by decide +kernel)
set_option maxRecDepth 20000 in
theorem gX4_costOf_X4_priceOf : GoodIn wsX4_costOf (va_wsS RX4 70 yX4_priceOf wsX4_priceOf) := goodIn_app (goodIn_of _ (by decide +kernel)) ggX4_costOf_X4_priceOf
theorem dX4_costOf_0 : decode cX4_costOf 0 = .ok (.aload_n 1, 1) := by decide +kernel
theorem dX4_costOf_1 : decode cX4_costOf 1 = .ok (.aload_n 0, 1) := by decide +kernel
theorem dX4_costOf_2 : decode cX4_costOf 2 = .ok (.aload_n 1, 1) := by decide +kernel
theorem dX4_costOf_3 : decode cX4_costOf 3 = .ok (.aload_n 2, 1) := by decide +kernel
theorem dX4_costOf_4 : decode cX4_costOf 4 = .ok (.invokevirtual 67, 3) := by decide +kernel
theorem dX4_costOf_7 : decode cX4_costOf 7 = .ok (.invokestatic 70, 3) := by decide +kernel
theorem dX4_costOf_10 : decode cX4_costOf 10 = .ok (.ireturn, 1) := by decide +kernel
set_option maxRecDepth 20000 in
theorem ggX4_gainOf_X6_isThere : GoodIn wsX4_gainOf wsX6_isThere := goodIn_r _ [5, 6, 7, 78, 79, 80, 81, 82, 83, 84, 85, 86, 87, 88, 89, 90] (by decide +kernel) (by decide +kernel)
set_option maxRecDepth 20000 in
theorem gX4_gainOf_X6_isThere : GoodIn wsX4_gainOf (wsV RX4 56 RX6 yX6_isThere wsX6_isThere) := goodIn_app (goodIn_of _ (by decide +kernel)) ggX4_gainOf_X6_isThere
set_option maxRecDepth 20000 in
theorem ggX4_gainOf_X4_triesOf : GoodIn wsX4_gainOf wsX4_triesOf := goodIn_r _ [12, 13, 14, 15, 16, 17, 18, 19, 20, 21, 22, 23, 24, 25, 26, 27, 28, 29, 30, 31, 32, 33, 34, 35, 36, 37, 38, 39, 40, 41, 42, 43, 44, 45, 46, 47, 48, 49, 50, 51, 52, 53, 54, 55, 56, 57, 58, 59, 60, 61, 86, 87, 88, 89, 90, 78, 79, 80, 81, 82, 83, 84, 85, 91, 92, 93, 94, 95, 96, 97] (by decide +kernel) (by decide +kernel)
set_option maxRecDepth 20000 in
theorem gX4_gainOf_X4_triesOf : GoodIn wsX4_gainOf (wsV RX4 64 RX4 yX4_triesOf wsX4_triesOf) := goodIn_app (goodIn_of _ (by decide +kernel)) ggX4_gainOf_X4_triesOf
set_option maxRecDepth 20000 in
theorem ggX4_gainOf_X4_spendsOf : GoodIn wsX4_gainOf wsX4_spendsOf := goodIn_r _ [65, 13, 15, 16, 17, 18, 19, 20, 21, 22, 23, 24, 25, 26, 27, 28, 29, 30, 31, 32, 33, 34, 35, 36, 37, 38, 39, 40, 41, 42, 43, 44, 45, 46, 47, 48, 49, 50, 51, 52, 53, 54, 55, 56, 57, 58, 59, 60, 61, 86, 87, 88, 89, 90, 91, 78, 79, 80, 81, 82, 83, 84, 85, 92, 93, 94, 95, 96, 97] (by decide +kernel) (by decide +kernel)
set_option maxRecDepth 20000 in
theorem gX4_gainOf_X4_spendsOf : GoodIn wsX4_gainOf (wsV RX4 74 RX4 yX4_spendsOf wsX4_spendsOf) := goodIn_app (goodIn_of _ (by decide +kernel)) ggX4_gainOf_X4_spendsOf
set_option maxRecDepth 20000 in
theorem ggX4_gainOf_X4_eatsOf : GoodIn wsX4_gainOf wsX4_eatsOf := goodIn_r _ [69, 13, 70, 15, 14, 71, 56, 57, 58, 72, 17, 18, 19, 20, 21, 22, 23, 24, 25, 26, 27, 28, 29, 30, 31, 32, 33, 34, 35, 36, 37, 38, 39, 40, 41, 42, 43, 44, 45, 46, 47, 48, 49, 50, 51, 52, 53, 54, 55, 59, 60, 61, 86, 87, 88, 89, 90, 78, 79, 80, 81, 82, 83, 84, 85, 91, 92, 93, 94, 95, 96, 97] (by decide +kernel) (by decide +kernel)
set_option maxRecDepth 20000 in
theorem gX4_gainOf_X4_eatsOf : GoodIn wsX4_gainOf (wsV RX4 60 RX4 yX4_eatsOf wsX4_eatsOf) := goodIn_app (goodIn_of _ (by decide +kernel)) ggX4_gainOf_X4_eatsOf
set_option maxRecDepth 20000 in
theorem ggX4_gainOf_X4_priceOf : GoodIn wsX4_gainOf wsX4_priceOf := goodIn_r _ [75, 76, 77, 78, 79, 80, 81, 82, 83, 84, 85] (by decide +kernel) (by decide +kernel)
set_option maxRecDepth 20000 in
theorem gX4_gainOf_X4_priceOf : GoodIn wsX4_gainOf (va_wsS RX4 70 yX4_priceOf wsX4_priceOf) := goodIn_app (goodIn_of _ (by decide +kernel)) ggX4_gainOf_X4_priceOf
theorem dX4_gainOf_0 : decode cX4_gainOf 0 = .ok (.aload_n 1, 1) := by decide +kernel
theorem dX4_gainOf_1 : decode cX4_gainOf 1 = .ok (.aload_n 2, 1) := by decide +kernel
theorem dX4_gainOf_2 : decode cX4_gainOf 2 = .ok (.invokevirtual 56, 3) := by decide +kernel
theorem dX4_gainOf_5 : decode cX4_gainOf 5 = .ok (.ifCond .ne 5, 3) := by decide +kernel
theorem dX4_gainOf_8 : decode cX4_gainOf 8 = .ok (.iconst 0, 1) := by decide +kernel
theorem dX4_gainOf_9 : decode cX4_gainOf 9 = .ok (.ireturn, 1) := by decide +kernel
theorem dX4_gainOf_10 : decode cX4_gainOf 10 = .ok (.aload_n 0, 1) := by decide +kernel
theorem dX4_gainOf_11 : decode cX4_gainOf 11 = .ok (.aload_n 1, 1) := by decide +kernel
theorem dX4_gainOf_12 : decode cX4_gainOf 12 = .ok (.aload_n 2, 1) := by decide +kernel
theorem dX4_gainOf_13 : decode cX4_gainOf 13 = .ok (.invokevirtual 64, 3) := by decide +kernel
theorem dX4_gainOf_16 : decode cX4_gainOf 16 = .ok (.istore_n 3, 1) := by decide +kernel
theorem dX4_gainOf_17 : decode cX4_gainOf 17 = .ok (.iload_n 3, 1) := by decide +kernel
theorem dX4_gainOf_18 : decode cX4_gainOf 18 = .ok (.ifCond .le 18, 3) := by decide +kernel
theorem dX4_gainOf_21 : decode cX4_gainOf 21 = .ok (.aload_n 0, 1) := by decide +kernel
theorem dX4_gainOf_22 : decode cX4_gainOf 22 = .ok (.aload_n 1, 1) := by decide +kernel
theorem dX4_gainOf_23 : decode cX4_gainOf 23 = .ok (.aload_n 2, 1) := by decide +kernel
theorem dX4_gainOf_24 : decode cX4_gainOf 24 = .ok (.invokevirtual 74, 3) := by decide +kernel
theorem dX4_gainOf_27 : decode cX4_gainOf 27 = .ok (.sipush 1000, 3) := by decide +kernel
theorem dX4_gainOf_30 : decode cX4_gainOf 30 = .ok (.imul, 1) := by decide +kernel
theorem dX4_gainOf_31 : decode cX4_gainOf 31 = .ok (.iload_n 3, 1) := by decide +kernel
theorem dX4_gainOf_32 : decode cX4_gainOf 32 = .ok (.idiv, 1) := by decide +kernel
theorem dX4_gainOf_33 : decode cX4_gainOf 33 = .ok (.goto 4, 3) := by decide +kernel
theorem dX4_gainOf_36 : decode cX4_gainOf 36 = .ok (.iconst 0, 1) := by decide +kernel
theorem dX4_gainOf_37 : decode cX4_gainOf 37 = .ok (.istore 4, 2) := by decide +kernel
theorem dX4_gainOf_39 : decode cX4_gainOf 39 = .ok (.iload 4, 2) := by decide +kernel
theorem dX4_gainOf_41 : decode cX4_gainOf 41 = .ok (.sipush 1000, 3) := by decide +kernel
theorem dX4_gainOf_44 : decode cX4_gainOf 44 = .ok (.aload_n 1, 1) := by decide +kernel
theorem dX4_gainOf_45 : decode cX4_gainOf 45 = .ok (.aload_n 0, 1) := by decide +kernel
theorem dX4_gainOf_46 : decode cX4_gainOf 46 = .ok (.aload_n 1, 1) := by decide +kernel
theorem dX4_gainOf_47 : decode cX4_gainOf 47 = .ok (.aload_n 2, 1) := by decide +kernel
theorem dX4_gainOf_48 : decode cX4_gainOf 48 = .ok (.invokevirtual 60, 3) := by decide +kernel
theorem dX4_gainOf_51 : decode cX4_gainOf 51 = .ok (.invokestatic 70, 3) := by decide +kernel
theorem dX4_gainOf_54 : decode cX4_gainOf 54 = .ok (.imul, 1) := by decide +kernel
theorem dX4_gainOf_55 : decode cX4_gainOf 55 = .ok (.isub, 1) := by decide +kernel
theorem dX4_gainOf_56 : decode cX4_gainOf 56 = .ok (.ireturn, 1) := by decide +kernel
theorem dX4_priceOf_0 : decode cX4_priceOf 0 = .ok (.iload_n 1, 1) := by decide +kernel
theorem dX4_priceOf_1 : decode cX4_priceOf 1 = .ok (.aload_n 0, 1) := by decide +kernel
theorem dX4_priceOf_2 : decode cX4_priceOf 2 = .ok (.getfield 77, 3) := by decide +kernel
theorem dX4_priceOf_5 : decode cX4_priceOf 5 = .ok (.imul, 1) := by decide +kernel
theorem dX4_priceOf_6 : decode cX4_priceOf 6 = .ok (.aload_n 0, 1) := by decide +kernel
theorem dX4_priceOf_7 : decode cX4_priceOf 7 = .ok (.getfield 80, 3) := by decide +kernel
theorem dX4_priceOf_10 : decode cX4_priceOf 10 = .ok (.imul, 1) := by decide +kernel
theorem dX4_priceOf_11 : decode cX4_priceOf 11 = .ok (.bipush 10, 2) := by decide +kernel
theorem dX4_priceOf_13 : decode cX4_priceOf 13 = .ok (.idiv, 1) := by decide +kernel
theorem dX4_priceOf_14 : decode cX4_priceOf 14 = .ok (.ireturn, 1) := by decide +kernel
set_option maxRecDepth 20000 in
theorem ggX4_allGainOf_X4_gainOf : GoodIn wsX4_allGainOf wsX4_gainOf := goodIn_r _ [7, 8, 9, 10, 11, 12, 13, 14, 15, 16, 17, 6, 18, 19, 20, 21, 22, 23, 24, 25, 26, 27, 28, 29, 30, 31, 32, 33, 34, 35, 36, 37, 38, 39, 40, 41, 42, 43, 44, 45, 46, 47, 48, 49, 50, 51, 52, 53, 54, 55, 56, 57, 58, 59, 60, 61, 62, 63, 64, 65, 66, 67, 68, 69, 70, 71, 72, 73, 74, 75, 76, 77, 78, 79, 80, 81, 82, 83, 84, 85, 86, 87, 88, 89, 90, 91, 92, 93, 94, 95, 96, 97, 98, 99, 100, 101, 102, 103] (by decide +kernel) (by decide +kernel)
set_option maxRecDepth 20000 in
theorem gX4_allGainOf_X4_gainOf : GoodIn wsX4_allGainOf (wsV RX4 90 RX4 yX4_gainOf wsX4_gainOf) := goodIn_app (goodIn_of _ (by decide +kernel)) ggX4_allGainOf_X4_gainOf
theorem dX4_allGainOf_0 : decode cX4_allGainOf 0 = .ok (.iconst 0, 1) := by decide +kernel
theorem dX4_allGainOf_1 : decode cX4_allGainOf 1 = .ok (.istore_n 2, 1) := by decide +kernel
theorem dX4_allGainOf_2 : decode cX4_allGainOf 2 = .ok (.iconst 0, 1) := by decide +kernel
theorem dX4_allGainOf_3 : decode cX4_allGainOf 3 = .ok (.istore_n 3, 1) := by decide +kernel
theorem dX4_allGainOf_4 : decode cX4_allGainOf 4 = .ok (.iload_n 3, 1) := by decide +kernel
theorem dX4_allGainOf_5 : decode cX4_allGainOf 5 = .ok (.aload_n 1, 1) := by decide +kernel
theorem dX4_allGainOf_6 : decode cX4_allGainOf 6 = .ok (.getfield 83, 3) := by decide +kernel
theorem dX4_allGainOf_9 : decode cX4_allGainOf 9 = .ok (.if_icmp .ge 29, 3) := by decide +kernel
theorem dX4_allGainOf_12 : decode cX4_allGainOf 12 = .ok (.iload_n 3, 1) := by decide +kernel
theorem dX4_allGainOf_13 : decode cX4_allGainOf 13 = .ok (.bipush 8, 2) := by decide +kernel
theorem dX4_allGainOf_15 : decode cX4_allGainOf 15 = .ok (.if_icmp .ge 23, 3) := by decide +kernel
theorem dX4_allGainOf_18 : decode cX4_allGainOf 18 = .ok (.iload_n 2, 1) := by decide +kernel
theorem dX4_allGainOf_19 : decode cX4_allGainOf 19 = .ok (.aload_n 0, 1) := by decide +kernel
theorem dX4_allGainOf_20 : decode cX4_allGainOf 20 = .ok (.aload_n 1, 1) := by decide +kernel
theorem dX4_allGainOf_21 : decode cX4_allGainOf 21 = .ok (.aload_n 1, 1) := by decide +kernel
theorem dX4_allGainOf_22 : decode cX4_allGainOf 22 = .ok (.getfield 86, 3) := by decide +kernel
theorem dX4_allGainOf_25 : decode cX4_allGainOf 25 = .ok (.iload_n 3, 1) := by decide +kernel
theorem dX4_allGainOf_26 : decode cX4_allGainOf 26 = .ok (.aaload, 1) := by decide +kernel
theorem dX4_allGainOf_27 : decode cX4_allGainOf 27 = .ok (.invokevirtual 90, 3) := by decide +kernel
theorem dX4_allGainOf_30 : decode cX4_allGainOf 30 = .ok (.iadd, 1) := by decide +kernel
theorem dX4_allGainOf_31 : decode cX4_allGainOf 31 = .ok (.istore_n 2, 1) := by decide +kernel
theorem dX4_allGainOf_32 : decode cX4_allGainOf 32 = .ok (.iinc 3 1, 3) := by decide +kernel
theorem dX4_allGainOf_35 : decode cX4_allGainOf 35 = .ok (.goto (-31), 3) := by decide +kernel
theorem dX4_allGainOf_38 : decode cX4_allGainOf 38 = .ok (.iload_n 2, 1) := by decide +kernel
theorem dX4_allGainOf_39 : decode cX4_allGainOf 39 = .ok (.ireturn, 1) := by decide +kernel
set_option maxRecDepth 20000 in
theorem ggX4_allCostOf_X4_costOf : GoodIn wsX4_allCostOf wsX4_costOf := goodIn_r _ [7, 8, 9, 10, 6, 11, 12, 13, 14, 15, 16, 17, 18, 19, 20, 21, 22, 23, 24, 25, 26, 27, 28, 29, 30, 31, 32, 33, 34, 35, 36, 37, 38, 39, 40, 41, 42, 43, 44, 45, 46, 47, 48, 49, 50, 51, 52, 53, 54, 55, 56, 57, 58, 59, 60, 61, 62, 63, 64, 65, 66, 67, 68, 69, 70, 71, 72, 73, 74, 75, 76, 77, 78, 79, 80, 81, 82, 83, 84, 85, 86, 87, 88, 89, 90, 91, 92, 93, 94, 95, 96, 97, 98] (by decide +kernel) (by decide +kernel)
set_option maxRecDepth 20000 in
theorem gX4_allCostOf_X4_costOf : GoodIn wsX4_allCostOf (wsV RX4 93 RX4 yX4_costOf wsX4_costOf) := goodIn_app (goodIn_of _ (by decide +kernel)) ggX4_allCostOf_X4_costOf
theorem dX4_allCostOf_0 : decode cX4_allCostOf 0 = .ok (.iconst 0, 1) := by decide +kernel
theorem dX4_allCostOf_1 : decode cX4_allCostOf 1 = .ok (.istore_n 2, 1) := by decide +kernel
theorem dX4_allCostOf_2 : decode cX4_allCostOf 2 = .ok (.iconst 0, 1) := by decide +kernel
theorem dX4_allCostOf_3 : decode cX4_allCostOf 3 = .ok (.istore_n 3, 1) := by decide +kernel
theorem dX4_allCostOf_4 : decode cX4_allCostOf 4 = .ok (.iload_n 3, 1) := by decide +kernel
theorem dX4_allCostOf_5 : decode cX4_allCostOf 5 = .ok (.aload_n 1, 1) := by decide +kernel
theorem dX4_allCostOf_6 : decode cX4_allCostOf 6 = .ok (.getfield 83, 3) := by decide +kernel
theorem dX4_allCostOf_9 : decode cX4_allCostOf 9 = .ok (.if_icmp .ge 29, 3) := by decide +kernel
theorem dX4_allCostOf_12 : decode cX4_allCostOf 12 = .ok (.iload_n 3, 1) := by decide +kernel
theorem dX4_allCostOf_13 : decode cX4_allCostOf 13 = .ok (.bipush 8, 2) := by decide +kernel
theorem dX4_allCostOf_15 : decode cX4_allCostOf 15 = .ok (.if_icmp .ge 23, 3) := by decide +kernel
theorem dX4_allCostOf_18 : decode cX4_allCostOf 18 = .ok (.iload_n 2, 1) := by decide +kernel
theorem dX4_allCostOf_19 : decode cX4_allCostOf 19 = .ok (.aload_n 0, 1) := by decide +kernel
theorem dX4_allCostOf_20 : decode cX4_allCostOf 20 = .ok (.aload_n 1, 1) := by decide +kernel
theorem dX4_allCostOf_21 : decode cX4_allCostOf 21 = .ok (.aload_n 1, 1) := by decide +kernel
theorem dX4_allCostOf_22 : decode cX4_allCostOf 22 = .ok (.getfield 86, 3) := by decide +kernel
theorem dX4_allCostOf_25 : decode cX4_allCostOf 25 = .ok (.iload_n 3, 1) := by decide +kernel
theorem dX4_allCostOf_26 : decode cX4_allCostOf 26 = .ok (.aaload, 1) := by decide +kernel
theorem dX4_allCostOf_27 : decode cX4_allCostOf 27 = .ok (.invokevirtual 93, 3) := by decide +kernel
theorem dX4_allCostOf_30 : decode cX4_allCostOf 30 = .ok (.iadd, 1) := by decide +kernel
theorem dX4_allCostOf_31 : decode cX4_allCostOf 31 = .ok (.istore_n 2, 1) := by decide +kernel
theorem dX4_allCostOf_32 : decode cX4_allCostOf 32 = .ok (.iinc 3 1, 3) := by decide +kernel
theorem dX4_allCostOf_35 : decode cX4_allCostOf 35 = .ok (.goto (-31), 3) := by decide +kernel
theorem dX4_allCostOf_38 : decode cX4_allCostOf 38 = .ok (.iload_n 2, 1) := by decide +kernel
theorem dX4_allCostOf_39 : decode cX4_allCostOf 39 = .ok (.ireturn, 1) := by decide +kernel
set_option maxRecDepth 20000 in
theorem ggX4_allEatenOf_X4_eatenBy : GoodIn wsX4_allEatenOf wsX4_eatenBy := goodIn_r _ [7, 8, 9, 10, 11, 12, 13, 14, 15, 16, 17, 6, 18, 19, 20, 21, 22, 23, 24, 25, 26, 27, 28, 29, 30, 31, 32, 33, 34, 35, 36, 37, 38, 39, 40, 41, 42, 43, 44, 45, 46, 47, 48, 49, 50, 51, 52, 53, 54, 55, 56, 57, 58, 59, 60, 61, 62, 63, 64, 65, 66, 67, 68, 69, 70, 71, 72, 73, 74, 75, 76, 77, 78, 79, 80, 81, 82, 83, 84, 85, 86, 87, 88, 89] (by decide +kernel) (by decide +kernel)
set_option maxRecDepth 20000 in
theorem gX4_allEatenOf_X4_eatenBy : GoodIn wsX4_allEatenOf (wsV RX4 67 RX4 yX4_eatenBy wsX4_eatenBy) := goodIn_app (goodIn_of _ (by decide +kernel)) ggX4_allEatenOf_X4_eatenBy
theorem dX4_allEatenOf_0 : decode cX4_allEatenOf 0 = .ok (.iconst 0, 1) := by decide +kernel
theorem dX4_allEatenOf_1 : decode cX4_allEatenOf 1 = .ok (.istore_n 2, 1) := by decide +kernel
theorem dX4_allEatenOf_2 : decode cX4_allEatenOf 2 = .ok (.iconst 0, 1) := by decide +kernel
theorem dX4_allEatenOf_3 : decode cX4_allEatenOf 3 = .ok (.istore_n 3, 1) := by decide +kernel
theorem dX4_allEatenOf_4 : decode cX4_allEatenOf 4 = .ok (.iload_n 3, 1) := by decide +kernel
theorem dX4_allEatenOf_5 : decode cX4_allEatenOf 5 = .ok (.aload_n 1, 1) := by decide +kernel
theorem dX4_allEatenOf_6 : decode cX4_allEatenOf 6 = .ok (.getfield 83, 3) := by decide +kernel
theorem dX4_allEatenOf_9 : decode cX4_allEatenOf 9 = .ok (.if_icmp .ge 29, 3) := by decide +kernel
theorem dX4_allEatenOf_12 : decode cX4_allEatenOf 12 = .ok (.iload_n 3, 1) := by decide +kernel
theorem dX4_allEatenOf_13 : decode cX4_allEatenOf 13 = .ok (.bipush 8, 2) := by decide +kernel
theorem dX4_allEatenOf_15 : decode cX4_allEatenOf 15 = .ok (.if_icmp .ge 23, 3) := by decide +kernel
theorem dX4_allEatenOf_18 : decode cX4_allEatenOf 18 = .ok (.iload_n 2, 1) := by decide +kernel
theorem dX4_allEatenOf_19 : decode cX4_allEatenOf 19 = .ok (.aload_n 0, 1) := by decide +kernel
theorem dX4_allEatenOf_20 : decode cX4_allEatenOf 20 = .ok (.aload_n 1, 1) := by decide +kernel
theorem dX4_allEatenOf_21 : decode cX4_allEatenOf 21 = .ok (.aload_n 1, 1) := by decide +kernel
theorem dX4_allEatenOf_22 : decode cX4_allEatenOf 22 = .ok (.getfield 86, 3) := by decide +kernel
theorem dX4_allEatenOf_25 : decode cX4_allEatenOf 25 = .ok (.iload_n 3, 1) := by decide +kernel
theorem dX4_allEatenOf_26 : decode cX4_allEatenOf 26 = .ok (.aaload, 1) := by decide +kernel
theorem dX4_allEatenOf_27 : decode cX4_allEatenOf 27 = .ok (.invokevirtual 67, 3) := by decide +kernel
theorem dX4_allEatenOf_30 : decode cX4_allEatenOf 30 = .ok (.iadd, 1) := by decide +kernel
theorem dX4_allEatenOf_31 : decode cX4_allEatenOf 31 = .ok (.istore_n 2, 1) := by decide +kernel
theorem dX4_allEatenOf_32 : decode cX4_allEatenOf 32 = .ok (.iinc 3 1, 3) := by decide +kernel
theorem dX4_allEatenOf_35 : decode cX4_allEatenOf 35 = .ok (.goto (-31), 3) := by decide +kernel
theorem dX4_allEatenOf_38 : decode cX4_allEatenOf 38 = .ok (.iload_n 2, 1) := by decide +kernel
theorem dX4_allEatenOf_39 : decode cX4_allEatenOf 39 = .ok (.ireturn, 1) := by decide +kernel
set_option maxRecDepth 20000 in
theorem ggX4_eatenIn_X4_eatenBy : GoodIn wsX4_eatenIn wsX4_eatenBy := goodIn_r _ [8, 9, 10, 11, 12, 13, 14, 15, 16, 17, 18, 7, 19, 20, 21, 22, 23, 24, 25, 26, 27, 28, 29, 30, 31, 32, 33, 34, 35, 36, 37, 38, 39, 40, 41, 42, 43, 44, 45, 46, 47, 48, 49, 50, 51, 52, 53, 54, 55, 56, 57, 58, 59, 60, 61, 62, 63, 64, 65, 66, 67, 68, 69, 70, 71, 72, 73, 74, 75, 76, 77, 78, 79, 80, 81, 82, 83, 84, 85, 86, 87, 88, 89, 90] (by decide +kernel) (by decide +kernel)
set_option maxRecDepth 20000 in
theorem gX4_eatenIn_X4_eatenBy : GoodIn wsX4_eatenIn (wsV RX4 67 RX4 yX4_eatenBy wsX4_eatenBy) := goodIn_app (goodIn_of _ (by decide +kernel)) ggX4_eatenIn_X4_eatenBy
theorem dX4_eatenIn_0 : decode cX4_eatenIn 0 = .ok (.iconst 0, 1) := by decide +kernel
theorem dX4_eatenIn_1 : decode cX4_eatenIn 1 = .ok (.istore_n 3, 1) := by decide +kernel
theorem dX4_eatenIn_2 : decode cX4_eatenIn 2 = .ok (.iconst 0, 1) := by decide +kernel
theorem dX4_eatenIn_3 : decode cX4_eatenIn 3 = .ok (.istore 4, 2) := by decide +kernel
theorem dX4_eatenIn_5 : decode cX4_eatenIn 5 = .ok (.iload 4, 2) := by decide +kernel
theorem dX4_eatenIn_7 : decode cX4_eatenIn 7 = .ok (.aload_n 1, 1) := by decide +kernel
theorem dX4_eatenIn_8 : decode cX4_eatenIn 8 = .ok (.getfield 83, 3) := by decide +kernel
theorem dX4_eatenIn_11 : decode cX4_eatenIn 11 = .ok (.if_icmp .ge 45, 3) := by decide +kernel
theorem dX4_eatenIn_14 : decode cX4_eatenIn 14 = .ok (.iload 4, 2) := by decide +kernel
theorem dX4_eatenIn_16 : decode cX4_eatenIn 16 = .ok (.bipush 8, 2) := by decide +kernel
theorem dX4_eatenIn_18 : decode cX4_eatenIn 18 = .ok (.if_icmp .ge 38, 3) := by decide +kernel
theorem dX4_eatenIn_21 : decode cX4_eatenIn 21 = .ok (.aload_n 1, 1) := by decide +kernel
theorem dX4_eatenIn_22 : decode cX4_eatenIn 22 = .ok (.getfield 86, 3) := by decide +kernel
theorem dX4_eatenIn_25 : decode cX4_eatenIn 25 = .ok (.iload 4, 2) := by decide +kernel
theorem dX4_eatenIn_27 : decode cX4_eatenIn 27 = .ok (.aaload, 1) := by decide +kernel
theorem dX4_eatenIn_28 : decode cX4_eatenIn 28 = .ok (.getfield 96, 3) := by decide +kernel
theorem dX4_eatenIn_31 : decode cX4_eatenIn 31 = .ok (.iload_n 2, 1) := by decide +kernel
theorem dX4_eatenIn_32 : decode cX4_eatenIn 32 = .ok (.if_icmp .ne 18, 3) := by decide +kernel
theorem dX4_eatenIn_35 : decode cX4_eatenIn 35 = .ok (.iload_n 3, 1) := by decide +kernel
theorem dX4_eatenIn_36 : decode cX4_eatenIn 36 = .ok (.aload_n 0, 1) := by decide +kernel
theorem dX4_eatenIn_37 : decode cX4_eatenIn 37 = .ok (.aload_n 1, 1) := by decide +kernel
theorem dX4_eatenIn_38 : decode cX4_eatenIn 38 = .ok (.aload_n 1, 1) := by decide +kernel
theorem dX4_eatenIn_39 : decode cX4_eatenIn 39 = .ok (.getfield 86, 3) := by decide +kernel
theorem dX4_eatenIn_42 : decode cX4_eatenIn 42 = .ok (.iload 4, 2) := by decide +kernel
theorem dX4_eatenIn_44 : decode cX4_eatenIn 44 = .ok (.aaload, 1) := by decide +kernel
theorem dX4_eatenIn_45 : decode cX4_eatenIn 45 = .ok (.invokevirtual 67, 3) := by decide +kernel
theorem dX4_eatenIn_48 : decode cX4_eatenIn 48 = .ok (.iadd, 1) := by decide +kernel
theorem dX4_eatenIn_49 : decode cX4_eatenIn 49 = .ok (.istore_n 3, 1) := by decide +kernel
theorem dX4_eatenIn_50 : decode cX4_eatenIn 50 = .ok (.iinc 4 1, 3) := by decide +kernel
theorem dX4_eatenIn_53 : decode cX4_eatenIn 53 = .ok (.goto (-48), 3) := by decide +kernel
theorem dX4_eatenIn_56 : decode cX4_eatenIn 56 = .ok (.iload_n 3, 1) := by decide +kernel
theorem dX4_eatenIn_57 : decode cX4_eatenIn 57 = .ok (.ireturn, 1) := by decide +kernel
set_option maxRecDepth 20000 in
theorem ggX4_onlyEatersOf_X4_eatenBy : GoodIn wsX4_onlyEatersOf wsX4_eatenBy := goodIn_r _ [7, 8, 9, 10, 11, 12, 13, 14, 15, 16, 17, 6, 18, 19, 20, 21, 22, 23, 24, 25, 26, 27, 28, 29, 30, 31, 32, 33, 34, 35, 36, 37, 38, 39, 40, 41, 42, 43, 44, 45, 46, 47, 48, 49, 50, 51, 52, 53, 54, 55, 56, 57, 58, 59, 60, 61, 62, 63, 64, 65, 66, 67, 68, 69, 75, 76, 77, 78, 79, 80, 81, 82, 83, 84, 85, 86, 87, 88, 89, 90, 91, 92, 93, 94] (by decide +kernel) (by decide +kernel)
set_option maxRecDepth 20000 in
theorem gX4_onlyEatersOf_X4_eatenBy : GoodIn wsX4_onlyEatersOf (wsV RX4 67 RX4 yX4_eatenBy wsX4_eatenBy) := goodIn_app (goodIn_of _ (by decide +kernel)) ggX4_onlyEatersOf_X4_eatenBy
set_option maxRecDepth 20000 in
theorem ggX4_onlyEatersOf_X4_triesOf : GoodIn wsX4_onlyEatersOf wsX4_triesOf := goodIn_r _ [73, 19, 22, 21, 74, 28, 29, 30, 31, 32, 33, 34, 35, 36, 37, 38, 39, 40, 41, 42, 43, 44, 45, 46, 47, 48, 49, 50, 51, 52, 53, 54, 55, 56, 57, 58, 59, 60, 61, 62, 63, 64, 65, 66, 24, 25, 26, 67, 68, 69, 83, 84, 85, 86, 87, 75, 76, 77, 78, 79, 80, 81, 82, 88, 89, 90, 91, 92, 93, 94] (by decide +kernel) (by decide +kernel)
set_option maxRecDepth 20000 in
theorem gX4_onlyEatersOf_X4_triesOf : GoodIn wsX4_onlyEatersOf (wsV RX4 64 RX4 yX4_triesOf wsX4_triesOf) := goodIn_app (goodIn_of _ (by decide +kernel)) ggX4_onlyEatersOf_X4_triesOf
theorem dX4_onlyEatersOf_0 : decode cX4_onlyEatersOf 0 = .ok (.iconst 0, 1) := by decide +kernel
theorem dX4_onlyEatersOf_1 : decode cX4_onlyEatersOf 1 = .ok (.istore_n 2, 1) := by decide +kernel
theorem dX4_onlyEatersOf_2 : decode cX4_onlyEatersOf 2 = .ok (.iconst 0, 1) := by decide +kernel
theorem dX4_onlyEatersOf_3 : decode cX4_onlyEatersOf 3 = .ok (.istore_n 3, 1) := by decide +kernel
theorem dX4_onlyEatersOf_4 : decode cX4_onlyEatersOf 4 = .ok (.iload_n 3, 1) := by decide +kernel
theorem dX4_onlyEatersOf_5 : decode cX4_onlyEatersOf 5 = .ok (.aload_n 1, 1) := by decide +kernel
theorem dX4_onlyEatersOf_6 : decode cX4_onlyEatersOf 6 = .ok (.getfield 83, 3) := by decide +kernel
theorem dX4_onlyEatersOf_9 : decode cX4_onlyEatersOf 9 = .ok (.if_icmp .ge 49, 3) := by decide +kernel
theorem dX4_onlyEatersOf_12 : decode cX4_onlyEatersOf 12 = .ok (.iload_n 3, 1) := by decide +kernel
theorem dX4_onlyEatersOf_13 : decode cX4_onlyEatersOf 13 = .ok (.bipush 8, 2) := by decide +kernel
theorem dX4_onlyEatersOf_15 : decode cX4_onlyEatersOf 15 = .ok (.if_icmp .ge 43, 3) := by decide +kernel
theorem dX4_onlyEatersOf_18 : decode cX4_onlyEatersOf 18 = .ok (.aload_n 1, 1) := by decide +kernel
theorem dX4_onlyEatersOf_19 : decode cX4_onlyEatersOf 19 = .ok (.getfield 86, 3) := by decide +kernel
theorem dX4_onlyEatersOf_22 : decode cX4_onlyEatersOf 22 = .ok (.iload_n 3, 1) := by decide +kernel
theorem dX4_onlyEatersOf_23 : decode cX4_onlyEatersOf 23 = .ok (.aaload, 1) := by decide +kernel
theorem dX4_onlyEatersOf_24 : decode cX4_onlyEatersOf 24 = .ok (.astore 4, 2) := by decide +kernel
theorem dX4_onlyEatersOf_26 : decode cX4_onlyEatersOf 26 = .ok (.aload_n 0, 1) := by decide +kernel
theorem dX4_onlyEatersOf_27 : decode cX4_onlyEatersOf 27 = .ok (.aload_n 1, 1) := by decide +kernel
theorem dX4_onlyEatersOf_28 : decode cX4_onlyEatersOf 28 = .ok (.aload 4, 2) := by decide +kernel
theorem dX4_onlyEatersOf_30 : decode cX4_onlyEatersOf 30 = .ok (.invokevirtual 67, 3) := by decide +kernel
theorem dX4_onlyEatersOf_33 : decode cX4_onlyEatersOf 33 = .ok (.ifCond .le 19, 3) := by decide +kernel
theorem dX4_onlyEatersOf_36 : decode cX4_onlyEatersOf 36 = .ok (.aload_n 0, 1) := by decide +kernel
theorem dX4_onlyEatersOf_37 : decode cX4_onlyEatersOf 37 = .ok (.aload_n 1, 1) := by decide +kernel
theorem dX4_onlyEatersOf_38 : decode cX4_onlyEatersOf 38 = .ok (.aload 4, 2) := by decide +kernel
theorem dX4_onlyEatersOf_40 : decode cX4_onlyEatersOf 40 = .ok (.invokevirtual 64, 3) := by decide +kernel
theorem dX4_onlyEatersOf_43 : decode cX4_onlyEatersOf 43 = .ok (.ifCond .ne 9, 3) := by decide +kernel
theorem dX4_onlyEatersOf_46 : decode cX4_onlyEatersOf 46 = .ok (.iload_n 2, 1) := by decide +kernel
theorem dX4_onlyEatersOf_47 : decode cX4_onlyEatersOf 47 = .ok (.iconst 1, 1) := by decide +kernel
theorem dX4_onlyEatersOf_48 : decode cX4_onlyEatersOf 48 = .ok (.iload_n 3, 1) := by decide +kernel
theorem dX4_onlyEatersOf_49 : decode cX4_onlyEatersOf 49 = .ok (.ishl, 1) := by decide +kernel
theorem dX4_onlyEatersOf_50 : decode cX4_onlyEatersOf 50 = .ok (.ior, 1) := by decide +kernel
theorem dX4_onlyEatersOf_51 : decode cX4_onlyEatersOf 51 = .ok (.istore_n 2, 1) := by decide +kernel
theorem dX4_onlyEatersOf_52 : decode cX4_onlyEatersOf 52 = .ok (.iinc 3 1, 3) := by decide +kernel
theorem dX4_onlyEatersOf_55 : decode cX4_onlyEatersOf 55 = .ok (.goto (-51), 3) := by decide +kernel
theorem dX4_onlyEatersOf_58 : decode cX4_onlyEatersOf 58 = .ok (.iload_n 2, 1) := by decide +kernel
theorem dX4_onlyEatersOf_59 : decode cX4_onlyEatersOf 59 = .ok (.ireturn, 1) := by decide +kernel
set_option maxRecDepth 20000 in
theorem ggX4_drawn_X6_isThere : GoodIn wsX4_drawn wsX6_isThere := goodIn_r _ [13, 14, 15, 71, 72, 73, 74, 75, 76, 77, 78, 79, 80, 81, 82, 83] (by decide +kernel) (by decide +kernel)
set_option maxRecDepth 20000 in
theorem gX4_drawn_X6_isThere : GoodIn wsX4_drawn (wsV RX4 56 RX6 yX6_isThere wsX6_isThere) := goodIn_app (goodIn_of _ (by decide +kernel)) ggX4_drawn_X6_isThere
set_option maxRecDepth 20000 in
theorem ggX4_drawn_X4_triesOf : GoodIn wsX4_drawn wsX4_triesOf := goodIn_r _ [20, 21, 22, 23, 24, 25, 26, 27, 28, 29, 30, 31, 32, 33, 34, 35, 36, 37, 38, 39, 40, 41, 42, 43, 44, 45, 46, 47, 48, 49, 50, 51, 52, 53, 54, 55, 56, 57, 58, 59, 60, 61, 62, 63, 6, 7, 8, 64, 65, 66, 79, 80, 81, 82, 83, 71, 72, 73, 74, 75, 76, 77, 78, 84, 85, 86, 87, 88, 89, 90] (by decide +kernel) (by decide +kernel)
set_option maxRecDepth 20000 in
theorem gX4_drawn_X4_triesOf : GoodIn wsX4_drawn (wsV RX4 64 RX4 yX4_triesOf wsX4_triesOf) := goodIn_app (goodIn_of _ (by decide +kernel)) ggX4_drawn_X4_triesOf
set_option maxRecDepth 20000 in
theorem ggX4_drawn_X4_spendsOf : GoodIn wsX4_drawn wsX4_spendsOf := goodIn_r _ [70, 21, 23, 24, 25, 26, 27, 28, 29, 30, 31, 32, 33, 34, 35, 36, 37, 38, 39, 40, 41, 42, 43, 44, 45, 46, 47, 48, 49, 50, 51, 52, 53, 54, 55, 56, 57, 58, 59, 60, 61, 62, 63, 6, 7, 8, 64, 65, 66, 79, 80, 81, 82, 83, 84, 71, 72, 73, 74, 75, 76, 77, 78, 85, 86, 87, 88, 89, 90] (by decide +kernel) (by decide +kernel)
set_option maxRecDepth 20000 in
theorem gX4_drawn_X4_spendsOf : GoodIn wsX4_drawn (wsV RX4 74 RX4 yX4_spendsOf wsX4_spendsOf) := goodIn_app (goodIn_of _ (by decide +kernel)) ggX4_drawn_X4_spendsOf
theorem dX4_drawn_0 : decode cX4_drawn 0 = .ok (.iload_n 2, 1) := by decide +kernel
theorem dX4_drawn_1 : decode cX4_drawn 1 = .ok (.istore 4, 2) := by decide +kernel
theorem dX4_drawn_3 : decode cX4_drawn 3 = .ok (.iconst 0, 1) := by decide +kernel
theorem dX4_drawn_4 : decode cX4_drawn 4 = .ok (.istore 5, 2) := by decide +kernel
theorem dX4_drawn_6 : decode cX4_drawn 6 = .ok (.iconst 0, 1) := by decide +kernel
theorem dX4_drawn_7 : decode cX4_drawn 7 = .ok (.istore 6, 2) := by decide +kernel
theorem dX4_drawn_9 : decode cX4_drawn 9 = .ok (.iload 6, 2) := by decide +kernel
theorem dX4_drawn_11 : decode cX4_drawn 11 = .ok (.aload_n 1, 1) := by decide +kernel
theorem dX4_drawn_12 : decode cX4_drawn 12 = .ok (.getfield 83, 3) := by decide +kernel
theorem dX4_drawn_15 : decode cX4_drawn 15 = .ok (.if_icmp .ge 104, 3) := by decide +kernel
theorem dX4_drawn_18 : decode cX4_drawn 18 = .ok (.iload 6, 2) := by decide +kernel
theorem dX4_drawn_20 : decode cX4_drawn 20 = .ok (.bipush 8, 2) := by decide +kernel
theorem dX4_drawn_22 : decode cX4_drawn 22 = .ok (.if_icmp .ge 97, 3) := by decide +kernel
theorem dX4_drawn_25 : decode cX4_drawn 25 = .ok (.aload_n 1, 1) := by decide +kernel
theorem dX4_drawn_26 : decode cX4_drawn 26 = .ok (.getfield 86, 3) := by decide +kernel
theorem dX4_drawn_29 : decode cX4_drawn 29 = .ok (.iload 6, 2) := by decide +kernel
theorem dX4_drawn_31 : decode cX4_drawn 31 = .ok (.aaload, 1) := by decide +kernel
theorem dX4_drawn_32 : decode cX4_drawn 32 = .ok (.astore 7, 2) := by decide +kernel
theorem dX4_drawn_34 : decode cX4_drawn 34 = .ok (.aload_n 1, 1) := by decide +kernel
theorem dX4_drawn_35 : decode cX4_drawn 35 = .ok (.aload 7, 2) := by decide +kernel
theorem dX4_drawn_37 : decode cX4_drawn 37 = .ok (.invokevirtual 56, 3) := by decide +kernel
theorem dX4_drawn_40 : decode cX4_drawn 40 = .ok (.ifCond .eq 73, 3) := by decide +kernel
theorem dX4_drawn_43 : decode cX4_drawn 43 = .ok (.iload 4, 2) := by decide +kernel
theorem dX4_drawn_45 : decode cX4_drawn 45 = .ok (.ldc 99, 2) := by decide +kernel
theorem dX4_drawn_47 : decode cX4_drawn 47 = .ok (.imul, 1) := by decide +kernel
theorem dX4_drawn_48 : decode cX4_drawn 48 = .ok (.sipush 12345, 3) := by decide +kernel
theorem dX4_drawn_51 : decode cX4_drawn 51 = .ok (.iadd, 1) := by decide +kernel
theorem dX4_drawn_52 : decode cX4_drawn 52 = .ok (.istore 4, 2) := by decide +kernel
theorem dX4_drawn_54 : decode cX4_drawn 54 = .ok (.aload_n 0, 1) := by decide +kernel
theorem dX4_drawn_55 : decode cX4_drawn 55 = .ok (.aload_n 1, 1) := by decide +kernel
theorem dX4_drawn_56 : decode cX4_drawn 56 = .ok (.aload 7, 2) := by decide +kernel
theorem dX4_drawn_58 : decode cX4_drawn 58 = .ok (.invokevirtual 64, 3) := by decide +kernel
theorem dX4_drawn_61 : decode cX4_drawn 61 = .ok (.istore 8, 2) := by decide +kernel
theorem dX4_drawn_63 : decode cX4_drawn 63 = .ok (.iload 8, 2) := by decide +kernel
theorem dX4_drawn_65 : decode cX4_drawn 65 = .ok (.ifCond .le 48, 3) := by decide +kernel
theorem dX4_drawn_68 : decode cX4_drawn 68 = .ok (.iload 4, 2) := by decide +kernel
theorem dX4_drawn_70 : decode cX4_drawn 70 = .ok (.bipush 9, 2) := by decide +kernel
theorem dX4_drawn_72 : decode cX4_drawn 72 = .ok (.iushr, 1) := by decide +kernel
theorem dX4_drawn_73 : decode cX4_drawn 73 = .ok (.iload 8, 2) := by decide +kernel
theorem dX4_drawn_75 : decode cX4_drawn 75 = .ok (.irem, 1) := by decide +kernel
theorem dX4_drawn_76 : decode cX4_drawn 76 = .ok (.ifCond .ne 37, 3) := by decide +kernel
theorem dX4_drawn_79 : decode cX4_drawn 79 = .ok (.iload 5, 2) := by decide +kernel
theorem dX4_drawn_81 : decode cX4_drawn 81 = .ok (.aload_n 0, 1) := by decide +kernel
theorem dX4_drawn_82 : decode cX4_drawn 82 = .ok (.aload_n 1, 1) := by decide +kernel
theorem dX4_drawn_83 : decode cX4_drawn 83 = .ok (.aload 7, 2) := by decide +kernel
theorem dX4_drawn_85 : decode cX4_drawn 85 = .ok (.invokevirtual 74, 3) := by decide +kernel
theorem dX4_drawn_88 : decode cX4_drawn 88 = .ok (.iadd, 1) := by decide +kernel
theorem dX4_drawn_89 : decode cX4_drawn 89 = .ok (.istore 5, 2) := by decide +kernel
theorem dX4_drawn_91 : decode cX4_drawn 91 = .ok (.iload_n 3, 1) := by decide +kernel
theorem dX4_drawn_92 : decode cX4_drawn 92 = .ok (.ifCond .eq 21, 3) := by decide +kernel
theorem dX4_drawn_95 : decode cX4_drawn 95 = .ok (.aload 7, 2) := by decide +kernel
theorem dX4_drawn_97 : decode cX4_drawn 97 = .ok (.aload 7, 2) := by decide +kernel
theorem dX4_drawn_99 : decode cX4_drawn 99 = .ok (.getfield 100, 3) := by decide +kernel
theorem dX4_drawn_102 : decode cX4_drawn 102 = .ok (.iconst 1, 1) := by decide +kernel
theorem dX4_drawn_103 : decode cX4_drawn 103 = .ok (.iadd, 1) := by decide +kernel
theorem dX4_drawn_104 : decode cX4_drawn 104 = .ok (.sipush 999, 3) := by decide +kernel
theorem dX4_drawn_107 : decode cX4_drawn 107 = .ok (.invokestatic 45, 3) := by decide +kernel
theorem dX4_drawn_110 : decode cX4_drawn 110 = .ok (.putfield 100, 3) := by decide +kernel
theorem dX4_drawn_113 : decode cX4_drawn 113 = .ok (.iinc 6 1, 3) := by decide +kernel
theorem dX4_drawn_116 : decode cX4_drawn 116 = .ok (.goto (-107), 3) := by decide +kernel
theorem dX4_drawn_119 : decode cX4_drawn 119 = .ok (.iload 5, 2) := by decide +kernel
theorem dX4_drawn_121 : decode cX4_drawn 121 = .ok (.ireturn, 1) := by decide +kernel
theorem dX5_init_0 : decode cX5_init 0 = .ok (.aload_n 0, 1) := by decide +kernel
theorem dX5_init_1 : decode cX5_init 1 = .ok (.invokespecial 3, 3) := by decide +kernel
theorem dX5_init_4 : decode cX5_init 4 = .ok (.aload_n 0, 1) := by decide +kernel
theorem dX5_init_5 : decode cX5_init 5 = .ok (.iconst (-1), 1) := by decide +kernel
theorem dX5_init_6 : decode cX5_init 6 = .ok (.putfield 9, 3) := by decide +kernel
theorem dX5_init_9 : decode cX5_init 9 = .ok (.aload_n 0, 1) := by decide +kernel
theorem dX5_init_10 : decode cX5_init 10 = .ok (.iconst 0, 1) := by decide +kernel
theorem dX5_init_11 : decode cX5_init 11 = .ok (.putfield 15, 3) := by decide +kernel
theorem dX5_init_14 : decode cX5_init 14 = .ok (.aload_n 0, 1) := by decide +kernel
theorem dX5_init_15 : decode cX5_init 15 = .ok (.bipush 40, 2) := by decide +kernel
theorem dX5_init_17 : decode cX5_init 17 = .ok (.newarray .int, 2) := by decide +kernel
theorem dX5_init_19 : decode cX5_init 19 = .ok (.putfield 18, 3) := by decide +kernel
theorem dX5_init_22 : decode cX5_init 22 = .ok (.return_, 1) := by decide +kernel
theorem dX5_isMissing_0 : decode cX5_isMissing 0 = .ok (.aload_n 0, 1) := by decide +kernel
theorem dX5_isMissing_1 : decode cX5_isMissing 1 = .ok (.getfield 9, 3) := by decide +kernel
theorem dX5_isMissing_4 : decode cX5_isMissing 4 = .ok (.iconst (-1), 1) := by decide +kernel
theorem dX5_isMissing_5 : decode cX5_isMissing 5 = .ok (.if_icmp .ne 7, 3) := by decide +kernel
theorem dX5_isMissing_8 : decode cX5_isMissing 8 = .ok (.iconst 1, 1) := by decide +kernel
theorem dX5_isMissing_9 : decode cX5_isMissing 9 = .ok (.goto 4, 3) := by decide +kernel
theorem dX5_isMissing_12 : decode cX5_isMissing 12 = .ok (.iconst 0, 1) := by decide +kernel
theorem dX5_isMissing_13 : decode cX5_isMissing 13 = .ok (.ireturn, 1) := by decide +kernel
theorem dX5_holds_0 : decode cX5_holds 0 = .ok (.iload_n 2, 1) := by decide +kernel
theorem dX5_holds_1 : decode cX5_holds 1 = .ok (.ifCond .lt 29, 3) := by decide +kernel
theorem dX5_holds_4 : decode cX5_holds 4 = .ok (.iload_n 1, 1) := by decide +kernel
theorem dX5_holds_5 : decode cX5_holds 5 = .ok (.ifCond .lt 25, 3) := by decide +kernel
theorem dX5_holds_8 : decode cX5_holds 8 = .ok (.iload_n 1, 1) := by decide +kernel
theorem dX5_holds_9 : decode cX5_holds 9 = .ok (.aload_n 0, 1) := by decide +kernel
theorem dX5_holds_10 : decode cX5_holds 10 = .ok (.getfield 15, 3) := by decide +kernel
theorem dX5_holds_13 : decode cX5_holds 13 = .ok (.if_icmp .gt 17, 3) := by decide +kernel
theorem dX5_holds_16 : decode cX5_holds 16 = .ok (.iload_n 2, 1) := by decide +kernel
theorem dX5_holds_17 : decode cX5_holds 17 = .ok (.aload_n 0, 1) := by decide +kernel
theorem dX5_holds_18 : decode cX5_holds 18 = .ok (.getfield 15, 3) := by decide +kernel
theorem dX5_holds_21 : decode cX5_holds 21 = .ok (.iload_n 1, 1) := by decide +kernel
theorem dX5_holds_22 : decode cX5_holds 22 = .ok (.isub, 1) := by decide +kernel
theorem dX5_holds_23 : decode cX5_holds 23 = .ok (.if_icmp .gt 7, 3) := by decide +kernel
theorem dX5_holds_26 : decode cX5_holds 26 = .ok (.iconst 1, 1) := by decide +kernel
theorem dX5_holds_27 : decode cX5_holds 27 = .ok (.goto 4, 3) := by decide +kernel
theorem dX5_holds_30 : decode cX5_holds 30 = .ok (.iconst 0, 1) := by decide +kernel
theorem dX5_holds_31 : decode cX5_holds 31 = .ok (.ireturn, 1) := by decide +kernel
set_option maxRecDepth 20000 in
theorem ggX5_become_X11_bounded : GoodIn wsX5_become wsX11_bounded := goodIn_r _ [6, 7, 8, 9, 10, 11, 12, 13] (by decide +kernel) (by decide +kernel)
set_option maxRecDepth 20000 in
theorem gX5_become_X11_bounded_n22 : GoodIn wsX5_become (wsX11_bounded) := ggX5_become_X11_bounded
theorem dX5_become_0 : decode cX5_become 0 = .ok (.aload_n 0, 1) := by decide +kernel
theorem dX5_become_1 : decode cX5_become 1 = .ok (.iload_n 1, 1) := by decide +kernel
theorem dX5_become_2 : decode cX5_become 2 = .ok (.putfield 9, 3) := by decide +kernel
theorem dX5_become_5 : decode cX5_become 5 = .ok (.aload_n 0, 1) := by decide +kernel
theorem dX5_become_6 : decode cX5_become 6 = .ok (.iload_n 2, 1) := by decide +kernel
theorem dX5_become_7 : decode cX5_become 7 = .ok (.bipush 40, 2) := by decide +kernel
theorem dX5_become_9 : decode cX5_become 9 = .ok (.invokestatic 22, 3) := by decide +kernel
theorem dX5_become_12 : decode cX5_become 12 = .ok (.putfield 15, 3) := by decide +kernel
theorem dX5_become_15 : decode cX5_become 15 = .ok (.iconst 0, 1) := by decide +kernel
theorem dX5_become_16 : decode cX5_become 16 = .ok (.istore_n 3, 1) := by decide +kernel
theorem dX5_become_17 : decode cX5_become 17 = .ok (.iload_n 3, 1) := by decide +kernel
theorem dX5_become_18 : decode cX5_become 18 = .ok (.bipush 40, 2) := by decide +kernel
theorem dX5_become_20 : decode cX5_become 20 = .ok (.if_icmp .ge 16, 3) := by decide +kernel
theorem dX5_become_23 : decode cX5_become 23 = .ok (.aload_n 0, 1) := by decide +kernel
theorem dX5_become_24 : decode cX5_become 24 = .ok (.getfield 18, 3) := by decide +kernel
theorem dX5_become_27 : decode cX5_become 27 = .ok (.iload_n 3, 1) := by decide +kernel
theorem dX5_become_28 : decode cX5_become 28 = .ok (.iconst 0, 1) := by decide +kernel
theorem dX5_become_29 : decode cX5_become 29 = .ok (.iastore, 1) := by decide +kernel
theorem dX5_become_30 : decode cX5_become 30 = .ok (.iinc 3 1, 3) := by decide +kernel
theorem dX5_become_33 : decode cX5_become 33 = .ok (.goto (-16), 3) := by decide +kernel
theorem dX5_become_36 : decode cX5_become 36 = .ok (.return_, 1) := by decide +kernel
set_option maxRecDepth 20000 in
theorem ggX5_put_X5_holds : GoodIn wsX5_put wsX5_holds := goodIn_r _ [7, 8, 9, 10, 11] (by decide +kernel) (by decide +kernel)
set_option maxRecDepth 20000 in
theorem gX5_put_X5_holds : GoodIn wsX5_put (wsV RX5 26 RX5 yX5_holds wsX5_holds) := goodIn_app (goodIn_of _ (by decide +kernel)) ggX5_put_X5_holds
theorem dX5_put_0 : decode cX5_put 0 = .ok (.aload_n 0, 1) := by decide +kernel
theorem dX5_put_1 : decode cX5_put 1 = .ok (.iload_n 1, 1) := by decide +kernel
theorem dX5_put_2 : decode cX5_put 2 = .ok (.iconst 1, 1) := by decide +kernel
theorem dX5_put_3 : decode cX5_put 3 = .ok (.invokevirtual 26, 3) := by decide +kernel
theorem dX5_put_6 : decode cX5_put 6 = .ok (.ifCond .ne 4, 3) := by decide +kernel
theorem dX5_put_9 : decode cX5_put 9 = .ok (.return_, 1) := by decide +kernel
theorem dX5_put_10 : decode cX5_put 10 = .ok (.aload_n 0, 1) := by decide +kernel
theorem dX5_put_11 : decode cX5_put 11 = .ok (.getfield 9, 3) := by decide +kernel
theorem dX5_put_14 : decode cX5_put 14 = .ok (.ifCond .ne 14, 3) := by decide +kernel
theorem dX5_put_17 : decode cX5_put 17 = .ok (.aload_n 0, 1) := by decide +kernel
theorem dX5_put_18 : decode cX5_put 18 = .ok (.getfield 18, 3) := by decide +kernel
theorem dX5_put_21 : decode cX5_put 21 = .ok (.iload_n 1, 1) := by decide +kernel
theorem dX5_put_22 : decode cX5_put 22 = .ok (.iload_n 2, 1) := by decide +kernel
theorem dX5_put_23 : decode cX5_put 23 = .ok (.i2b, 1) := by decide +kernel
theorem dX5_put_24 : decode cX5_put 24 = .ok (.iastore, 1) := by decide +kernel
theorem dX5_put_25 : decode cX5_put 25 = .ok (.goto 29, 3) := by decide +kernel
theorem dX5_put_28 : decode cX5_put 28 = .ok (.aload_n 0, 1) := by decide +kernel
theorem dX5_put_29 : decode cX5_put 29 = .ok (.getfield 9, 3) := by decide +kernel
theorem dX5_put_32 : decode cX5_put 32 = .ok (.iconst 1, 1) := by decide +kernel
theorem dX5_put_33 : decode cX5_put 33 = .ok (.if_icmp .ne 14, 3) := by decide +kernel
theorem dX5_put_36 : decode cX5_put 36 = .ok (.aload_n 0, 1) := by decide +kernel
theorem dX5_put_37 : decode cX5_put 37 = .ok (.getfield 18, 3) := by decide +kernel
theorem dX5_put_40 : decode cX5_put 40 = .ok (.iload_n 1, 1) := by decide +kernel
theorem dX5_put_41 : decode cX5_put 41 = .ok (.iload_n 2, 1) := by decide +kernel
theorem dX5_put_42 : decode cX5_put 42 = .ok (.i2s, 1) := by decide +kernel
theorem dX5_put_43 : decode cX5_put 43 = .ok (.iastore, 1) := by decide +kernel
theorem dX5_put_44 : decode cX5_put 44 = .ok (.goto 10, 3) := by decide +kernel
theorem dX5_put_47 : decode cX5_put 47 = .ok (.aload_n 0, 1) := by decide +kernel
theorem dX5_put_48 : decode cX5_put 48 = .ok (.getfield 18, 3) := by decide +kernel
theorem dX5_put_51 : decode cX5_put 51 = .ok (.iload_n 1, 1) := by decide +kernel
theorem dX5_put_52 : decode cX5_put 52 = .ok (.iload_n 2, 1) := by decide +kernel
theorem dX5_put_53 : decode cX5_put 53 = .ok (.iastore, 1) := by decide +kernel
theorem dX5_put_54 : decode cX5_put 54 = .ok (.return_, 1) := by decide +kernel
set_option maxRecDepth 20000 in
theorem ggX6_init_X1_init : GoodIn wsX6_init wsX1_init := goodIn_r _ [16, 17, 2, 3] (by decide +kernel) (by decide +kernel)
set_option maxRecDepth 20000 in
theorem gX6_init_X1_init_n39 : GoodIn wsX6_init (wsX1_init) := ggX6_init_X1_init
theorem dX6_init_0 : decode cX6_init 0 = .ok (.aload_n 0, 1) := by decide +kernel
theorem dX6_init_1 : decode cX6_init 1 = .ok (.invokespecial 3, 3) := by decide +kernel
theorem dX6_init_4 : decode cX6_init 4 = .ok (.aload_n 0, 1) := by decide +kernel
theorem dX6_init_5 : decode cX6_init 5 = .ok (.bipush 10, 2) := by decide +kernel
theorem dX6_init_7 : decode cX6_init 7 = .ok (.putfield 9, 3) := by decide +kernel
theorem dX6_init_10 : decode cX6_init 10 = .ok (.aload_n 0, 1) := by decide +kernel
theorem dX6_init_11 : decode cX6_init 11 = .ok (.iconst 4, 1) := by decide +kernel
theorem dX6_init_12 : decode cX6_init 12 = .ok (.putfield 15, 3) := by decide +kernel
theorem dX6_init_15 : decode cX6_init 15 = .ok (.aload_n 0, 1) := by decide +kernel
theorem dX6_init_16 : decode cX6_init 16 = .ok (.iconst 1, 1) := by decide +kernel
theorem dX6_init_17 : decode cX6_init 17 = .ok (.putfield 18, 3) := by decide +kernel
theorem dX6_init_20 : decode cX6_init 20 = .ok (.aload_n 0, 1) := by decide +kernel
theorem dX6_init_21 : decode cX6_init 21 = .ok (.sipush 1023, 3) := by decide +kernel
theorem dX6_init_24 : decode cX6_init 24 = .ok (.putfield 21, 3) := by decide +kernel
theorem dX6_init_27 : decode cX6_init 27 = .ok (.aload_n 0, 1) := by decide +kernel
theorem dX6_init_28 : decode cX6_init 28 = .ok (.iconst 2, 1) := by decide +kernel
theorem dX6_init_29 : decode cX6_init 29 = .ok (.putfield 24, 3) := by decide +kernel
theorem dX6_init_32 : decode cX6_init 32 = .ok (.aload_n 0, 1) := by decide +kernel
theorem dX6_init_33 : decode cX6_init 33 = .ok (.iconst 0, 1) := by decide +kernel
theorem dX6_init_34 : decode cX6_init 34 = .ok (.putfield 27, 3) := by decide +kernel
theorem dX6_init_37 : decode cX6_init 37 = .ok (.aload_n 0, 1) := by decide +kernel
theorem dX6_init_38 : decode cX6_init 38 = .ok (.iconst 0, 1) := by decide +kernel
theorem dX6_init_39 : decode cX6_init 39 = .ok (.putfield 30, 3) := by decide +kernel
theorem dX6_init_42 : decode cX6_init 42 = .ok (.aload_n 0, 1) := by decide +kernel
theorem dX6_init_43 : decode cX6_init 43 = .ok (.bipush 8, 2) := by decide +kernel
theorem dX6_init_45 : decode cX6_init 45 = .ok (.anewarray 33, 3) := by decide +kernel
theorem dX6_init_48 : decode cX6_init 48 = .ok (.putfield 35, 3) := by decide +kernel
theorem dX6_init_51 : decode cX6_init 51 = .ok (.iconst 0, 1) := by decide +kernel
theorem dX6_init_52 : decode cX6_init 52 = .ok (.istore_n 1, 1) := by decide +kernel
theorem dX6_init_53 : decode cX6_init 53 = .ok (.iload_n 1, 1) := by decide +kernel
theorem dX6_init_54 : decode cX6_init 54 = .ok (.bipush 8, 2) := by decide +kernel
theorem dX6_init_56 : decode cX6_init 56 = .ok (.if_icmp .ge 22, 3) := by decide +kernel
theorem dX6_init_59 : decode cX6_init 59 = .ok (.aload_n 0, 1) := by decide +kernel
theorem dX6_init_60 : decode cX6_init 60 = .ok (.getfield 35, 3) := by decide +kernel
theorem dX6_init_63 : decode cX6_init 63 = .ok (.iload_n 1, 1) := by decide +kernel
theorem dX6_init_64 : decode cX6_init 64 = .ok (.new 33, 3) := by decide +kernel
theorem dX6_init_67 : decode cX6_init 67 = .ok (.dup, 1) := by decide +kernel
theorem dX6_init_68 : decode cX6_init 68 = .ok (.invokespecial 39, 3) := by decide +kernel
theorem dX6_init_71 : decode cX6_init 71 = .ok (.aastore, 1) := by decide +kernel
theorem dX6_init_72 : decode cX6_init 72 = .ok (.iinc 1 1, 3) := by decide +kernel
theorem dX6_init_75 : decode cX6_init 75 = .ok (.goto (-22), 3) := by decide +kernel
theorem dX6_init_78 : decode cX6_init 78 = .ok (.return_, 1) := by decide +kernel
set_option maxRecDepth 20000 in
theorem ggX6_become_X1_become : GoodIn wsX6_become wsX1_become := goodIn_r _ [13, 14, 15, 16, 17, 18, 27, 28, 29, 30, 31] (by decide +kernel) (by decide +kernel)
set_option maxRecDepth 20000 in
theorem gX6_become_X1_become : GoodIn wsX6_become (wsV RX6 40 RX1 yX1_become wsX1_become) := goodIn_app (goodIn_of _ (by decide +kernel)) ggX6_become_X1_become
theorem dX6_become_0 : decode cX6_become 0 = .ok (.aload_n 0, 1) := by decide +kernel
theorem dX6_become_1 : decode cX6_become 1 = .ok (.aload_n 1, 1) := by decide +kernel
theorem dX6_become_2 : decode cX6_become 2 = .ok (.getfield 9, 3) := by decide +kernel
theorem dX6_become_5 : decode cX6_become 5 = .ok (.putfield 9, 3) := by decide +kernel
theorem dX6_become_8 : decode cX6_become 8 = .ok (.aload_n 0, 1) := by decide +kernel
theorem dX6_become_9 : decode cX6_become 9 = .ok (.aload_n 1, 1) := by decide +kernel
theorem dX6_become_10 : decode cX6_become 10 = .ok (.getfield 15, 3) := by decide +kernel
theorem dX6_become_13 : decode cX6_become 13 = .ok (.putfield 15, 3) := by decide +kernel
theorem dX6_become_16 : decode cX6_become 16 = .ok (.aload_n 0, 1) := by decide +kernel
theorem dX6_become_17 : decode cX6_become 17 = .ok (.aload_n 1, 1) := by decide +kernel
theorem dX6_become_18 : decode cX6_become 18 = .ok (.getfield 18, 3) := by decide +kernel
theorem dX6_become_21 : decode cX6_become 21 = .ok (.putfield 18, 3) := by decide +kernel
theorem dX6_become_24 : decode cX6_become 24 = .ok (.aload_n 0, 1) := by decide +kernel
theorem dX6_become_25 : decode cX6_become 25 = .ok (.aload_n 1, 1) := by decide +kernel
theorem dX6_become_26 : decode cX6_become 26 = .ok (.getfield 21, 3) := by decide +kernel
theorem dX6_become_29 : decode cX6_become 29 = .ok (.putfield 21, 3) := by decide +kernel
theorem dX6_become_32 : decode cX6_become 32 = .ok (.aload_n 0, 1) := by decide +kernel
theorem dX6_become_33 : decode cX6_become 33 = .ok (.aload_n 1, 1) := by decide +kernel
theorem dX6_become_34 : decode cX6_become 34 = .ok (.getfield 24, 3) := by decide +kernel
theorem dX6_become_37 : decode cX6_become 37 = .ok (.putfield 24, 3) := by decide +kernel
theorem dX6_become_40 : decode cX6_become 40 = .ok (.aload_n 0, 1) := by decide +kernel
theorem dX6_become_41 : decode cX6_become 41 = .ok (.aload_n 1, 1) := by decide +kernel
theorem dX6_become_42 : decode cX6_become 42 = .ok (.getfield 27, 3) := by decide +kernel
theorem dX6_become_45 : decode cX6_become 45 = .ok (.putfield 27, 3) := by decide +kernel
theorem dX6_become_48 : decode cX6_become 48 = .ok (.aload_n 0, 1) := by decide +kernel
theorem dX6_become_49 : decode cX6_become 49 = .ok (.aload_n 1, 1) := by decide +kernel
theorem dX6_become_50 : decode cX6_become 50 = .ok (.getfield 30, 3) := by decide +kernel
theorem dX6_become_53 : decode cX6_become 53 = .ok (.putfield 30, 3) := by decide +kernel
theorem dX6_become_56 : decode cX6_become 56 = .ok (.iconst 0, 1) := by decide +kernel
theorem dX6_become_57 : decode cX6_become 57 = .ok (.istore_n 2, 1) := by decide +kernel
theorem dX6_become_58 : decode cX6_become 58 = .ok (.iload_n 2, 1) := by decide +kernel
theorem dX6_become_59 : decode cX6_become 59 = .ok (.aload_n 0, 1) := by decide +kernel
theorem dX6_become_60 : decode cX6_become 60 = .ok (.getfield 30, 3) := by decide +kernel
theorem dX6_become_63 : decode cX6_become 63 = .ok (.if_icmp .ge 30, 3) := by decide +kernel
theorem dX6_become_66 : decode cX6_become 66 = .ok (.iload_n 2, 1) := by decide +kernel
theorem dX6_become_67 : decode cX6_become 67 = .ok (.bipush 8, 2) := by decide +kernel
theorem dX6_become_69 : decode cX6_become 69 = .ok (.if_icmp .ge 24, 3) := by decide +kernel
theorem dX6_become_72 : decode cX6_become 72 = .ok (.aload_n 0, 1) := by decide +kernel
theorem dX6_become_73 : decode cX6_become 73 = .ok (.getfield 35, 3) := by decide +kernel
theorem dX6_become_76 : decode cX6_become 76 = .ok (.iload_n 2, 1) := by decide +kernel
theorem dX6_become_77 : decode cX6_become 77 = .ok (.aaload, 1) := by decide +kernel
theorem dX6_become_78 : decode cX6_become 78 = .ok (.aload_n 1, 1) := by decide +kernel
theorem dX6_become_79 : decode cX6_become 79 = .ok (.getfield 35, 3) := by decide +kernel
theorem dX6_become_82 : decode cX6_become 82 = .ok (.iload_n 2, 1) := by decide +kernel
theorem dX6_become_83 : decode cX6_become 83 = .ok (.aaload, 1) := by decide +kernel
theorem dX6_become_84 : decode cX6_become 84 = .ok (.invokevirtual 40, 3) := by decide +kernel
theorem dX6_become_87 : decode cX6_become 87 = .ok (.iinc 2 1, 3) := by decide +kernel
theorem dX6_become_90 : decode cX6_become 90 = .ok (.goto (-32), 3) := by decide +kernel
theorem dX6_become_93 : decode cX6_become 93 = .ok (.return_, 1) := by decide +kernel
theorem dX6_has_0 : decode cX6_has 0 = .ok (.iload_n 1, 1) := by decide +kernel
theorem dX6_has_1 : decode cX6_has 1 = .ok (.ifCond .lt 21, 3) := by decide +kernel
theorem dX6_has_4 : decode cX6_has 4 = .ok (.iload_n 1, 1) := by decide +kernel
theorem dX6_has_5 : decode cX6_has 5 = .ok (.aload_n 0, 1) := by decide +kernel
theorem dX6_has_6 : decode cX6_has 6 = .ok (.getfield 30, 3) := by decide +kernel
theorem dX6_has_9 : decode cX6_has 9 = .ok (.if_icmp .ge 13, 3) := by decide +kernel
theorem dX6_has_12 : decode cX6_has 12 = .ok (.iload_n 1, 1) := by decide +kernel
theorem dX6_has_13 : decode cX6_has 13 = .ok (.bipush 8, 2) := by decide +kernel
theorem dX6_has_15 : decode cX6_has 15 = .ok (.if_icmp .ge 7, 3) := by decide +kernel
theorem dX6_has_18 : decode cX6_has 18 = .ok (.iconst 1, 1) := by decide +kernel
theorem dX6_has_19 : decode cX6_has 19 = .ok (.goto 4, 3) := by decide +kernel
theorem dX6_has_22 : decode cX6_has 22 = .ok (.iconst 0, 1) := by decide +kernel
theorem dX6_has_23 : decode cX6_has 23 = .ok (.ireturn, 1) := by decide +kernel
theorem dX6_isThere_0 : decode cX6_isThere 0 = .ok (.aload_n 0, 1) := by decide +kernel
theorem dX6_isThere_1 : decode cX6_isThere 1 = .ok (.getfield 21, 3) := by decide +kernel
theorem dX6_isThere_4 : decode cX6_isThere 4 = .ok (.aload_n 1, 1) := by decide +kernel
theorem dX6_isThere_5 : decode cX6_isThere 5 = .ok (.getfield 44, 3) := by decide +kernel
theorem dX6_isThere_8 : decode cX6_isThere 8 = .ok (.ishr, 1) := by decide +kernel
theorem dX6_isThere_9 : decode cX6_isThere 9 = .ok (.iconst 1, 1) := by decide +kernel
theorem dX6_isThere_10 : decode cX6_isThere 10 = .ok (.iand, 1) := by decide +kernel
theorem dX6_isThere_11 : decode cX6_isThere 11 = .ok (.iconst 1, 1) := by decide +kernel
theorem dX6_isThere_12 : decode cX6_isThere 12 = .ok (.if_icmp .ne 7, 3) := by decide +kernel
theorem dX6_isThere_15 : decode cX6_isThere 15 = .ok (.iconst 1, 1) := by decide +kernel
theorem dX6_isThere_16 : decode cX6_isThere 16 = .ok (.goto 4, 3) := by decide +kernel
theorem dX6_isThere_19 : decode cX6_isThere 19 = .ok (.iconst 0, 1) := by decide +kernel
theorem dX6_isThere_20 : decode cX6_isThere 20 = .ok (.ireturn, 1) := by decide +kernel
set_option maxRecDepth 20000 in
theorem ggX6_thereAmong_X6_isThere : GoodIn wsX6_thereAmong wsX6_isThere := goodIn_r _ [8, 9, 3, 10, 11, 12, 13, 14, 15, 16, 17, 18, 19, 20, 21, 22] (by decide +kernel) (by decide +kernel)
set_option maxRecDepth 20000 in
theorem gX6_thereAmong_X6_isThere : GoodIn wsX6_thereAmong (wsV RX6 47 RX6 yX6_isThere wsX6_isThere) := goodIn_app (goodIn_of _ (by decide +kernel)) ggX6_thereAmong_X6_isThere
theorem dX6_thereAmong_0 : decode cX6_thereAmong 0 = .ok (.iconst 0, 1) := by decide +kernel
theorem dX6_thereAmong_1 : decode cX6_thereAmong 1 = .ok (.istore_n 2, 1) := by decide +kernel
theorem dX6_thereAmong_2 : decode cX6_thereAmong 2 = .ok (.iconst 0, 1) := by decide +kernel
theorem dX6_thereAmong_3 : decode cX6_thereAmong 3 = .ok (.istore_n 3, 1) := by decide +kernel
theorem dX6_thereAmong_4 : decode cX6_thereAmong 4 = .ok (.iload_n 3, 1) := by decide +kernel
theorem dX6_thereAmong_5 : decode cX6_thereAmong 5 = .ok (.aload_n 0, 1) := by decide +kernel
theorem dX6_thereAmong_6 : decode cX6_thereAmong 6 = .ok (.getfield 30, 3) := by decide +kernel
theorem dX6_thereAmong_9 : decode cX6_thereAmong 9 = .ok (.if_icmp .ge 51, 3) := by decide +kernel
theorem dX6_thereAmong_12 : decode cX6_thereAmong 12 = .ok (.iload_n 3, 1) := by decide +kernel
theorem dX6_thereAmong_13 : decode cX6_thereAmong 13 = .ok (.bipush 8, 2) := by decide +kernel
theorem dX6_thereAmong_15 : decode cX6_thereAmong 15 = .ok (.if_icmp .ge 45, 3) := by decide +kernel
theorem dX6_thereAmong_18 : decode cX6_thereAmong 18 = .ok (.aload_n 0, 1) := by decide +kernel
theorem dX6_thereAmong_19 : decode cX6_thereAmong 19 = .ok (.aload_n 0, 1) := by decide +kernel
theorem dX6_thereAmong_20 : decode cX6_thereAmong 20 = .ok (.getfield 35, 3) := by decide +kernel
theorem dX6_thereAmong_23 : decode cX6_thereAmong 23 = .ok (.iload_n 3, 1) := by decide +kernel
theorem dX6_thereAmong_24 : decode cX6_thereAmong 24 = .ok (.aaload, 1) := by decide +kernel
theorem dX6_thereAmong_25 : decode cX6_thereAmong 25 = .ok (.invokevirtual 47, 3) := by decide +kernel
theorem dX6_thereAmong_28 : decode cX6_thereAmong 28 = .ok (.ifCond .eq 26, 3) := by decide +kernel
theorem dX6_thereAmong_31 : decode cX6_thereAmong 31 = .ok (.iload_n 1, 1) := by decide +kernel
theorem dX6_thereAmong_32 : decode cX6_thereAmong 32 = .ok (.aload_n 0, 1) := by decide +kernel
theorem dX6_thereAmong_33 : decode cX6_thereAmong 33 = .ok (.getfield 35, 3) := by decide +kernel
theorem dX6_thereAmong_36 : decode cX6_thereAmong 36 = .ok (.iload_n 3, 1) := by decide +kernel
theorem dX6_thereAmong_37 : decode cX6_thereAmong 37 = .ok (.aaload, 1) := by decide +kernel
theorem dX6_thereAmong_38 : decode cX6_thereAmong 38 = .ok (.getfield 44, 3) := by decide +kernel
theorem dX6_thereAmong_41 : decode cX6_thereAmong 41 = .ok (.ishr, 1) := by decide +kernel
theorem dX6_thereAmong_42 : decode cX6_thereAmong 42 = .ok (.iconst 1, 1) := by decide +kernel
theorem dX6_thereAmong_43 : decode cX6_thereAmong 43 = .ok (.iand, 1) := by decide +kernel
theorem dX6_thereAmong_44 : decode cX6_thereAmong 44 = .ok (.iconst 1, 1) := by decide +kernel
theorem dX6_thereAmong_45 : decode cX6_thereAmong 45 = .ok (.if_icmp .ne 9, 3) := by decide +kernel
theorem dX6_thereAmong_48 : decode cX6_thereAmong 48 = .ok (.iload_n 2, 1) := by decide +kernel
theorem dX6_thereAmong_49 : decode cX6_thereAmong 49 = .ok (.iconst 1, 1) := by decide +kernel
theorem dX6_thereAmong_50 : decode cX6_thereAmong 50 = .ok (.iload_n 3, 1) := by decide +kernel
theorem dX6_thereAmong_51 : decode cX6_thereAmong 51 = .ok (.ishl, 1) := by decide +kernel
theorem dX6_thereAmong_52 : decode cX6_thereAmong 52 = .ok (.ior, 1) := by decide +kernel
theorem dX6_thereAmong_53 : decode cX6_thereAmong 53 = .ok (.istore_n 2, 1) := by decide +kernel
theorem dX6_thereAmong_54 : decode cX6_thereAmong 54 = .ok (.iinc 3 1, 3) := by decide +kernel
theorem dX6_thereAmong_57 : decode cX6_thereAmong 57 = .ok (.goto (-53), 3) := by decide +kernel
theorem dX6_thereAmong_60 : decode cX6_thereAmong 60 = .ok (.iload_n 2, 1) := by decide +kernel
theorem dX6_thereAmong_61 : decode cX6_thereAmong 61 = .ok (.ireturn, 1) := by decide +kernel
theorem dX6_boughtByAll_0 : decode cX6_boughtByAll 0 = .ok (.iconst 0, 1) := by decide +kernel
theorem dX6_boughtByAll_1 : decode cX6_boughtByAll 1 = .ok (.istore_n 1, 1) := by decide +kernel
theorem dX6_boughtByAll_2 : decode cX6_boughtByAll 2 = .ok (.iconst 0, 1) := by decide +kernel
theorem dX6_boughtByAll_3 : decode cX6_boughtByAll 3 = .ok (.istore_n 2, 1) := by decide +kernel
theorem dX6_boughtByAll_4 : decode cX6_boughtByAll 4 = .ok (.iload_n 2, 1) := by decide +kernel
theorem dX6_boughtByAll_5 : decode cX6_boughtByAll 5 = .ok (.aload_n 0, 1) := by decide +kernel
theorem dX6_boughtByAll_6 : decode cX6_boughtByAll 6 = .ok (.getfield 30, 3) := by decide +kernel
theorem dX6_boughtByAll_9 : decode cX6_boughtByAll 9 = .ok (.if_icmp .ge 27, 3) := by decide +kernel
theorem dX6_boughtByAll_12 : decode cX6_boughtByAll 12 = .ok (.iload_n 2, 1) := by decide +kernel
theorem dX6_boughtByAll_13 : decode cX6_boughtByAll 13 = .ok (.bipush 8, 2) := by decide +kernel
theorem dX6_boughtByAll_15 : decode cX6_boughtByAll 15 = .ok (.if_icmp .ge 21, 3) := by decide +kernel
theorem dX6_boughtByAll_18 : decode cX6_boughtByAll 18 = .ok (.iload_n 1, 1) := by decide +kernel
theorem dX6_boughtByAll_19 : decode cX6_boughtByAll 19 = .ok (.aload_n 0, 1) := by decide +kernel
theorem dX6_boughtByAll_20 : decode cX6_boughtByAll 20 = .ok (.getfield 35, 3) := by decide +kernel
theorem dX6_boughtByAll_23 : decode cX6_boughtByAll 23 = .ok (.iload_n 2, 1) := by decide +kernel
theorem dX6_boughtByAll_24 : decode cX6_boughtByAll 24 = .ok (.aaload, 1) := by decide +kernel
theorem dX6_boughtByAll_25 : decode cX6_boughtByAll 25 = .ok (.getfield 51, 3) := by decide +kernel
theorem dX6_boughtByAll_28 : decode cX6_boughtByAll 28 = .ok (.iadd, 1) := by decide +kernel
theorem dX6_boughtByAll_29 : decode cX6_boughtByAll 29 = .ok (.istore_n 1, 1) := by decide +kernel
theorem dX6_boughtByAll_30 : decode cX6_boughtByAll 30 = .ok (.iinc 2 1, 3) := by decide +kernel
theorem dX6_boughtByAll_33 : decode cX6_boughtByAll 33 = .ok (.goto (-29), 3) := by decide +kernel
theorem dX6_boughtByAll_36 : decode cX6_boughtByAll 36 = .ok (.iload_n 1, 1) := by decide +kernel
theorem dX6_boughtByAll_37 : decode cX6_boughtByAll 37 = .ok (.ireturn, 1) := by decide +kernel
theorem dX6_reading_0 : decode cX6_reading 0 = .ok (.iload_n 1, 1) := by decide +kernel
theorem dX6_reading_1 : decode cX6_reading 1 = .ok (.tableswitch 51 0 3 #[31, 36, 41, 46], 31) := by decide +kernel
theorem dX6_reading_32 : decode cX6_reading 32 = .ok (.aload_n 0, 1) := by decide +kernel
theorem dX6_reading_33 : decode cX6_reading 33 = .ok (.getfield 9, 3) := by decide +kernel
theorem dX6_reading_36 : decode cX6_reading 36 = .ok (.ireturn, 1) := by decide +kernel
theorem dX6_reading_37 : decode cX6_reading 37 = .ok (.aload_n 0, 1) := by decide +kernel
theorem dX6_reading_38 : decode cX6_reading 38 = .ok (.getfield 15, 3) := by decide +kernel
theorem dX6_reading_41 : decode cX6_reading 41 = .ok (.ireturn, 1) := by decide +kernel
theorem dX6_reading_42 : decode cX6_reading 42 = .ok (.aload_n 0, 1) := by decide +kernel
theorem dX6_reading_43 : decode cX6_reading 43 = .ok (.getfield 18, 3) := by decide +kernel
theorem dX6_reading_46 : decode cX6_reading 46 = .ok (.ireturn, 1) := by decide +kernel
theorem dX6_reading_47 : decode cX6_reading 47 = .ok (.aload_n 0, 1) := by decide +kernel
theorem dX6_reading_48 : decode cX6_reading 48 = .ok (.getfield 21, 3) := by decide +kernel
theorem dX6_reading_51 : decode cX6_reading 51 = .ok (.ireturn, 1) := by decide +kernel
theorem dX6_reading_52 : decode cX6_reading 52 = .ok (.aload_n 0, 1) := by decide +kernel
theorem dX6_reading_53 : decode cX6_reading 53 = .ok (.getfield 24, 3) := by decide +kernel
theorem dX6_reading_56 : decode cX6_reading 56 = .ok (.ireturn, 1) := by decide +kernel
theorem dX6_lay_0 : decode cX6_lay 0 = .ok (.iload_n 1, 1) := by decide +kernel
theorem dX6_lay_1 : decode cX6_lay 1 = .ok (.tableswitch 75 0 4 #[35, 43, 51, 59, 67], 35) := by decide +kernel
theorem dX6_lay_36 : decode cX6_lay 36 = .ok (.aload_n 0, 1) := by decide +kernel
theorem dX6_lay_37 : decode cX6_lay 37 = .ok (.iload_n 2, 1) := by decide +kernel
theorem dX6_lay_38 : decode cX6_lay 38 = .ok (.putfield 9, 3) := by decide +kernel
theorem dX6_lay_41 : decode cX6_lay 41 = .ok (.goto 35, 3) := by decide +kernel
theorem dX6_lay_44 : decode cX6_lay 44 = .ok (.aload_n 0, 1) := by decide +kernel
theorem dX6_lay_45 : decode cX6_lay 45 = .ok (.iload_n 2, 1) := by decide +kernel
theorem dX6_lay_46 : decode cX6_lay 46 = .ok (.putfield 15, 3) := by decide +kernel
theorem dX6_lay_49 : decode cX6_lay 49 = .ok (.goto 27, 3) := by decide +kernel
theorem dX6_lay_52 : decode cX6_lay 52 = .ok (.aload_n 0, 1) := by decide +kernel
theorem dX6_lay_53 : decode cX6_lay 53 = .ok (.iload_n 2, 1) := by decide +kernel
theorem dX6_lay_54 : decode cX6_lay 54 = .ok (.putfield 18, 3) := by decide +kernel
theorem dX6_lay_57 : decode cX6_lay 57 = .ok (.goto 19, 3) := by decide +kernel
theorem dX6_lay_60 : decode cX6_lay 60 = .ok (.aload_n 0, 1) := by decide +kernel
theorem dX6_lay_61 : decode cX6_lay 61 = .ok (.iload_n 2, 1) := by decide +kernel
theorem dX6_lay_62 : decode cX6_lay 62 = .ok (.putfield 21, 3) := by decide +kernel
theorem dX6_lay_65 : decode cX6_lay 65 = .ok (.goto 11, 3) := by decide +kernel
theorem dX6_lay_68 : decode cX6_lay 68 = .ok (.aload_n 0, 1) := by decide +kernel
theorem dX6_lay_69 : decode cX6_lay 69 = .ok (.iload_n 2, 1) := by decide +kernel
theorem dX6_lay_70 : decode cX6_lay 70 = .ok (.putfield 24, 3) := by decide +kernel
theorem dX6_lay_73 : decode cX6_lay 73 = .ok (.goto 3, 3) := by decide +kernel
theorem dX6_lay_76 : decode cX6_lay 76 = .ok (.return_, 1) := by decide +kernel
theorem dX7_init_0 : decode cX7_init 0 = .ok (.aload_n 0, 1) := by decide +kernel
theorem dX7_init_1 : decode cX7_init 1 = .ok (.invokespecial 3, 3) := by decide +kernel
theorem dX7_init_4 : decode cX7_init 4 = .ok (.aload_n 0, 1) := by decide +kernel
theorem dX7_init_5 : decode cX7_init 5 = .ok (.sipush 160, 3) := by decide +kernel
theorem dX7_init_8 : decode cX7_init 8 = .ok (.newarray .int, 2) := by decide +kernel
theorem dX7_init_10 : decode cX7_init 10 = .ok (.putfield 9, 3) := by decide +kernel
theorem dX7_init_13 : decode cX7_init 13 = .ok (.aload_n 0, 1) := by decide +kernel
theorem dX7_init_14 : decode cX7_init 14 = .ok (.iconst 0, 1) := by decide +kernel
theorem dX7_init_15 : decode cX7_init 15 = .ok (.putfield 15, 3) := by decide +kernel
theorem dX7_init_18 : decode cX7_init 18 = .ok (.return_, 1) := by decide +kernel
theorem dX7_take_0 : decode cX7_take 0 = .ok (.aload_n 0, 1) := by decide +kernel
theorem dX7_take_1 : decode cX7_take 1 = .ok (.getfield 15, 3) := by decide +kernel
theorem dX7_take_4 : decode cX7_take 4 = .ok (.ifCond .lt 13, 3) := by decide +kernel
theorem dX7_take_7 : decode cX7_take 7 = .ok (.aload_n 0, 1) := by decide +kernel
theorem dX7_take_8 : decode cX7_take 8 = .ok (.getfield 15, 3) := by decide +kernel
theorem dX7_take_11 : decode cX7_take 11 = .ok (.sipush 160, 3) := by decide +kernel
theorem dX7_take_14 : decode cX7_take 14 = .ok (.if_icmp .lt 5, 3) := by decide +kernel
theorem dX7_take_17 : decode cX7_take 17 = .ok (.iconst 0, 1) := by decide +kernel
theorem dX7_take_18 : decode cX7_take 18 = .ok (.ireturn, 1) := by decide +kernel
theorem dX7_take_19 : decode cX7_take 19 = .ok (.aload_n 0, 1) := by decide +kernel
theorem dX7_take_20 : decode cX7_take 20 = .ok (.getfield 9, 3) := by decide +kernel
theorem dX7_take_23 : decode cX7_take 23 = .ok (.aload_n 0, 1) := by decide +kernel
theorem dX7_take_24 : decode cX7_take 24 = .ok (.getfield 15, 3) := by decide +kernel
theorem dX7_take_27 : decode cX7_take 27 = .ok (.iload_n 1, 1) := by decide +kernel
theorem dX7_take_28 : decode cX7_take 28 = .ok (.iastore, 1) := by decide +kernel
theorem dX7_take_29 : decode cX7_take 29 = .ok (.aload_n 0, 1) := by decide +kernel
theorem dX7_take_30 : decode cX7_take 30 = .ok (.dup, 1) := by decide +kernel
theorem dX7_take_31 : decode cX7_take 31 = .ok (.getfield 15, 3) := by decide +kernel
theorem dX7_take_34 : decode cX7_take 34 = .ok (.iconst 1, 1) := by decide +kernel
theorem dX7_take_35 : decode cX7_take 35 = .ok (.iadd, 1) := by decide +kernel
theorem dX7_take_36 : decode cX7_take 36 = .ok (.putfield 15, 3) := by decide +kernel
theorem dX7_take_39 : decode cX7_take 39 = .ok (.iconst 1, 1) := by decide +kernel
theorem dX7_take_40 : decode cX7_take 40 = .ok (.ireturn, 1) := by decide +kernel
theorem dX7_letterAt_0 : decode cX7_letterAt 0 = .ok (.iload_n 1, 1) := by decide +kernel
theorem dX7_letterAt_1 : decode cX7_letterAt 1 = .ok (.ifCond .lt 27, 3) := by decide +kernel
theorem dX7_letterAt_4 : decode cX7_letterAt 4 = .ok (.iload_n 1, 1) := by decide +kernel
theorem dX7_letterAt_5 : decode cX7_letterAt 5 = .ok (.aload_n 0, 1) := by decide +kernel
theorem dX7_letterAt_6 : decode cX7_letterAt 6 = .ok (.getfield 15, 3) := by decide +kernel
theorem dX7_letterAt_9 : decode cX7_letterAt 9 = .ok (.if_icmp .ge 19, 3) := by decide +kernel
theorem dX7_letterAt_12 : decode cX7_letterAt 12 = .ok (.iload_n 1, 1) := by decide +kernel
theorem dX7_letterAt_13 : decode cX7_letterAt 13 = .ok (.sipush 160, 3) := by decide +kernel
theorem dX7_letterAt_16 : decode cX7_letterAt 16 = .ok (.if_icmp .ge 12, 3) := by decide +kernel
theorem dX7_letterAt_19 : decode cX7_letterAt 19 = .ok (.aload_n 0, 1) := by decide +kernel
theorem dX7_letterAt_20 : decode cX7_letterAt 20 = .ok (.getfield 9, 3) := by decide +kernel
theorem dX7_letterAt_23 : decode cX7_letterAt 23 = .ok (.iload_n 1, 1) := by decide +kernel
theorem dX7_letterAt_24 : decode cX7_letterAt 24 = .ok (.iaload, 1) := by decide +kernel
theorem dX7_letterAt_25 : decode cX7_letterAt 25 = .ok (.goto 4, 3) := by decide +kernel
theorem dX7_letterAt_28 : decode cX7_letterAt 28 = .ok (.iconst (-1), 1) := by decide +kernel
theorem dX7_letterAt_29 : decode cX7_letterAt 29 = .ok (.ireturn, 1) := by decide +kernel
set_option maxRecDepth 20000 in
theorem ggX7_isBlank_X7_letterAt : GoodIn wsX7_isBlank wsX7_letterAt := goodIn_r _ [5, 6, 7, 8, 9] (by decide +kernel) (by decide +kernel)
set_option maxRecDepth 20000 in
theorem gX7_isBlank_X7_letterAt : GoodIn wsX7_isBlank (wsV RX7 19 RX7 yX7_letterAt wsX7_letterAt) := goodIn_app (goodIn_of _ (by decide +kernel)) ggX7_isBlank_X7_letterAt
theorem dX7_isBlank_0 : decode cX7_isBlank 0 = .ok (.aload_n 0, 1) := by decide +kernel
theorem dX7_isBlank_1 : decode cX7_isBlank 1 = .ok (.iload_n 1, 1) := by decide +kernel
theorem dX7_isBlank_2 : decode cX7_isBlank 2 = .ok (.invokevirtual 19, 3) := by decide +kernel
theorem dX7_isBlank_5 : decode cX7_isBlank 5 = .ok (.istore_n 2, 1) := by decide +kernel
theorem dX7_isBlank_6 : decode cX7_isBlank 6 = .ok (.iload_n 2, 1) := by decide +kernel
theorem dX7_isBlank_7 : decode cX7_isBlank 7 = .ok (.bipush 32, 2) := by decide +kernel
theorem dX7_isBlank_9 : decode cX7_isBlank 9 = .ok (.if_icmp .eq 9, 3) := by decide +kernel
theorem dX7_isBlank_12 : decode cX7_isBlank 12 = .ok (.iload_n 2, 1) := by decide +kernel
theorem dX7_isBlank_13 : decode cX7_isBlank 13 = .ok (.bipush 10, 2) := by decide +kernel
theorem dX7_isBlank_15 : decode cX7_isBlank 15 = .ok (.if_icmp .ne 7, 3) := by decide +kernel
theorem dX7_isBlank_18 : decode cX7_isBlank 18 = .ok (.iconst 1, 1) := by decide +kernel
theorem dX7_isBlank_19 : decode cX7_isBlank 19 = .ok (.goto 4, 3) := by decide +kernel
theorem dX7_isBlank_22 : decode cX7_isBlank 22 = .ok (.iconst 0, 1) := by decide +kernel
theorem dX7_isBlank_23 : decode cX7_isBlank 23 = .ok (.ireturn, 1) := by decide +kernel
set_option maxRecDepth 20000 in
theorem ggX7_isSmall_X7_letterAt : GoodIn wsX7_isSmall wsX7_letterAt := goodIn_r _ [5, 6, 7, 8, 9] (by decide +kernel) (by decide +kernel)
set_option maxRecDepth 20000 in
theorem gX7_isSmall_X7_letterAt : GoodIn wsX7_isSmall (wsV RX7 19 RX7 yX7_letterAt wsX7_letterAt) := goodIn_app (goodIn_of _ (by decide +kernel)) ggX7_isSmall_X7_letterAt
theorem dX7_isSmall_0 : decode cX7_isSmall 0 = .ok (.aload_n 0, 1) := by decide +kernel
theorem dX7_isSmall_1 : decode cX7_isSmall 1 = .ok (.iload_n 1, 1) := by decide +kernel
theorem dX7_isSmall_2 : decode cX7_isSmall 2 = .ok (.invokevirtual 19, 3) := by decide +kernel
theorem dX7_isSmall_5 : decode cX7_isSmall 5 = .ok (.istore_n 2, 1) := by decide +kernel
theorem dX7_isSmall_6 : decode cX7_isSmall 6 = .ok (.iload_n 2, 1) := by decide +kernel
theorem dX7_isSmall_7 : decode cX7_isSmall 7 = .ok (.bipush 97, 2) := by decide +kernel
theorem dX7_isSmall_9 : decode cX7_isSmall 9 = .ok (.if_icmp .lt 13, 3) := by decide +kernel
theorem dX7_isSmall_12 : decode cX7_isSmall 12 = .ok (.iload_n 2, 1) := by decide +kernel
theorem dX7_isSmall_13 : decode cX7_isSmall 13 = .ok (.bipush 122, 2) := by decide +kernel
theorem dX7_isSmall_15 : decode cX7_isSmall 15 = .ok (.if_icmp .gt 7, 3) := by decide +kernel
theorem dX7_isSmall_18 : decode cX7_isSmall 18 = .ok (.iconst 1, 1) := by decide +kernel
theorem dX7_isSmall_19 : decode cX7_isSmall 19 = .ok (.goto 4, 3) := by decide +kernel
theorem dX7_isSmall_22 : decode cX7_isSmall 22 = .ok (.iconst 0, 1) := by decide +kernel
theorem dX7_isSmall_23 : decode cX7_isSmall 23 = .ok (.ireturn, 1) := by decide +kernel
set_option maxRecDepth 20000 in
theorem ggX7_isDigit_X7_letterAt : GoodIn wsX7_isDigit wsX7_letterAt := goodIn_r _ [5, 6, 7, 8, 9] (by decide +kernel) (by decide +kernel)
set_option maxRecDepth 20000 in
theorem gX7_isDigit_X7_letterAt : GoodIn wsX7_isDigit (wsV RX7 19 RX7 yX7_letterAt wsX7_letterAt) := goodIn_app (goodIn_of _ (by decide +kernel)) ggX7_isDigit_X7_letterAt
theorem dX7_isDigit_0 : decode cX7_isDigit 0 = .ok (.aload_n 0, 1) := by decide +kernel
theorem dX7_isDigit_1 : decode cX7_isDigit 1 = .ok (.iload_n 1, 1) := by decide +kernel
theorem dX7_isDigit_2 : decode cX7_isDigit 2 = .ok (.invokevirtual 19, 3) := by decide +kernel
theorem dX7_isDigit_5 : decode cX7_isDigit 5 = .ok (.istore_n 2, 1) := by decide +kernel
theorem dX7_isDigit_6 : decode cX7_isDigit 6 = .ok (.iload_n 2, 1) := by decide +kernel
theorem dX7_isDigit_7 : decode cX7_isDigit 7 = .ok (.bipush 48, 2) := by decide +kernel
theorem dX7_isDigit_9 : decode cX7_isDigit 9 = .ok (.if_icmp .lt 13, 3) := by decide +kernel
theorem dX7_isDigit_12 : decode cX7_isDigit 12 = .ok (.iload_n 2, 1) := by decide +kernel
theorem dX7_isDigit_13 : decode cX7_isDigit 13 = .ok (.bipush 57, 2) := by decide +kernel
theorem dX7_isDigit_15 : decode cX7_isDigit 15 = .ok (.if_icmp .gt 7, 3) := by decide +kernel
theorem dX7_isDigit_18 : decode cX7_isDigit 18 = .ok (.iconst 1, 1) := by decide +kernel
theorem dX7_isDigit_19 : decode cX7_isDigit 19 = .ok (.goto 4, 3) := by decide +kernel
theorem dX7_isDigit_22 : decode cX7_isDigit 22 = .ok (.iconst 0, 1) := by decide +kernel
theorem dX7_isDigit_23 : decode cX7_isDigit 23 = .ok (.ireturn, 1) := by decide +kernel
theorem dX8_init_0 : decode cX8_init 0 = .ok (.aload_n 0, 1) := by decide +kernel
theorem dX8_init_1 : decode cX8_init 1 = .ok (.invokespecial 3, 3) := by decide +kernel
theorem dX8_init_4 : decode cX8_init 4 = .ok (.aload_n 0, 1) := by decide +kernel
theorem dX8_init_5 : decode cX8_init 5 = .ok (.sipush 160, 3) := by decide +kernel
theorem dX8_init_8 : decode cX8_init 8 = .ok (.newarray .int, 2) := by decide +kernel
theorem dX8_init_10 : decode cX8_init 10 = .ok (.putfield 9, 3) := by decide +kernel
theorem dX8_init_13 : decode cX8_init 13 = .ok (.aload_n 0, 1) := by decide +kernel
theorem dX8_init_14 : decode cX8_init 14 = .ok (.iconst 3, 1) := by decide +kernel
theorem dX8_init_15 : decode cX8_init 15 = .ok (.newarray .int, 2) := by decide +kernel
theorem dX8_init_17 : decode cX8_init 17 = .ok (.putfield 15, 3) := by decide +kernel
theorem dX8_init_20 : decode cX8_init 20 = .ok (.aload_n 0, 1) := by decide +kernel
theorem dX8_init_21 : decode cX8_init 21 = .ok (.bipush 40, 2) := by decide +kernel
theorem dX8_init_23 : decode cX8_init 23 = .ok (.newarray .int, 2) := by decide +kernel
theorem dX8_init_25 : decode cX8_init 25 = .ok (.putfield 18, 3) := by decide +kernel
theorem dX8_init_28 : decode cX8_init 28 = .ok (.aload_n 0, 1) := by decide +kernel
theorem dX8_init_29 : decode cX8_init 29 = .ok (.iconst 0, 1) := by decide +kernel
theorem dX8_init_30 : decode cX8_init 30 = .ok (.putfield 21, 3) := by decide +kernel
theorem dX8_init_33 : decode cX8_init 33 = .ok (.return_, 1) := by decide +kernel
theorem dX8_add_0 : decode cX8_add 0 = .ok (.aload_n 0, 1) := by decide +kernel
theorem dX8_add_1 : decode cX8_add 1 = .ok (.getfield 21, 3) := by decide +kernel
theorem dX8_add_4 : decode cX8_add 4 = .ok (.sipush 160, 3) := by decide +kernel
theorem dX8_add_7 : decode cX8_add 7 = .ok (.if_icmp .ge 23, 3) := by decide +kernel
theorem dX8_add_10 : decode cX8_add 10 = .ok (.aload_n 0, 1) := by decide +kernel
theorem dX8_add_11 : decode cX8_add 11 = .ok (.getfield 9, 3) := by decide +kernel
theorem dX8_add_14 : decode cX8_add 14 = .ok (.aload_n 0, 1) := by decide +kernel
theorem dX8_add_15 : decode cX8_add 15 = .ok (.getfield 21, 3) := by decide +kernel
theorem dX8_add_18 : decode cX8_add 18 = .ok (.iload_n 1, 1) := by decide +kernel
theorem dX8_add_19 : decode cX8_add 19 = .ok (.iastore, 1) := by decide +kernel
theorem dX8_add_20 : decode cX8_add 20 = .ok (.aload_n 0, 1) := by decide +kernel
theorem dX8_add_21 : decode cX8_add 21 = .ok (.dup, 1) := by decide +kernel
theorem dX8_add_22 : decode cX8_add 22 = .ok (.getfield 21, 3) := by decide +kernel
theorem dX8_add_25 : decode cX8_add 25 = .ok (.iconst 1, 1) := by decide +kernel
theorem dX8_add_26 : decode cX8_add 26 = .ok (.iadd, 1) := by decide +kernel
theorem dX8_add_27 : decode cX8_add 27 = .ok (.putfield 21, 3) := by decide +kernel
theorem dX8_add_30 : decode cX8_add 30 = .ok (.return_, 1) := by decide +kernel
theorem dX8_endPart_0 : decode cX8_endPart 0 = .ok (.iload_n 1, 1) := by decide +kernel
theorem dX8_endPart_1 : decode cX8_endPart 1 = .ok (.ifCond .lt 18, 3) := by decide +kernel
theorem dX8_endPart_4 : decode cX8_endPart 4 = .ok (.iload_n 1, 1) := by decide +kernel
theorem dX8_endPart_5 : decode cX8_endPart 5 = .ok (.iconst 3, 1) := by decide +kernel
theorem dX8_endPart_6 : decode cX8_endPart 6 = .ok (.if_icmp .ge 13, 3) := by decide +kernel
theorem dX8_endPart_9 : decode cX8_endPart 9 = .ok (.aload_n 0, 1) := by decide +kernel
theorem dX8_endPart_10 : decode cX8_endPart 10 = .ok (.getfield 15, 3) := by decide +kernel
theorem dX8_endPart_13 : decode cX8_endPart 13 = .ok (.iload_n 1, 1) := by decide +kernel
theorem dX8_endPart_14 : decode cX8_endPart 14 = .ok (.aload_n 0, 1) := by decide +kernel
theorem dX8_endPart_15 : decode cX8_endPart 15 = .ok (.getfield 21, 3) := by decide +kernel
theorem dX8_endPart_18 : decode cX8_endPart 18 = .ok (.iastore, 1) := by decide +kernel
theorem dX8_endPart_19 : decode cX8_endPart 19 = .ok (.return_, 1) := by decide +kernel
set_option maxRecDepth 20000 in
theorem ggX8_tell_X8_named : GoodIn wsX8_tell wsX8_named := goodIn_r _ [7, 8, 9, 10, 11, 12, 13, 34, 35, 36, 37, 38, 39, 40, 41, 42, 43, 44, 45, 46] (by decide +kernel) (by decide +kernel)
set_option maxRecDepth 20000 in
theorem gX8_tell_X8_named : GoodIn wsX8_tell (va_wsS RX8 25 yX8_named wsX8_named) := goodIn_app (goodIn_of _ (by decide +kernel)) ggX8_tell_X8_named
set_option maxRecDepth 20000 in
theorem ggX8_tell_X8_turned : GoodIn wsX8_tell wsX8_turned := goodIn_r _ [16] (by decide +kernel) (by decide +kernel)
set_option maxRecDepth 20000 in
theorem gX8_tell_X8_turned : GoodIn wsX8_tell (va_wsS RX8 29 yX8_turned wsX8_turned) := goodIn_app (goodIn_of _ (by decide +kernel)) ggX8_tell_X8_turned
set_option maxRecDepth 20000 in
theorem ggX8_tell_X8_joined : GoodIn wsX8_tell wsX8_joined := goodIn_r _ [19] (by decide +kernel) (by decide +kernel)
set_option maxRecDepth 20000 in
theorem gX8_tell_X8_joined : GoodIn wsX8_tell (va_wsS RX8 33 yX8_joined wsX8_joined) := goodIn_app (goodIn_of _ (by decide +kernel)) ggX8_tell_X8_joined
set_option maxRecDepth 20000 in
theorem ggX8_tell_X11_bounded : GoodIn wsX8_tell wsX11_bounded := goodIn_r _ [22, 23, 24, 25, 26, 27, 28, 29] (by decide +kernel) (by decide +kernel)
set_option maxRecDepth 20000 in
theorem gX8_tell_X11_bounded_n37 : GoodIn wsX8_tell (wsX11_bounded) := ggX8_tell_X11_bounded
theorem dX8_tell_0 : decode cX8_tell 0 = .ok (.iload_n 1, 1) := by decide +kernel
theorem dX8_tell_1 : decode cX8_tell 1 = .ok (.ifCond .lt 8, 3) := by decide +kernel
theorem dX8_tell_4 : decode cX8_tell 4 = .ok (.iload_n 1, 1) := by decide +kernel
theorem dX8_tell_5 : decode cX8_tell 5 = .ok (.iconst 3, 1) := by decide +kernel
theorem dX8_tell_6 : decode cX8_tell 6 = .ok (.if_icmp .lt 5, 3) := by decide +kernel
theorem dX8_tell_9 : decode cX8_tell 9 = .ok (.iconst 0, 1) := by decide +kernel
theorem dX8_tell_10 : decode cX8_tell 10 = .ok (.ireturn, 1) := by decide +kernel
theorem dX8_tell_11 : decode cX8_tell 11 = .ok (.iconst 0, 1) := by decide +kernel
theorem dX8_tell_12 : decode cX8_tell 12 = .ok (.istore 4, 2) := by decide +kernel
theorem dX8_tell_14 : decode cX8_tell 14 = .ok (.iload_n 1, 1) := by decide +kernel
theorem dX8_tell_15 : decode cX8_tell 15 = .ok (.ifCond .ne 7, 3) := by decide +kernel
theorem dX8_tell_18 : decode cX8_tell 18 = .ok (.iconst 0, 1) := by decide +kernel
theorem dX8_tell_19 : decode cX8_tell 19 = .ok (.goto 11, 3) := by decide +kernel
theorem dX8_tell_22 : decode cX8_tell 22 = .ok (.aload_n 0, 1) := by decide +kernel
theorem dX8_tell_23 : decode cX8_tell 23 = .ok (.getfield 15, 3) := by decide +kernel
theorem dX8_tell_26 : decode cX8_tell 26 = .ok (.iload_n 1, 1) := by decide +kernel
theorem dX8_tell_27 : decode cX8_tell 27 = .ok (.iconst 1, 1) := by decide +kernel
theorem dX8_tell_28 : decode cX8_tell 28 = .ok (.isub, 1) := by decide +kernel
theorem dX8_tell_29 : decode cX8_tell 29 = .ok (.iaload, 1) := by decide +kernel
theorem dX8_tell_30 : decode cX8_tell 30 = .ok (.istore 5, 2) := by decide +kernel
theorem dX8_tell_32 : decode cX8_tell 32 = .ok (.iload 5, 2) := by decide +kernel
theorem dX8_tell_34 : decode cX8_tell 34 = .ok (.aload_n 0, 1) := by decide +kernel
theorem dX8_tell_35 : decode cX8_tell 35 = .ok (.getfield 15, 3) := by decide +kernel
theorem dX8_tell_38 : decode cX8_tell 38 = .ok (.iload_n 1, 1) := by decide +kernel
theorem dX8_tell_39 : decode cX8_tell 39 = .ok (.iaload, 1) := by decide +kernel
theorem dX8_tell_40 : decode cX8_tell 40 = .ok (.if_icmp .ge 165, 3) := by decide +kernel
theorem dX8_tell_43 : decode cX8_tell 43 = .ok (.iload 5, 2) := by decide +kernel
theorem dX8_tell_45 : decode cX8_tell 45 = .ok (.sipush 160, 3) := by decide +kernel
theorem dX8_tell_48 : decode cX8_tell 48 = .ok (.if_icmp .ge 157, 3) := by decide +kernel
theorem dX8_tell_51 : decode cX8_tell 51 = .ok (.aload_n 0, 1) := by decide +kernel
theorem dX8_tell_52 : decode cX8_tell 52 = .ok (.getfield 9, 3) := by decide +kernel
theorem dX8_tell_55 : decode cX8_tell 55 = .ok (.iload 5, 2) := by decide +kernel
theorem dX8_tell_57 : decode cX8_tell 57 = .ok (.iaload, 1) := by decide +kernel
theorem dX8_tell_58 : decode cX8_tell 58 = .ok (.istore 6, 2) := by decide +kernel
theorem dX8_tell_60 : decode cX8_tell 60 = .ok (.iload 6, 2) := by decide +kernel
theorem dX8_tell_62 : decode cX8_tell 62 = .ok (.iconst 5, 1) := by decide +kernel
theorem dX8_tell_63 : decode cX8_tell 63 = .ok (.if_icmp .le 10, 3) := by decide +kernel
theorem dX8_tell_66 : decode cX8_tell 66 = .ok (.iload 6, 2) := by decide +kernel
theorem dX8_tell_68 : decode cX8_tell 68 = .ok (.bipush 100, 2) := by decide +kernel
theorem dX8_tell_70 : decode cX8_tell 70 = .ok (.if_icmp .lt 45, 3) := by decide +kernel
theorem dX8_tell_73 : decode cX8_tell 73 = .ok (.iload 4, 2) := by decide +kernel
theorem dX8_tell_75 : decode cX8_tell 75 = .ok (.bipush 40, 2) := by decide +kernel
theorem dX8_tell_77 : decode cX8_tell 77 = .ok (.if_icmp .ge 122, 3) := by decide +kernel
theorem dX8_tell_80 : decode cX8_tell 80 = .ok (.aload_n 0, 1) := by decide +kernel
theorem dX8_tell_81 : decode cX8_tell 81 = .ok (.getfield 18, 3) := by decide +kernel
theorem dX8_tell_84 : decode cX8_tell 84 = .ok (.iload 4, 2) := by decide +kernel
theorem dX8_tell_86 : decode cX8_tell 86 = .ok (.iload 6, 2) := by decide +kernel
theorem dX8_tell_88 : decode cX8_tell 88 = .ok (.bipush 100, 2) := by decide +kernel
theorem dX8_tell_90 : decode cX8_tell 90 = .ok (.if_icmp .lt 11, 3) := by decide +kernel
theorem dX8_tell_93 : decode cX8_tell 93 = .ok (.iload 6, 2) := by decide +kernel
theorem dX8_tell_95 : decode cX8_tell 95 = .ok (.bipush 100, 2) := by decide +kernel
theorem dX8_tell_97 : decode cX8_tell 97 = .ok (.isub, 1) := by decide +kernel
theorem dX8_tell_98 : decode cX8_tell 98 = .ok (.goto 10, 3) := by decide +kernel
theorem dX8_tell_101 : decode cX8_tell 101 = .ok (.iload 6, 2) := by decide +kernel
theorem dX8_tell_103 : decode cX8_tell 103 = .ok (.aload_n 2, 1) := by decide +kernel
theorem dX8_tell_104 : decode cX8_tell 104 = .ok (.aload_n 3, 1) := by decide +kernel
theorem dX8_tell_105 : decode cX8_tell 105 = .ok (.invokestatic 25, 3) := by decide +kernel
theorem dX8_tell_108 : decode cX8_tell 108 = .ok (.iastore, 1) := by decide +kernel
theorem dX8_tell_109 : decode cX8_tell 109 = .ok (.iinc 4 1, 3) := by decide +kernel
theorem dX8_tell_112 : decode cX8_tell 112 = .ok (.goto 87, 3) := by decide +kernel
theorem dX8_tell_115 : decode cX8_tell 115 = .ok (.iload 6, 2) := by decide +kernel
theorem dX8_tell_117 : decode cX8_tell 117 = .ok (.bipush 11, 2) := by decide +kernel
theorem dX8_tell_119 : decode cX8_tell 119 = .ok (.if_icmp .eq 10, 3) := by decide +kernel
theorem dX8_tell_122 : decode cX8_tell 122 = .ok (.iload 6, 2) := by decide +kernel
theorem dX8_tell_124 : decode cX8_tell 124 = .ok (.bipush 20, 2) := by decide +kernel
theorem dX8_tell_126 : decode cX8_tell 126 = .ok (.if_icmp .ne 34, 3) := by decide +kernel
theorem dX8_tell_129 : decode cX8_tell 129 = .ok (.iload 4, 2) := by decide +kernel
theorem dX8_tell_131 : decode cX8_tell 131 = .ok (.ifCond .le 68, 3) := by decide +kernel
theorem dX8_tell_134 : decode cX8_tell 134 = .ok (.aload_n 0, 1) := by decide +kernel
theorem dX8_tell_135 : decode cX8_tell 135 = .ok (.getfield 18, 3) := by decide +kernel
theorem dX8_tell_138 : decode cX8_tell 138 = .ok (.iload 4, 2) := by decide +kernel
theorem dX8_tell_140 : decode cX8_tell 140 = .ok (.iconst 1, 1) := by decide +kernel
theorem dX8_tell_141 : decode cX8_tell 141 = .ok (.isub, 1) := by decide +kernel
theorem dX8_tell_142 : decode cX8_tell 142 = .ok (.iload 6, 2) := by decide +kernel
theorem dX8_tell_144 : decode cX8_tell 144 = .ok (.aload_n 0, 1) := by decide +kernel
theorem dX8_tell_145 : decode cX8_tell 145 = .ok (.getfield 18, 3) := by decide +kernel
theorem dX8_tell_148 : decode cX8_tell 148 = .ok (.iload 4, 2) := by decide +kernel
theorem dX8_tell_150 : decode cX8_tell 150 = .ok (.iconst 1, 1) := by decide +kernel
theorem dX8_tell_151 : decode cX8_tell 151 = .ok (.isub, 1) := by decide +kernel
theorem dX8_tell_152 : decode cX8_tell 152 = .ok (.iaload, 1) := by decide +kernel
theorem dX8_tell_153 : decode cX8_tell 153 = .ok (.invokestatic 29, 3) := by decide +kernel
theorem dX8_tell_156 : decode cX8_tell 156 = .ok (.iastore, 1) := by decide +kernel
theorem dX8_tell_157 : decode cX8_tell 157 = .ok (.goto 42, 3) := by decide +kernel
theorem dX8_tell_160 : decode cX8_tell 160 = .ok (.iload 4, 2) := by decide +kernel
theorem dX8_tell_162 : decode cX8_tell 162 = .ok (.iconst 1, 1) := by decide +kernel
theorem dX8_tell_163 : decode cX8_tell 163 = .ok (.if_icmp .le 36, 3) := by decide +kernel
theorem dX8_tell_166 : decode cX8_tell 166 = .ok (.iinc 4 (-1), 3) := by decide +kernel
theorem dX8_tell_169 : decode cX8_tell 169 = .ok (.aload_n 0, 1) := by decide +kernel
theorem dX8_tell_170 : decode cX8_tell 170 = .ok (.getfield 18, 3) := by decide +kernel
theorem dX8_tell_173 : decode cX8_tell 173 = .ok (.iload 4, 2) := by decide +kernel
theorem dX8_tell_175 : decode cX8_tell 175 = .ok (.iconst 1, 1) := by decide +kernel
theorem dX8_tell_176 : decode cX8_tell 176 = .ok (.isub, 1) := by decide +kernel
theorem dX8_tell_177 : decode cX8_tell 177 = .ok (.iload 6, 2) := by decide +kernel
theorem dX8_tell_179 : decode cX8_tell 179 = .ok (.aload_n 0, 1) := by decide +kernel
theorem dX8_tell_180 : decode cX8_tell 180 = .ok (.getfield 18, 3) := by decide +kernel
theorem dX8_tell_183 : decode cX8_tell 183 = .ok (.iload 4, 2) := by decide +kernel
theorem dX8_tell_185 : decode cX8_tell 185 = .ok (.iconst 1, 1) := by decide +kernel
theorem dX8_tell_186 : decode cX8_tell 186 = .ok (.isub, 1) := by decide +kernel
theorem dX8_tell_187 : decode cX8_tell 187 = .ok (.iaload, 1) := by decide +kernel
theorem dX8_tell_188 : decode cX8_tell 188 = .ok (.aload_n 0, 1) := by decide +kernel
theorem dX8_tell_189 : decode cX8_tell 189 = .ok (.getfield 18, 3) := by decide +kernel
theorem dX8_tell_192 : decode cX8_tell 192 = .ok (.iload 4, 2) := by decide +kernel
theorem dX8_tell_194 : decode cX8_tell 194 = .ok (.iaload, 1) := by decide +kernel
theorem dX8_tell_195 : decode cX8_tell 195 = .ok (.invokestatic 33, 3) := by decide +kernel
theorem dX8_tell_198 : decode cX8_tell 198 = .ok (.iastore, 1) := by decide +kernel
theorem dX8_tell_199 : decode cX8_tell 199 = .ok (.iinc 5 1, 3) := by decide +kernel
theorem dX8_tell_202 : decode cX8_tell 202 = .ok (.goto (-170), 3) := by decide +kernel
theorem dX8_tell_205 : decode cX8_tell 205 = .ok (.aload_n 0, 1) := by decide +kernel
theorem dX8_tell_206 : decode cX8_tell 206 = .ok (.getfield 18, 3) := by decide +kernel
theorem dX8_tell_209 : decode cX8_tell 209 = .ok (.iconst 0, 1) := by decide +kernel
theorem dX8_tell_210 : decode cX8_tell 210 = .ok (.iaload, 1) := by decide +kernel
theorem dX8_tell_211 : decode cX8_tell 211 = .ok (.bipush 99, 2) := by decide +kernel
theorem dX8_tell_213 : decode cX8_tell 213 = .ok (.invokestatic 37, 3) := by decide +kernel
theorem dX8_tell_216 : decode cX8_tell 216 = .ok (.ireturn, 1) := by decide +kernel
theorem dX8_named_0 : decode cX8_named 0 = .ok (.iload_n 0, 1) := by decide +kernel
theorem dX8_named_1 : decode cX8_named 1 = .ok (.tableswitch 60 0 4 #[35, 40, 45, 50, 55], 35) := by decide +kernel
theorem dX8_named_36 : decode cX8_named 36 = .ok (.aload_n 2, 1) := by decide +kernel
theorem dX8_named_37 : decode cX8_named 37 = .ok (.getfield 40, 3) := by decide +kernel
theorem dX8_named_40 : decode cX8_named 40 = .ok (.ireturn, 1) := by decide +kernel
theorem dX8_named_41 : decode cX8_named 41 = .ok (.aload_n 2, 1) := by decide +kernel
theorem dX8_named_42 : decode cX8_named 42 = .ok (.getfield 45, 3) := by decide +kernel
theorem dX8_named_45 : decode cX8_named 45 = .ok (.ireturn, 1) := by decide +kernel
theorem dX8_named_46 : decode cX8_named 46 = .ok (.aload_n 2, 1) := by decide +kernel
theorem dX8_named_47 : decode cX8_named 47 = .ok (.getfield 48, 3) := by decide +kernel
theorem dX8_named_50 : decode cX8_named 50 = .ok (.ireturn, 1) := by decide +kernel
theorem dX8_named_51 : decode cX8_named 51 = .ok (.aload_n 1, 1) := by decide +kernel
theorem dX8_named_52 : decode cX8_named 52 = .ok (.getfield 51, 3) := by decide +kernel
theorem dX8_named_55 : decode cX8_named 55 = .ok (.ireturn, 1) := by decide +kernel
theorem dX8_named_56 : decode cX8_named 56 = .ok (.aload_n 1, 1) := by decide +kernel
theorem dX8_named_57 : decode cX8_named 57 = .ok (.getfield 56, 3) := by decide +kernel
theorem dX8_named_60 : decode cX8_named 60 = .ok (.ireturn, 1) := by decide +kernel
theorem dX8_named_61 : decode cX8_named 61 = .ok (.aload_n 1, 1) := by decide +kernel
theorem dX8_named_62 : decode cX8_named 62 = .ok (.getfield 59, 3) := by decide +kernel
theorem dX8_named_65 : decode cX8_named 65 = .ok (.ireturn, 1) := by decide +kernel
theorem dX8_turned_0 : decode cX8_turned 0 = .ok (.iload_n 0, 1) := by decide +kernel
theorem dX8_turned_1 : decode cX8_turned 1 = .ok (.bipush 20, 2) := by decide +kernel
theorem dX8_turned_3 : decode cX8_turned 3 = .ok (.if_icmp .ne 6, 3) := by decide +kernel
theorem dX8_turned_6 : decode cX8_turned 6 = .ok (.iload_n 1, 1) := by decide +kernel
theorem dX8_turned_7 : decode cX8_turned 7 = .ok (.ineg, 1) := by decide +kernel
theorem dX8_turned_8 : decode cX8_turned 8 = .ok (.ireturn, 1) := by decide +kernel
theorem dX8_turned_9 : decode cX8_turned 9 = .ok (.iload_n 1, 1) := by decide +kernel
theorem dX8_turned_10 : decode cX8_turned 10 = .ok (.ifCond .ne 7, 3) := by decide +kernel
theorem dX8_turned_13 : decode cX8_turned 13 = .ok (.iconst 1, 1) := by decide +kernel
theorem dX8_turned_14 : decode cX8_turned 14 = .ok (.goto 4, 3) := by decide +kernel
theorem dX8_turned_17 : decode cX8_turned 17 = .ok (.iconst 0, 1) := by decide +kernel
theorem dX8_turned_18 : decode cX8_turned 18 = .ok (.ireturn, 1) := by decide +kernel
theorem dX8_joined_0 : decode cX8_joined 0 = .ok (.iload_n 0, 1) := by decide +kernel
theorem dX8_joined_1 : decode cX8_joined 1 = .ok (.tableswitch 117 9 19 #[59, 73, 117, 117, 117, 117, 109, 113, 117, 87, 98], 59) := by decide +kernel
theorem dX8_joined_60 : decode cX8_joined 60 = .ok (.iload_n 1, 1) := by decide +kernel
theorem dX8_joined_61 : decode cX8_joined 61 = .ok (.ifCond .ne 7, 3) := by decide +kernel
theorem dX8_joined_64 : decode cX8_joined 64 = .ok (.iload_n 2, 1) := by decide +kernel
theorem dX8_joined_65 : decode cX8_joined 65 = .ok (.ifCond .eq 7, 3) := by decide +kernel
theorem dX8_joined_68 : decode cX8_joined 68 = .ok (.iconst 1, 1) := by decide +kernel
theorem dX8_joined_69 : decode cX8_joined 69 = .ok (.goto 4, 3) := by decide +kernel
theorem dX8_joined_72 : decode cX8_joined 72 = .ok (.iconst 0, 1) := by decide +kernel
theorem dX8_joined_73 : decode cX8_joined 73 = .ok (.ireturn, 1) := by decide +kernel
theorem dX8_joined_74 : decode cX8_joined 74 = .ok (.iload_n 1, 1) := by decide +kernel
theorem dX8_joined_75 : decode cX8_joined 75 = .ok (.ifCond .eq 11, 3) := by decide +kernel
theorem dX8_joined_78 : decode cX8_joined 78 = .ok (.iload_n 2, 1) := by decide +kernel
theorem dX8_joined_79 : decode cX8_joined 79 = .ok (.ifCond .eq 7, 3) := by decide +kernel
theorem dX8_joined_82 : decode cX8_joined 82 = .ok (.iconst 1, 1) := by decide +kernel
theorem dX8_joined_83 : decode cX8_joined 83 = .ok (.goto 4, 3) := by decide +kernel
theorem dX8_joined_86 : decode cX8_joined 86 = .ok (.iconst 0, 1) := by decide +kernel
theorem dX8_joined_87 : decode cX8_joined 87 = .ok (.ireturn, 1) := by decide +kernel
theorem dX8_joined_88 : decode cX8_joined 88 = .ok (.iload_n 1, 1) := by decide +kernel
theorem dX8_joined_89 : decode cX8_joined 89 = .ok (.iload_n 2, 1) := by decide +kernel
theorem dX8_joined_90 : decode cX8_joined 90 = .ok (.if_icmp .ge 7, 3) := by decide +kernel
theorem dX8_joined_93 : decode cX8_joined 93 = .ok (.iconst 1, 1) := by decide +kernel
theorem dX8_joined_94 : decode cX8_joined 94 = .ok (.goto 4, 3) := by decide +kernel
theorem dX8_joined_97 : decode cX8_joined 97 = .ok (.iconst 0, 1) := by decide +kernel
theorem dX8_joined_98 : decode cX8_joined 98 = .ok (.ireturn, 1) := by decide +kernel
theorem dX8_joined_99 : decode cX8_joined 99 = .ok (.iload_n 1, 1) := by decide +kernel
theorem dX8_joined_100 : decode cX8_joined 100 = .ok (.iload_n 2, 1) := by decide +kernel
theorem dX8_joined_101 : decode cX8_joined 101 = .ok (.if_icmp .ne 7, 3) := by decide +kernel
theorem dX8_joined_104 : decode cX8_joined 104 = .ok (.iconst 1, 1) := by decide +kernel
theorem dX8_joined_105 : decode cX8_joined 105 = .ok (.goto 4, 3) := by decide +kernel
theorem dX8_joined_108 : decode cX8_joined 108 = .ok (.iconst 0, 1) := by decide +kernel
theorem dX8_joined_109 : decode cX8_joined 109 = .ok (.ireturn, 1) := by decide +kernel
theorem dX8_joined_110 : decode cX8_joined 110 = .ok (.iload_n 1, 1) := by decide +kernel
theorem dX8_joined_111 : decode cX8_joined 111 = .ok (.iload_n 2, 1) := by decide +kernel
theorem dX8_joined_112 : decode cX8_joined 112 = .ok (.iadd, 1) := by decide +kernel
theorem dX8_joined_113 : decode cX8_joined 113 = .ok (.ireturn, 1) := by decide +kernel
theorem dX8_joined_114 : decode cX8_joined 114 = .ok (.iload_n 1, 1) := by decide +kernel
theorem dX8_joined_115 : decode cX8_joined 115 = .ok (.iload_n 2, 1) := by decide +kernel
theorem dX8_joined_116 : decode cX8_joined 116 = .ok (.isub, 1) := by decide +kernel
theorem dX8_joined_117 : decode cX8_joined 117 = .ok (.ireturn, 1) := by decide +kernel
theorem dX8_joined_118 : decode cX8_joined 118 = .ok (.iload_n 1, 1) := by decide +kernel
theorem dX8_joined_119 : decode cX8_joined 119 = .ok (.iload_n 2, 1) := by decide +kernel
theorem dX8_joined_120 : decode cX8_joined 120 = .ok (.imul, 1) := by decide +kernel
theorem dX8_joined_121 : decode cX8_joined 121 = .ok (.ireturn, 1) := by decide +kernel
set_option maxRecDepth 20000 in
theorem ggX9_init_X8_init : GoodIn wsX9_init wsX8_init := goodIn_r _ [10, 11, 2, 3, 12, 13, 14, 15, 16, 19, 20, 21, 22] (by decide +kernel) (by decide +kernel)
set_option maxRecDepth 20000 in
theorem gX9_init_X8_init_n21 : GoodIn wsX9_init (wsX8_init) := ggX9_init_X8_init
theorem dX9_init_0 : decode cX9_init 0 = .ok (.aload_n 0, 1) := by decide +kernel
theorem dX9_init_1 : decode cX9_init 1 = .ok (.invokespecial 3, 3) := by decide +kernel
theorem dX9_init_4 : decode cX9_init 4 = .ok (.aload_n 0, 1) := by decide +kernel
theorem dX9_init_5 : decode cX9_init 5 = .ok (.bipush 6, 2) := by decide +kernel
theorem dX9_init_7 : decode cX9_init 7 = .ok (.anewarray 9, 3) := by decide +kernel
theorem dX9_init_10 : decode cX9_init 10 = .ok (.putfield 11, 3) := by decide +kernel
theorem dX9_init_13 : decode cX9_init 13 = .ok (.aload_n 0, 1) := by decide +kernel
theorem dX9_init_14 : decode cX9_init 14 = .ok (.iconst 0, 1) := by decide +kernel
theorem dX9_init_15 : decode cX9_init 15 = .ok (.putfield 17, 3) := by decide +kernel
theorem dX9_init_18 : decode cX9_init 18 = .ok (.iconst 0, 1) := by decide +kernel
theorem dX9_init_19 : decode cX9_init 19 = .ok (.istore_n 1, 1) := by decide +kernel
theorem dX9_init_20 : decode cX9_init 20 = .ok (.iload_n 1, 1) := by decide +kernel
theorem dX9_init_21 : decode cX9_init 21 = .ok (.bipush 6, 2) := by decide +kernel
theorem dX9_init_23 : decode cX9_init 23 = .ok (.if_icmp .ge 22, 3) := by decide +kernel
theorem dX9_init_26 : decode cX9_init 26 = .ok (.aload_n 0, 1) := by decide +kernel
theorem dX9_init_27 : decode cX9_init 27 = .ok (.getfield 11, 3) := by decide +kernel
theorem dX9_init_30 : decode cX9_init 30 = .ok (.iload_n 1, 1) := by decide +kernel
theorem dX9_init_31 : decode cX9_init 31 = .ok (.new 9, 3) := by decide +kernel
theorem dX9_init_34 : decode cX9_init 34 = .ok (.dup, 1) := by decide +kernel
theorem dX9_init_35 : decode cX9_init 35 = .ok (.invokespecial 21, 3) := by decide +kernel
theorem dX9_init_38 : decode cX9_init 38 = .ok (.aastore, 1) := by decide +kernel
theorem dX9_init_39 : decode cX9_init 39 = .ok (.iinc 1 1, 3) := by decide +kernel
theorem dX9_init_42 : decode cX9_init 42 = .ok (.goto (-22), 3) := by decide +kernel
theorem dX9_init_45 : decode cX9_init 45 = .ok (.return_, 1) := by decide +kernel
theorem dX9_has_0 : decode cX9_has 0 = .ok (.iload_n 1, 1) := by decide +kernel
theorem dX9_has_1 : decode cX9_has 1 = .ok (.ifCond .lt 21, 3) := by decide +kernel
theorem dX9_has_4 : decode cX9_has 4 = .ok (.iload_n 1, 1) := by decide +kernel
theorem dX9_has_5 : decode cX9_has 5 = .ok (.aload_n 0, 1) := by decide +kernel
theorem dX9_has_6 : decode cX9_has 6 = .ok (.getfield 17, 3) := by decide +kernel
theorem dX9_has_9 : decode cX9_has 9 = .ok (.if_icmp .ge 13, 3) := by decide +kernel
theorem dX9_has_12 : decode cX9_has 12 = .ok (.iload_n 1, 1) := by decide +kernel
theorem dX9_has_13 : decode cX9_has 13 = .ok (.bipush 6, 2) := by decide +kernel
theorem dX9_has_15 : decode cX9_has 15 = .ok (.if_icmp .ge 7, 3) := by decide +kernel
theorem dX9_has_18 : decode cX9_has 18 = .ok (.iconst 1, 1) := by decide +kernel
theorem dX9_has_19 : decode cX9_has 19 = .ok (.goto 4, 3) := by decide +kernel
theorem dX9_has_22 : decode cX9_has 22 = .ok (.iconst 0, 1) := by decide +kernel
theorem dX9_has_23 : decode cX9_has 23 = .ok (.ireturn, 1) := by decide +kernel
set_option maxRecDepth 20000 in
theorem ggX9_ruleOf_X9_has : GoodIn wsX9_ruleOf wsX9_has := goodIn_r _ [7, 8, 17, 18] (by decide +kernel) (by decide +kernel)
set_option maxRecDepth 20000 in
theorem gX9_ruleOf_X9_has : GoodIn wsX9_ruleOf (wsV RX9 27 RX9 yX9_has wsX9_has) := goodIn_app (goodIn_of _ (by decide +kernel)) ggX9_ruleOf_X9_has
theorem dX9_ruleOf_0 : decode cX9_ruleOf 0 = .ok (.aload_n 0, 1) := by decide +kernel
theorem dX9_ruleOf_1 : decode cX9_ruleOf 1 = .ok (.aload_n 1, 1) := by decide +kernel
theorem dX9_ruleOf_2 : decode cX9_ruleOf 2 = .ok (.getfield 22, 3) := by decide +kernel
theorem dX9_ruleOf_5 : decode cX9_ruleOf 5 = .ok (.invokevirtual 27, 3) := by decide +kernel
theorem dX9_ruleOf_8 : decode cX9_ruleOf 8 = .ok (.ifCond .eq 15, 3) := by decide +kernel
theorem dX9_ruleOf_11 : decode cX9_ruleOf 11 = .ok (.aload_n 0, 1) := by decide +kernel
theorem dX9_ruleOf_12 : decode cX9_ruleOf 12 = .ok (.getfield 11, 3) := by decide +kernel
theorem dX9_ruleOf_15 : decode cX9_ruleOf 15 = .ok (.aload_n 1, 1) := by decide +kernel
theorem dX9_ruleOf_16 : decode cX9_ruleOf 16 = .ok (.getfield 22, 3) := by decide +kernel
theorem dX9_ruleOf_19 : decode cX9_ruleOf 19 = .ok (.aaload, 1) := by decide +kernel
theorem dX9_ruleOf_20 : decode cX9_ruleOf 20 = .ok (.goto 9, 3) := by decide +kernel
theorem dX9_ruleOf_23 : decode cX9_ruleOf 23 = .ok (.aload_n 0, 1) := by decide +kernel
theorem dX9_ruleOf_24 : decode cX9_ruleOf 24 = .ok (.getfield 11, 3) := by decide +kernel
theorem dX9_ruleOf_27 : decode cX9_ruleOf 27 = .ok (.iconst 0, 1) := by decide +kernel
theorem dX9_ruleOf_28 : decode cX9_ruleOf 28 = .ok (.aaload, 1) := by decide +kernel
theorem dX9_ruleOf_29 : decode cX9_ruleOf 29 = .ok (.areturn, 1) := by decide +kernel
theorem dX10_init_0 : decode cX10_init 0 = .ok (.aload_n 0, 1) := by decide +kernel
theorem dX10_init_1 : decode cX10_init 1 = .ok (.invokespecial 3, 3) := by decide +kernel
theorem dX10_init_4 : decode cX10_init 4 = .ok (.aload_n 0, 1) := by decide +kernel
theorem dX10_init_5 : decode cX10_init 5 = .ok (.sipush 161, 3) := by decide +kernel
theorem dX10_init_8 : decode cX10_init 8 = .ok (.newarray .int, 2) := by decide +kernel
theorem dX10_init_10 : decode cX10_init 10 = .ok (.putfield 9, 3) := by decide +kernel
theorem dX10_init_13 : decode cX10_init 13 = .ok (.aload_n 0, 1) := by decide +kernel
theorem dX10_init_14 : decode cX10_init 14 = .ok (.sipush 161, 3) := by decide +kernel
theorem dX10_init_17 : decode cX10_init 17 = .ok (.newarray .int, 2) := by decide +kernel
theorem dX10_init_19 : decode cX10_init 19 = .ok (.putfield 15, 3) := by decide +kernel
theorem dX10_init_22 : decode cX10_init 22 = .ok (.aload_n 0, 1) := by decide +kernel
theorem dX10_init_23 : decode cX10_init 23 = .ok (.iconst 0, 1) := by decide +kernel
theorem dX10_init_24 : decode cX10_init 24 = .ok (.putfield 18, 3) := by decide +kernel
theorem dX10_init_27 : decode cX10_init 27 = .ok (.return_, 1) := by decide +kernel
set_option maxRecDepth 20000 in
theorem ggX10_cut_X10_endOf : GoodIn wsX10_cut wsX10_endOf := goodIn_r _ [6, 2, 7, 8, 9, 10, 11, 12, 13, 14, 15, 16, 17, 18, 19, 20, 21, 161, 162] (by decide +kernel) (by decide +kernel)
set_option maxRecDepth 20000 in
theorem gX10_cut_X10_endOf : GoodIn wsX10_cut (va_wsS RX10 25 yX10_endOf wsX10_endOf) := goodIn_app (goodIn_of _ (by decide +kernel)) ggX10_cut_X10_endOf
set_option maxRecDepth 20000 in
theorem ggX10_cut_X7_isBlank : GoodIn wsX10_cut wsX7_isBlank := goodIn_r _ [25, 12, 13, 14, 10, 15, 16, 17, 161, 162] (by decide +kernel) (by decide +kernel)
set_option maxRecDepth 20000 in
theorem gX10_cut_X7_isBlank : GoodIn wsX10_cut (wsV RX10 29 RX7 yX7_isBlank wsX7_isBlank) := goodIn_app (goodIn_of _ (by decide +kernel)) ggX10_cut_X7_isBlank
set_option maxRecDepth 20000 in
theorem ggX10_cut_X10_tokenOf : GoodIn wsX10_cut wsX10_tokenOf := goodIn_r _ [28, 7, 8, 9, 10, 11, 12, 13, 14, 15, 16, 17, 29, 30, 5, 31, 32, 33, 34, 35, 36, 37, 38, 39, 40, 41, 42, 43, 44, 45, 46, 47, 48, 49, 50, 51, 52, 53, 54, 55, 56, 57, 58, 59, 60, 61, 62, 63, 64, 65, 66, 67, 68, 69, 70, 71, 72, 73, 74, 75, 76, 77, 78, 79, 80, 81, 82, 83, 84, 85, 86, 87, 18, 19, 20, 21, 88, 89, 90, 91, 92, 93, 94, 95, 96, 97, 98, 99, 100, 101, 102, 103, 104, 105, 106, 107, 108, 109, 110, 111, 112, 113, 114, 115, 116, 117, 118, 119, 120, 121, 122, 123, 124, 125, 126, 127, 128, 129, 130, 131, 132, 133, 134, 135, 136, 137, 138, 139, 140, 141, 142, 143, 144, 145, 146, 147, 148, 149, 150, 151, 161, 162] (by decide +kernel) (by decide +kernel)
set_option maxRecDepth 20000 in
theorem gX10_cut_X10_tokenOf : GoodIn wsX10_cut (va_wsS RX10 33 yX10_tokenOf wsX10_tokenOf) := goodIn_app (goodIn_of _ (by decide +kernel)) ggX10_cut_X10_tokenOf
set_option maxRecDepth 20000 in
theorem ggX10_cut_X10_put : GoodIn wsX10_cut wsX10_put := goodIn_r _ [155, 1, 156, 157, 158, 159, 160] (by decide +kernel) (by decide +kernel)
set_option maxRecDepth 20000 in
theorem gX10_cut_X10_put : GoodIn wsX10_cut (wsV RX10 37 RX10 yX10_put wsX10_put) := goodIn_app (goodIn_of _ (by decide +kernel)) ggX10_cut_X10_put
theorem dX10_cut_0 : decode cX10_cut 0 = .ok (.aload_n 0, 1) := by decide +kernel
theorem dX10_cut_1 : decode cX10_cut 1 = .ok (.iconst 0, 1) := by decide +kernel
theorem dX10_cut_2 : decode cX10_cut 2 = .ok (.putfield 18, 3) := by decide +kernel
theorem dX10_cut_5 : decode cX10_cut 5 = .ok (.iconst 0, 1) := by decide +kernel
theorem dX10_cut_6 : decode cX10_cut 6 = .ok (.istore_n 2, 1) := by decide +kernel
theorem dX10_cut_7 : decode cX10_cut 7 = .ok (.iconst 0, 1) := by decide +kernel
theorem dX10_cut_8 : decode cX10_cut 8 = .ok (.istore_n 3, 1) := by decide +kernel
theorem dX10_cut_9 : decode cX10_cut 9 = .ok (.iload_n 3, 1) := by decide +kernel
theorem dX10_cut_10 : decode cX10_cut 10 = .ok (.sipush 160, 3) := by decide +kernel
theorem dX10_cut_13 : decode cX10_cut 13 = .ok (.if_icmp .ge 47, 3) := by decide +kernel
theorem dX10_cut_16 : decode cX10_cut 16 = .ok (.iload_n 2, 1) := by decide +kernel
theorem dX10_cut_17 : decode cX10_cut 17 = .ok (.aload_n 1, 1) := by decide +kernel
theorem dX10_cut_18 : decode cX10_cut 18 = .ok (.getfield 22, 3) := by decide +kernel
theorem dX10_cut_21 : decode cX10_cut 21 = .ok (.if_icmp .ge 39, 3) := by decide +kernel
theorem dX10_cut_24 : decode cX10_cut 24 = .ok (.aload_n 1, 1) := by decide +kernel
theorem dX10_cut_25 : decode cX10_cut 25 = .ok (.iload_n 2, 1) := by decide +kernel
theorem dX10_cut_26 : decode cX10_cut 26 = .ok (.invokestatic 25, 3) := by decide +kernel
theorem dX10_cut_29 : decode cX10_cut 29 = .ok (.istore 4, 2) := by decide +kernel
theorem dX10_cut_31 : decode cX10_cut 31 = .ok (.aload_n 1, 1) := by decide +kernel
theorem dX10_cut_32 : decode cX10_cut 32 = .ok (.iload_n 2, 1) := by decide +kernel
theorem dX10_cut_33 : decode cX10_cut 33 = .ok (.invokevirtual 29, 3) := by decide +kernel
theorem dX10_cut_36 : decode cX10_cut 36 = .ok (.ifCond .ne 15, 3) := by decide +kernel
theorem dX10_cut_39 : decode cX10_cut 39 = .ok (.aload_n 0, 1) := by decide +kernel
theorem dX10_cut_40 : decode cX10_cut 40 = .ok (.aload_n 1, 1) := by decide +kernel
theorem dX10_cut_41 : decode cX10_cut 41 = .ok (.iload_n 2, 1) := by decide +kernel
theorem dX10_cut_42 : decode cX10_cut 42 = .ok (.iload 4, 2) := by decide +kernel
theorem dX10_cut_44 : decode cX10_cut 44 = .ok (.invokestatic 33, 3) := by decide +kernel
theorem dX10_cut_47 : decode cX10_cut 47 = .ok (.iload_n 2, 1) := by decide +kernel
theorem dX10_cut_48 : decode cX10_cut 48 = .ok (.invokevirtual 37, 3) := by decide +kernel
theorem dX10_cut_51 : decode cX10_cut 51 = .ok (.iload 4, 2) := by decide +kernel
theorem dX10_cut_53 : decode cX10_cut 53 = .ok (.istore_n 2, 1) := by decide +kernel
theorem dX10_cut_54 : decode cX10_cut 54 = .ok (.iinc 3 1, 3) := by decide +kernel
theorem dX10_cut_57 : decode cX10_cut 57 = .ok (.goto (-48), 3) := by decide +kernel
theorem dX10_cut_60 : decode cX10_cut 60 = .ok (.aload_n 0, 1) := by decide +kernel
theorem dX10_cut_61 : decode cX10_cut 61 = .ok (.bipush 21, 2) := by decide +kernel
theorem dX10_cut_63 : decode cX10_cut 63 = .ok (.aload_n 1, 1) := by decide +kernel
theorem dX10_cut_64 : decode cX10_cut 64 = .ok (.getfield 22, 3) := by decide +kernel
theorem dX10_cut_67 : decode cX10_cut 67 = .ok (.invokevirtual 37, 3) := by decide +kernel
theorem dX10_cut_70 : decode cX10_cut 70 = .ok (.return_, 1) := by decide +kernel
theorem dX10_tokenAt_0 : decode cX10_tokenAt 0 = .ok (.iload_n 1, 1) := by decide +kernel
theorem dX10_tokenAt_1 : decode cX10_tokenAt 1 = .ok (.ifCond .lt 29, 3) := by decide +kernel
theorem dX10_tokenAt_4 : decode cX10_tokenAt 4 = .ok (.iload_n 1, 1) := by decide +kernel
theorem dX10_tokenAt_5 : decode cX10_tokenAt 5 = .ok (.aload_n 0, 1) := by decide +kernel
theorem dX10_tokenAt_6 : decode cX10_tokenAt 6 = .ok (.getfield 18, 3) := by decide +kernel
theorem dX10_tokenAt_9 : decode cX10_tokenAt 9 = .ok (.if_icmp .ge 21, 3) := by decide +kernel
theorem dX10_tokenAt_12 : decode cX10_tokenAt 12 = .ok (.iload_n 1, 1) := by decide +kernel
theorem dX10_tokenAt_13 : decode cX10_tokenAt 13 = .ok (.aload_n 0, 1) := by decide +kernel
theorem dX10_tokenAt_14 : decode cX10_tokenAt 14 = .ok (.getfield 9, 3) := by decide +kernel
theorem dX10_tokenAt_17 : decode cX10_tokenAt 17 = .ok (.arraylength, 1) := by decide +kernel
theorem dX10_tokenAt_18 : decode cX10_tokenAt 18 = .ok (.if_icmp .ge 12, 3) := by decide +kernel
theorem dX10_tokenAt_21 : decode cX10_tokenAt 21 = .ok (.aload_n 0, 1) := by decide +kernel
theorem dX10_tokenAt_22 : decode cX10_tokenAt 22 = .ok (.getfield 9, 3) := by decide +kernel
theorem dX10_tokenAt_25 : decode cX10_tokenAt 25 = .ok (.iload_n 1, 1) := by decide +kernel
theorem dX10_tokenAt_26 : decode cX10_tokenAt 26 = .ok (.iaload, 1) := by decide +kernel
theorem dX10_tokenAt_27 : decode cX10_tokenAt 27 = .ok (.goto 5, 3) := by decide +kernel
theorem dX10_tokenAt_30 : decode cX10_tokenAt 30 = .ok (.bipush 21, 2) := by decide +kernel
theorem dX10_tokenAt_32 : decode cX10_tokenAt 32 = .ok (.ireturn, 1) := by decide +kernel
theorem dX10_placeAt_0 : decode cX10_placeAt 0 = .ok (.iload_n 1, 1) := by decide +kernel
theorem dX10_placeAt_1 : decode cX10_placeAt 1 = .ok (.ifCond .lt 29, 3) := by decide +kernel
theorem dX10_placeAt_4 : decode cX10_placeAt 4 = .ok (.iload_n 1, 1) := by decide +kernel
theorem dX10_placeAt_5 : decode cX10_placeAt 5 = .ok (.aload_n 0, 1) := by decide +kernel
theorem dX10_placeAt_6 : decode cX10_placeAt 6 = .ok (.getfield 18, 3) := by decide +kernel
theorem dX10_placeAt_9 : decode cX10_placeAt 9 = .ok (.if_icmp .ge 21, 3) := by decide +kernel
theorem dX10_placeAt_12 : decode cX10_placeAt 12 = .ok (.iload_n 1, 1) := by decide +kernel
theorem dX10_placeAt_13 : decode cX10_placeAt 13 = .ok (.aload_n 0, 1) := by decide +kernel
theorem dX10_placeAt_14 : decode cX10_placeAt 14 = .ok (.getfield 15, 3) := by decide +kernel
theorem dX10_placeAt_17 : decode cX10_placeAt 17 = .ok (.arraylength, 1) := by decide +kernel
theorem dX10_placeAt_18 : decode cX10_placeAt 18 = .ok (.if_icmp .ge 12, 3) := by decide +kernel
theorem dX10_placeAt_21 : decode cX10_placeAt 21 = .ok (.aload_n 0, 1) := by decide +kernel
theorem dX10_placeAt_22 : decode cX10_placeAt 22 = .ok (.getfield 15, 3) := by decide +kernel
theorem dX10_placeAt_25 : decode cX10_placeAt 25 = .ok (.iload_n 1, 1) := by decide +kernel
theorem dX10_placeAt_26 : decode cX10_placeAt 26 = .ok (.iaload, 1) := by decide +kernel
theorem dX10_placeAt_27 : decode cX10_placeAt 27 = .ok (.goto 4, 3) := by decide +kernel
theorem dX10_placeAt_30 : decode cX10_placeAt 30 = .ok (.iconst 0, 1) := by decide +kernel
theorem dX10_placeAt_31 : decode cX10_placeAt 31 = .ok (.ireturn, 1) := by decide +kernel
theorem dX10_put_0 : decode cX10_put 0 = .ok (.aload_n 0, 1) := by decide +kernel
theorem dX10_put_1 : decode cX10_put 1 = .ok (.getfield 18, 3) := by decide +kernel
theorem dX10_put_4 : decode cX10_put 4 = .ok (.aload_n 0, 1) := by decide +kernel
theorem dX10_put_5 : decode cX10_put 5 = .ok (.getfield 9, 3) := by decide +kernel
theorem dX10_put_8 : decode cX10_put 8 = .ok (.arraylength, 1) := by decide +kernel
theorem dX10_put_9 : decode cX10_put 9 = .ok (.if_icmp .ge 45, 3) := by decide +kernel
theorem dX10_put_12 : decode cX10_put 12 = .ok (.aload_n 0, 1) := by decide +kernel
theorem dX10_put_13 : decode cX10_put 13 = .ok (.getfield 18, 3) := by decide +kernel
theorem dX10_put_16 : decode cX10_put 16 = .ok (.aload_n 0, 1) := by decide +kernel
theorem dX10_put_17 : decode cX10_put 17 = .ok (.getfield 15, 3) := by decide +kernel
theorem dX10_put_20 : decode cX10_put 20 = .ok (.arraylength, 1) := by decide +kernel
theorem dX10_put_21 : decode cX10_put 21 = .ok (.if_icmp .ge 33, 3) := by decide +kernel
theorem dX10_put_24 : decode cX10_put 24 = .ok (.aload_n 0, 1) := by decide +kernel
theorem dX10_put_25 : decode cX10_put 25 = .ok (.getfield 9, 3) := by decide +kernel
theorem dX10_put_28 : decode cX10_put 28 = .ok (.aload_n 0, 1) := by decide +kernel
theorem dX10_put_29 : decode cX10_put 29 = .ok (.getfield 18, 3) := by decide +kernel
theorem dX10_put_32 : decode cX10_put 32 = .ok (.iload_n 1, 1) := by decide +kernel
theorem dX10_put_33 : decode cX10_put 33 = .ok (.iastore, 1) := by decide +kernel
theorem dX10_put_34 : decode cX10_put 34 = .ok (.aload_n 0, 1) := by decide +kernel
theorem dX10_put_35 : decode cX10_put 35 = .ok (.getfield 15, 3) := by decide +kernel
theorem dX10_put_38 : decode cX10_put 38 = .ok (.aload_n 0, 1) := by decide +kernel
theorem dX10_put_39 : decode cX10_put 39 = .ok (.getfield 18, 3) := by decide +kernel
theorem dX10_put_42 : decode cX10_put 42 = .ok (.iload_n 2, 1) := by decide +kernel
theorem dX10_put_43 : decode cX10_put 43 = .ok (.iastore, 1) := by decide +kernel
theorem dX10_put_44 : decode cX10_put 44 = .ok (.aload_n 0, 1) := by decide +kernel
theorem dX10_put_45 : decode cX10_put 45 = .ok (.dup, 1) := by decide +kernel
theorem dX10_put_46 : decode cX10_put 46 = .ok (.getfield 18, 3) := by decide +kernel
theorem dX10_put_49 : decode cX10_put 49 = .ok (.iconst 1, 1) := by decide +kernel
theorem dX10_put_50 : decode cX10_put 50 = .ok (.iadd, 1) := by decide +kernel
theorem dX10_put_51 : decode cX10_put 51 = .ok (.putfield 18, 3) := by decide +kernel
theorem dX10_put_54 : decode cX10_put 54 = .ok (.return_, 1) := by decide +kernel
set_option maxRecDepth 20000 in
theorem ggX10_endOf_X7_isSmall : GoodIn wsX10_endOf wsX7_isSmall := goodIn_r _ [6, 7, 8, 9, 5, 10, 11, 12, 17, 18] (by decide +kernel) (by decide +kernel)
set_option maxRecDepth 20000 in
theorem gX10_endOf_X7_isSmall : GoodIn wsX10_endOf (wsV RX10 41 RX7 yX7_isSmall wsX7_isSmall) := goodIn_app (goodIn_of _ (by decide +kernel)) ggX10_endOf_X7_isSmall
set_option maxRecDepth 20000 in
theorem ggX10_endOf_X7_isDigit : GoodIn wsX10_endOf wsX7_isDigit := goodIn_r _ [16, 7, 8, 9, 5, 10, 11, 12, 17, 18] (by decide +kernel) (by decide +kernel)
set_option maxRecDepth 20000 in
theorem gX10_endOf_X7_isDigit : GoodIn wsX10_endOf (wsV RX10 44 RX7 yX7_isDigit wsX7_isDigit) := goodIn_app (goodIn_of _ (by decide +kernel)) ggX10_endOf_X7_isDigit
theorem dX10_endOf_0 : decode cX10_endOf 0 = .ok (.iload_n 1, 1) := by decide +kernel
theorem dX10_endOf_1 : decode cX10_endOf 1 = .ok (.iconst 1, 1) := by decide +kernel
theorem dX10_endOf_2 : decode cX10_endOf 2 = .ok (.iadd, 1) := by decide +kernel
theorem dX10_endOf_3 : decode cX10_endOf 3 = .ok (.istore_n 2, 1) := by decide +kernel
theorem dX10_endOf_4 : decode cX10_endOf 4 = .ok (.aload_n 0, 1) := by decide +kernel
theorem dX10_endOf_5 : decode cX10_endOf 5 = .ok (.iload_n 1, 1) := by decide +kernel
theorem dX10_endOf_6 : decode cX10_endOf 6 = .ok (.invokevirtual 41, 3) := by decide +kernel
theorem dX10_endOf_9 : decode cX10_endOf 9 = .ok (.ifCond .eq 25, 3) := by decide +kernel
theorem dX10_endOf_12 : decode cX10_endOf 12 = .ok (.iload_n 2, 1) := by decide +kernel
theorem dX10_endOf_13 : decode cX10_endOf 13 = .ok (.aload_n 0, 1) := by decide +kernel
theorem dX10_endOf_14 : decode cX10_endOf 14 = .ok (.getfield 22, 3) := by decide +kernel
theorem dX10_endOf_17 : decode cX10_endOf 17 = .ok (.if_icmp .ge 47, 3) := by decide +kernel
theorem dX10_endOf_20 : decode cX10_endOf 20 = .ok (.aload_n 0, 1) := by decide +kernel
theorem dX10_endOf_21 : decode cX10_endOf 21 = .ok (.iload_n 2, 1) := by decide +kernel
theorem dX10_endOf_22 : decode cX10_endOf 22 = .ok (.invokevirtual 41, 3) := by decide +kernel
theorem dX10_endOf_25 : decode cX10_endOf 25 = .ok (.ifCond .eq 39, 3) := by decide +kernel
theorem dX10_endOf_28 : decode cX10_endOf 28 = .ok (.iinc 2 1, 3) := by decide +kernel
theorem dX10_endOf_31 : decode cX10_endOf 31 = .ok (.goto (-19), 3) := by decide +kernel
theorem dX10_endOf_34 : decode cX10_endOf 34 = .ok (.aload_n 0, 1) := by decide +kernel
theorem dX10_endOf_35 : decode cX10_endOf 35 = .ok (.iload_n 1, 1) := by decide +kernel
theorem dX10_endOf_36 : decode cX10_endOf 36 = .ok (.invokevirtual 44, 3) := by decide +kernel
theorem dX10_endOf_39 : decode cX10_endOf 39 = .ok (.ifCond .eq 25, 3) := by decide +kernel
theorem dX10_endOf_42 : decode cX10_endOf 42 = .ok (.iload_n 2, 1) := by decide +kernel
theorem dX10_endOf_43 : decode cX10_endOf 43 = .ok (.aload_n 0, 1) := by decide +kernel
theorem dX10_endOf_44 : decode cX10_endOf 44 = .ok (.getfield 22, 3) := by decide +kernel
theorem dX10_endOf_47 : decode cX10_endOf 47 = .ok (.if_icmp .ge 17, 3) := by decide +kernel
theorem dX10_endOf_50 : decode cX10_endOf 50 = .ok (.aload_n 0, 1) := by decide +kernel
theorem dX10_endOf_51 : decode cX10_endOf 51 = .ok (.iload_n 2, 1) := by decide +kernel
theorem dX10_endOf_52 : decode cX10_endOf 52 = .ok (.invokevirtual 44, 3) := by decide +kernel
theorem dX10_endOf_55 : decode cX10_endOf 55 = .ok (.ifCond .eq 9, 3) := by decide +kernel
theorem dX10_endOf_58 : decode cX10_endOf 58 = .ok (.iinc 2 1, 3) := by decide +kernel
theorem dX10_endOf_61 : decode cX10_endOf 61 = .ok (.goto (-19), 3) := by decide +kernel
theorem dX10_endOf_64 : decode cX10_endOf 64 = .ok (.iload_n 2, 1) := by decide +kernel
theorem dX10_endOf_65 : decode cX10_endOf 65 = .ok (.ireturn, 1) := by decide +kernel
set_option maxRecDepth 20000 in
theorem ggX10_tokenOf_X7_isSmall : GoodIn wsX10_tokenOf wsX7_isSmall := goodIn_r _ [5, 6, 7, 8, 4, 9, 10, 11, 140, 141] (by decide +kernel) (by decide +kernel)
set_option maxRecDepth 20000 in
theorem gX10_tokenOf_X7_isSmall : GoodIn wsX10_tokenOf (wsV RX10 41 RX7 yX7_isSmall wsX7_isSmall) := goodIn_app (goodIn_of _ (by decide +kernel)) ggX10_tokenOf_X7_isSmall
set_option maxRecDepth 20000 in
theorem ggX10_tokenOf_X10_wordOf : GoodIn wsX10_tokenOf wsX10_wordOf := goodIn_r _ [15, 16, 17, 14, 18, 19, 20, 21, 22, 23, 24, 25, 26, 27, 28, 29, 30, 31, 32, 33, 34, 35, 36, 37, 38, 39, 40, 41, 42, 43, 44, 45, 46, 47, 48, 49, 50, 51, 52, 53, 54, 55, 56, 57, 58, 59, 60, 61, 62, 63, 64, 65, 66, 67, 68, 69, 70, 71, 7, 8, 4, 9, 10, 11, 140, 141] (by decide +kernel) (by decide +kernel)
set_option maxRecDepth 20000 in
theorem gX10_tokenOf_X10_wordOf : GoodIn wsX10_tokenOf (va_wsS RX10 47 yX10_wordOf wsX10_wordOf) := goodIn_app (goodIn_of _ (by decide +kernel)) ggX10_tokenOf_X10_wordOf
set_option maxRecDepth 20000 in
theorem ggX10_tokenOf_X7_isDigit : GoodIn wsX10_tokenOf wsX7_isDigit := goodIn_r _ [75, 6, 7, 8, 4, 9, 10, 11, 140, 141] (by decide +kernel) (by decide +kernel)
set_option maxRecDepth 20000 in
theorem gX10_tokenOf_X7_isDigit : GoodIn wsX10_tokenOf (wsV RX10 44 RX7 yX7_isDigit wsX7_isDigit) := goodIn_app (goodIn_of _ (by decide +kernel)) ggX10_tokenOf_X7_isDigit
set_option maxRecDepth 20000 in
theorem ggX10_tokenOf_X10_numberOf : GoodIn wsX10_tokenOf wsX10_numberOf := goodIn_r _ [78, 71, 7, 8, 4, 9, 10, 11, 140, 141] (by decide +kernel) (by decide +kernel)
set_option maxRecDepth 20000 in
theorem gX10_tokenOf_X10_numberOf : GoodIn wsX10_tokenOf (va_wsS RX10 50 yX10_numberOf wsX10_numberOf) := goodIn_app (goodIn_of _ (by decide +kernel)) ggX10_tokenOf_X10_numberOf
set_option maxRecDepth 20000 in
theorem ggX10_tokenOf_X7_letterAt : GoodIn wsX10_tokenOf wsX7_letterAt := goodIn_r _ [9, 10, 11, 140, 141] (by decide +kernel) (by decide +kernel)
set_option maxRecDepth 20000 in
theorem gX10_tokenOf_X7_letterAt : GoodIn wsX10_tokenOf (wsV RX10 55 RX7 yX7_letterAt wsX7_letterAt) := goodIn_app (goodIn_of _ (by decide +kernel)) ggX10_tokenOf_X7_letterAt
set_option maxRecDepth 20000 in
theorem ggX10_tokenOf_J0_indexOf_0f7a4 : GoodIn wsX10_tokenOf wsJ0_indexOf_0f7a4 := goodIn_r _ [82, 83, 84, 85, 25, 86, 27, 38, 39, 40, 41, 32, 33, 87, 23, 24, 26, 28, 29, 30, 31, 88, 89, 44, 90, 91, 92, 93, 94, 95, 96, 97, 98, 99, 100, 101, 102, 103, 104, 105, 56, 106, 107, 108, 109, 110, 111, 112, 113, 114, 115, 61, 62, 63, 116, 117, 118, 49, 119, 120, 52, 121, 122, 123, 124, 65, 66, 67, 68, 69, 70, 125, 126, 127, 128, 129, 130, 131, 132, 133, 134, 135, 136, 137, 138, 139] (by decide +kernel) (by decide +kernel)
set_option maxRecDepth 20000 in
theorem gX10_tokenOf_J0_indexOf_0f7a4 : GoodIn wsX10_tokenOf (wsV RX10 59 RJ0 yJ0_indexOf_0f7a4 wsJ0_indexOf_0f7a4) := goodIn_app (goodIn_of _ (by decide +kernel)) ggX10_tokenOf_J0_indexOf_0f7a4
theorem dX10_tokenOf_0 : decode cX10_tokenOf 0 = .ok (.aload_n 0, 1) := by decide +kernel
theorem dX10_tokenOf_1 : decode cX10_tokenOf 1 = .ok (.iload_n 1, 1) := by decide +kernel
theorem dX10_tokenOf_2 : decode cX10_tokenOf 2 = .ok (.invokevirtual 41, 3) := by decide +kernel
theorem dX10_tokenOf_5 : decode cX10_tokenOf 5 = .ok (.ifCond .eq 10, 3) := by decide +kernel
theorem dX10_tokenOf_8 : decode cX10_tokenOf 8 = .ok (.aload_n 0, 1) := by decide +kernel
theorem dX10_tokenOf_9 : decode cX10_tokenOf 9 = .ok (.iload_n 1, 1) := by decide +kernel
theorem dX10_tokenOf_10 : decode cX10_tokenOf 10 = .ok (.iload_n 2, 1) := by decide +kernel
theorem dX10_tokenOf_11 : decode cX10_tokenOf 11 = .ok (.invokestatic 47, 3) := by decide +kernel
theorem dX10_tokenOf_14 : decode cX10_tokenOf 14 = .ok (.ireturn, 1) := by decide +kernel
theorem dX10_tokenOf_15 : decode cX10_tokenOf 15 = .ok (.aload_n 0, 1) := by decide +kernel
theorem dX10_tokenOf_16 : decode cX10_tokenOf 16 = .ok (.iload_n 1, 1) := by decide +kernel
theorem dX10_tokenOf_17 : decode cX10_tokenOf 17 = .ok (.invokevirtual 44, 3) := by decide +kernel
theorem dX10_tokenOf_20 : decode cX10_tokenOf 20 = .ok (.ifCond .eq 10, 3) := by decide +kernel
theorem dX10_tokenOf_23 : decode cX10_tokenOf 23 = .ok (.aload_n 0, 1) := by decide +kernel
theorem dX10_tokenOf_24 : decode cX10_tokenOf 24 = .ok (.iload_n 1, 1) := by decide +kernel
theorem dX10_tokenOf_25 : decode cX10_tokenOf 25 = .ok (.iload_n 2, 1) := by decide +kernel
theorem dX10_tokenOf_26 : decode cX10_tokenOf 26 = .ok (.invokestatic 50, 3) := by decide +kernel
theorem dX10_tokenOf_29 : decode cX10_tokenOf 29 = .ok (.ireturn, 1) := by decide +kernel
theorem dX10_tokenOf_30 : decode cX10_tokenOf 30 = .ok (.ldc 53, 2) := by decide +kernel
theorem dX10_tokenOf_32 : decode cX10_tokenOf 32 = .ok (.aload_n 0, 1) := by decide +kernel
theorem dX10_tokenOf_33 : decode cX10_tokenOf 33 = .ok (.iload_n 1, 1) := by decide +kernel
theorem dX10_tokenOf_34 : decode cX10_tokenOf 34 = .ok (.invokevirtual 55, 3) := by decide +kernel
theorem dX10_tokenOf_37 : decode cX10_tokenOf 37 = .ok (.i2c, 1) := by decide +kernel
theorem dX10_tokenOf_38 : decode cX10_tokenOf 38 = .ok (.invokevirtual 59, 3) := by decide +kernel
theorem dX10_tokenOf_41 : decode cX10_tokenOf 41 = .ok (.istore_n 3, 1) := by decide +kernel
theorem dX10_tokenOf_42 : decode cX10_tokenOf 42 = .ok (.iload_n 3, 1) := by decide +kernel
theorem dX10_tokenOf_43 : decode cX10_tokenOf 43 = .ok (.ifCond .lt 10, 3) := by decide +kernel
theorem dX10_tokenOf_46 : decode cX10_tokenOf 46 = .ok (.bipush 12, 2) := by decide +kernel
theorem dX10_tokenOf_48 : decode cX10_tokenOf 48 = .ok (.iload_n 3, 1) := by decide +kernel
theorem dX10_tokenOf_49 : decode cX10_tokenOf 49 = .ok (.iadd, 1) := by decide +kernel
theorem dX10_tokenOf_50 : decode cX10_tokenOf 50 = .ok (.goto 5, 3) := by decide +kernel
theorem dX10_tokenOf_53 : decode cX10_tokenOf 53 = .ok (.bipush 22, 2) := by decide +kernel
theorem dX10_tokenOf_55 : decode cX10_tokenOf 55 = .ok (.ireturn, 1) := by decide +kernel
set_option maxRecDepth 20000 in
theorem ggX10_numberOf_X7_letterAt : GoodIn wsX10_numberOf wsX7_letterAt := goodIn_r _ [5, 6, 7, 8, 9] (by decide +kernel) (by decide +kernel)
set_option maxRecDepth 20000 in
theorem gX10_numberOf_X7_letterAt : GoodIn wsX10_numberOf (wsV RX10 55 RX7 yX7_letterAt wsX7_letterAt) := goodIn_app (goodIn_of _ (by decide +kernel)) ggX10_numberOf_X7_letterAt
theorem dX10_numberOf_0 : decode cX10_numberOf 0 = .ok (.iload_n 2, 1) := by decide +kernel
theorem dX10_numberOf_1 : decode cX10_numberOf 1 = .ok (.iload_n 1, 1) := by decide +kernel
theorem dX10_numberOf_2 : decode cX10_numberOf 2 = .ok (.isub, 1) := by decide +kernel
theorem dX10_numberOf_3 : decode cX10_numberOf 3 = .ok (.iconst 4, 1) := by decide +kernel
theorem dX10_numberOf_4 : decode cX10_numberOf 4 = .ok (.if_icmp .le 6, 3) := by decide +kernel
theorem dX10_numberOf_7 : decode cX10_numberOf 7 = .ok (.bipush 22, 2) := by decide +kernel
theorem dX10_numberOf_9 : decode cX10_numberOf 9 = .ok (.ireturn, 1) := by decide +kernel
theorem dX10_numberOf_10 : decode cX10_numberOf 10 = .ok (.iconst 0, 1) := by decide +kernel
theorem dX10_numberOf_11 : decode cX10_numberOf 11 = .ok (.istore_n 3, 1) := by decide +kernel
theorem dX10_numberOf_12 : decode cX10_numberOf 12 = .ok (.iload_n 1, 1) := by decide +kernel
theorem dX10_numberOf_13 : decode cX10_numberOf 13 = .ok (.istore 4, 2) := by decide +kernel
theorem dX10_numberOf_15 : decode cX10_numberOf 15 = .ok (.iload 4, 2) := by decide +kernel
theorem dX10_numberOf_17 : decode cX10_numberOf 17 = .ok (.iload_n 2, 1) := by decide +kernel
theorem dX10_numberOf_18 : decode cX10_numberOf 18 = .ok (.if_icmp .ge 24, 3) := by decide +kernel
theorem dX10_numberOf_21 : decode cX10_numberOf 21 = .ok (.bipush 10, 2) := by decide +kernel
theorem dX10_numberOf_23 : decode cX10_numberOf 23 = .ok (.iload_n 3, 1) := by decide +kernel
theorem dX10_numberOf_24 : decode cX10_numberOf 24 = .ok (.imul, 1) := by decide +kernel
theorem dX10_numberOf_25 : decode cX10_numberOf 25 = .ok (.aload_n 0, 1) := by decide +kernel
theorem dX10_numberOf_26 : decode cX10_numberOf 26 = .ok (.iload 4, 2) := by decide +kernel
theorem dX10_numberOf_28 : decode cX10_numberOf 28 = .ok (.invokevirtual 55, 3) := by decide +kernel
theorem dX10_numberOf_31 : decode cX10_numberOf 31 = .ok (.iadd, 1) := by decide +kernel
theorem dX10_numberOf_32 : decode cX10_numberOf 32 = .ok (.bipush 48, 2) := by decide +kernel
theorem dX10_numberOf_34 : decode cX10_numberOf 34 = .ok (.isub, 1) := by decide +kernel
theorem dX10_numberOf_35 : decode cX10_numberOf 35 = .ok (.istore_n 3, 1) := by decide +kernel
theorem dX10_numberOf_36 : decode cX10_numberOf 36 = .ok (.iinc 4 1, 3) := by decide +kernel
theorem dX10_numberOf_39 : decode cX10_numberOf 39 = .ok (.goto (-24), 3) := by decide +kernel
theorem dX10_numberOf_42 : decode cX10_numberOf 42 = .ok (.bipush 100, 2) := by decide +kernel
theorem dX10_numberOf_44 : decode cX10_numberOf 44 = .ok (.iload_n 3, 1) := by decide +kernel
theorem dX10_numberOf_45 : decode cX10_numberOf 45 = .ok (.iadd, 1) := by decide +kernel
theorem dX10_numberOf_46 : decode cX10_numberOf 46 = .ok (.ireturn, 1) := by decide +kernel
set_option maxRecDepth 20000 in
theorem ggX10_wordOf_X10_spellingOf : GoodIn wsX10_wordOf wsX10_spellingOf := goodIn_r _ [4] (by decide +kernel) (by decide +kernel)
set_option maxRecDepth 20000 in
theorem gX10_wordOf_X10_spellingOf : GoodIn wsX10_wordOf (va_wsS RX10 64 yX10_spellingOf wsX10_spellingOf) := goodIn_app (goodIn_of _ (by decide +kernel)) ggX10_wordOf_X10_spellingOf
set_option maxRecDepth 20000 in
theorem ggX10_wordOf_X10_isSpelt : GoodIn wsX10_wordOf wsX10_isSpelt := goodIn_r _ [7, 8, 9, 10, 11, 12, 13, 14, 15, 16, 17, 18, 19, 20, 21, 22, 23, 24, 25, 26, 27, 28, 29, 30, 31, 32, 33, 34, 35, 36, 37, 38, 39, 40, 41, 42, 43, 44, 45, 46, 47, 48, 49, 50, 51, 52, 53, 54, 55, 56, 57, 58, 59, 60, 61, 62, 63, 64, 65] (by decide +kernel) (by decide +kernel)
set_option maxRecDepth 20000 in
theorem gX10_wordOf_X10_isSpelt : GoodIn wsX10_wordOf (va_wsS RX10 68 yX10_isSpelt wsX10_isSpelt) := goodIn_app (goodIn_of _ (by decide +kernel)) ggX10_wordOf_X10_isSpelt
theorem dX10_wordOf_0 : decode cX10_wordOf 0 = .ok (.iconst 0, 1) := by decide +kernel
theorem dX10_wordOf_1 : decode cX10_wordOf 1 = .ok (.istore_n 3, 1) := by decide +kernel
theorem dX10_wordOf_2 : decode cX10_wordOf 2 = .ok (.iload_n 3, 1) := by decide +kernel
theorem dX10_wordOf_3 : decode cX10_wordOf 3 = .ok (.bipush 12, 2) := by decide +kernel
theorem dX10_wordOf_5 : decode cX10_wordOf 5 = .ok (.if_icmp .ge 24, 3) := by decide +kernel
theorem dX10_wordOf_8 : decode cX10_wordOf 8 = .ok (.iload_n 3, 1) := by decide +kernel
theorem dX10_wordOf_9 : decode cX10_wordOf 9 = .ok (.invokestatic 64, 3) := by decide +kernel
theorem dX10_wordOf_12 : decode cX10_wordOf 12 = .ok (.aload_n 0, 1) := by decide +kernel
theorem dX10_wordOf_13 : decode cX10_wordOf 13 = .ok (.iload_n 1, 1) := by decide +kernel
theorem dX10_wordOf_14 : decode cX10_wordOf 14 = .ok (.iload_n 2, 1) := by decide +kernel
theorem dX10_wordOf_15 : decode cX10_wordOf 15 = .ok (.invokestatic 68, 3) := by decide +kernel
theorem dX10_wordOf_18 : decode cX10_wordOf 18 = .ok (.ifCond .eq 5, 3) := by decide +kernel
theorem dX10_wordOf_21 : decode cX10_wordOf 21 = .ok (.iload_n 3, 1) := by decide +kernel
theorem dX10_wordOf_22 : decode cX10_wordOf 22 = .ok (.ireturn, 1) := by decide +kernel
theorem dX10_wordOf_23 : decode cX10_wordOf 23 = .ok (.iinc 3 1, 3) := by decide +kernel
theorem dX10_wordOf_26 : decode cX10_wordOf 26 = .ok (.goto (-24), 3) := by decide +kernel
theorem dX10_wordOf_29 : decode cX10_wordOf 29 = .ok (.bipush 22, 2) := by decide +kernel
theorem dX10_wordOf_31 : decode cX10_wordOf 31 = .ok (.ireturn, 1) := by decide +kernel
set_option maxRecDepth 20000 in
theorem ggX10_isSpelt_J0_length_8abf5 : GoodIn wsX10_isSpelt wsJ0_length_8abf5 := goodIn_r _ [5, 6, 7, 8, 9, 4, 10, 11, 12] (by decide +kernel) (by decide +kernel)
set_option maxRecDepth 20000 in
theorem gX10_isSpelt_J0_length_8abf5 : GoodIn wsX10_isSpelt (wsV RX10 72 RJ0 yJ0_length_8abf5 wsJ0_length_8abf5) := goodIn_app (goodIn_of _ (by decide +kernel)) ggX10_isSpelt_J0_length_8abf5
set_option maxRecDepth 20000 in
theorem ggX10_isSpelt_J0_charAt_5068e : GoodIn wsX10_isSpelt wsJ0_charAt_5068e := goodIn_r _ [16, 6, 17, 18, 19, 4, 20, 11, 12, 21, 22, 23, 24, 25, 26, 27, 28, 29, 30, 31, 32, 33, 34, 35, 36, 37, 38, 39, 40, 41, 42, 43, 44, 45, 46, 47, 48, 49] (by decide +kernel) (by decide +kernel)
set_option maxRecDepth 20000 in
theorem gX10_isSpelt_J0_charAt_5068e : GoodIn wsX10_isSpelt (wsV RX10 76 RJ0 yJ0_charAt_5068e wsJ0_charAt_5068e) := goodIn_app (goodIn_of _ (by decide +kernel)) ggX10_isSpelt_J0_charAt_5068e
set_option maxRecDepth 20000 in
theorem ggX10_isSpelt_X7_letterAt : GoodIn wsX10_isSpelt wsX7_letterAt := goodIn_r _ [54, 55, 56, 57, 58] (by decide +kernel) (by decide +kernel)
set_option maxRecDepth 20000 in
theorem gX10_isSpelt_X7_letterAt : GoodIn wsX10_isSpelt (wsV RX10 55 RX7 yX7_letterAt wsX7_letterAt) := goodIn_app (goodIn_of _ (by decide +kernel)) ggX10_isSpelt_X7_letterAt
theorem dX10_isSpelt_0 : decode cX10_isSpelt 0 = .ok (.aload_n 0, 1) := by decide +kernel
theorem dX10_isSpelt_1 : decode cX10_isSpelt 1 = .ok (.invokevirtual 72, 3) := by decide +kernel
theorem dX10_isSpelt_4 : decode cX10_isSpelt 4 = .ok (.iload_n 3, 1) := by decide +kernel
theorem dX10_isSpelt_5 : decode cX10_isSpelt 5 = .ok (.iload_n 2, 1) := by decide +kernel
theorem dX10_isSpelt_6 : decode cX10_isSpelt 6 = .ok (.isub, 1) := by decide +kernel
theorem dX10_isSpelt_7 : decode cX10_isSpelt 7 = .ok (.if_icmp .eq 5, 3) := by decide +kernel
theorem dX10_isSpelt_10 : decode cX10_isSpelt 10 = .ok (.iconst 0, 1) := by decide +kernel
theorem dX10_isSpelt_11 : decode cX10_isSpelt 11 = .ok (.ireturn, 1) := by decide +kernel
theorem dX10_isSpelt_12 : decode cX10_isSpelt 12 = .ok (.iconst 0, 1) := by decide +kernel
theorem dX10_isSpelt_13 : decode cX10_isSpelt 13 = .ok (.istore 4, 2) := by decide +kernel
theorem dX10_isSpelt_15 : decode cX10_isSpelt 15 = .ok (.iload 4, 2) := by decide +kernel
theorem dX10_isSpelt_17 : decode cX10_isSpelt 17 = .ok (.aload_n 0, 1) := by decide +kernel
theorem dX10_isSpelt_18 : decode cX10_isSpelt 18 = .ok (.invokevirtual 72, 3) := by decide +kernel
theorem dX10_isSpelt_21 : decode cX10_isSpelt 21 = .ok (.if_icmp .ge 28, 3) := by decide +kernel
theorem dX10_isSpelt_24 : decode cX10_isSpelt 24 = .ok (.aload_n 0, 1) := by decide +kernel
theorem dX10_isSpelt_25 : decode cX10_isSpelt 25 = .ok (.iload 4, 2) := by decide +kernel
theorem dX10_isSpelt_27 : decode cX10_isSpelt 27 = .ok (.invokevirtual 76, 3) := by decide +kernel
theorem dX10_isSpelt_30 : decode cX10_isSpelt 30 = .ok (.aload_n 1, 1) := by decide +kernel
theorem dX10_isSpelt_31 : decode cX10_isSpelt 31 = .ok (.iload_n 2, 1) := by decide +kernel
theorem dX10_isSpelt_32 : decode cX10_isSpelt 32 = .ok (.iload 4, 2) := by decide +kernel
theorem dX10_isSpelt_34 : decode cX10_isSpelt 34 = .ok (.iadd, 1) := by decide +kernel
theorem dX10_isSpelt_35 : decode cX10_isSpelt 35 = .ok (.invokevirtual 55, 3) := by decide +kernel
theorem dX10_isSpelt_38 : decode cX10_isSpelt 38 = .ok (.if_icmp .eq 5, 3) := by decide +kernel
theorem dX10_isSpelt_41 : decode cX10_isSpelt 41 = .ok (.iconst 0, 1) := by decide +kernel
theorem dX10_isSpelt_42 : decode cX10_isSpelt 42 = .ok (.ireturn, 1) := by decide +kernel
theorem dX10_isSpelt_43 : decode cX10_isSpelt 43 = .ok (.iinc 4 1, 3) := by decide +kernel
theorem dX10_isSpelt_46 : decode cX10_isSpelt 46 = .ok (.goto (-31), 3) := by decide +kernel
theorem dX10_isSpelt_49 : decode cX10_isSpelt 49 = .ok (.iconst 1, 1) := by decide +kernel
theorem dX10_isSpelt_50 : decode cX10_isSpelt 50 = .ok (.ireturn, 1) := by decide +kernel
theorem dX10_spellingOf_0 : decode cX10_spellingOf 0 = .ok (.iload_n 0, 1) := by decide +kernel
theorem dX10_spellingOf_1 : decode cX10_spellingOf 1 = .ok (.tableswitch 99 0 11 #[63, 66, 69, 72, 75, 78, 81, 84, 87, 90, 93, 96], 63) := by decide +kernel
theorem dX10_spellingOf_64 : decode cX10_spellingOf 64 = .ok (.ldc 80, 2) := by decide +kernel
theorem dX10_spellingOf_66 : decode cX10_spellingOf 66 = .ok (.areturn, 1) := by decide +kernel
theorem dX10_spellingOf_67 : decode cX10_spellingOf 67 = .ok (.ldc 82, 2) := by decide +kernel
theorem dX10_spellingOf_69 : decode cX10_spellingOf 69 = .ok (.areturn, 1) := by decide +kernel
theorem dX10_spellingOf_70 : decode cX10_spellingOf 70 = .ok (.ldc 84, 2) := by decide +kernel
theorem dX10_spellingOf_72 : decode cX10_spellingOf 72 = .ok (.areturn, 1) := by decide +kernel
theorem dX10_spellingOf_73 : decode cX10_spellingOf 73 = .ok (.ldc 86, 2) := by decide +kernel
theorem dX10_spellingOf_75 : decode cX10_spellingOf 75 = .ok (.areturn, 1) := by decide +kernel
theorem dX10_spellingOf_76 : decode cX10_spellingOf 76 = .ok (.ldc 88, 2) := by decide +kernel
theorem dX10_spellingOf_78 : decode cX10_spellingOf 78 = .ok (.areturn, 1) := by decide +kernel
theorem dX10_spellingOf_79 : decode cX10_spellingOf 79 = .ok (.ldc 90, 2) := by decide +kernel
theorem dX10_spellingOf_81 : decode cX10_spellingOf 81 = .ok (.areturn, 1) := by decide +kernel
theorem dX10_spellingOf_82 : decode cX10_spellingOf 82 = .ok (.ldc 92, 2) := by decide +kernel
theorem dX10_spellingOf_84 : decode cX10_spellingOf 84 = .ok (.areturn, 1) := by decide +kernel
theorem dX10_spellingOf_85 : decode cX10_spellingOf 85 = .ok (.ldc 94, 2) := by decide +kernel
theorem dX10_spellingOf_87 : decode cX10_spellingOf 87 = .ok (.areturn, 1) := by decide +kernel
theorem dX10_spellingOf_88 : decode cX10_spellingOf 88 = .ok (.ldc 96, 2) := by decide +kernel
theorem dX10_spellingOf_90 : decode cX10_spellingOf 90 = .ok (.areturn, 1) := by decide +kernel
theorem dX10_spellingOf_91 : decode cX10_spellingOf 91 = .ok (.ldc 98, 2) := by decide +kernel
theorem dX10_spellingOf_93 : decode cX10_spellingOf 93 = .ok (.areturn, 1) := by decide +kernel
theorem dX10_spellingOf_94 : decode cX10_spellingOf 94 = .ok (.ldc 100, 2) := by decide +kernel
theorem dX10_spellingOf_96 : decode cX10_spellingOf 96 = .ok (.areturn, 1) := by decide +kernel
theorem dX10_spellingOf_97 : decode cX10_spellingOf 97 = .ok (.ldc 102, 2) := by decide +kernel
theorem dX10_spellingOf_99 : decode cX10_spellingOf 99 = .ok (.areturn, 1) := by decide +kernel
theorem dX10_spellingOf_100 : decode cX10_spellingOf 100 = .ok (.ldc 104, 2) := by decide +kernel
theorem dX10_spellingOf_102 : decode cX10_spellingOf 102 = .ok (.areturn, 1) := by decide +kernel
set_option maxRecDepth 20000 in
theorem ggX11_init_X6_init : GoodIn wsX11_init wsX6_init := goodIn_r _ [41, 42, 2, 3, 43, 44, 45, 46, 47, 48, 49, 50, 51, 52, 53, 54, 55, 56, 325, 326, 327, 328, 329, 330, 331, 332, 360, 361, 362, 363, 364] (by decide +kernel) (by decide +kernel)
