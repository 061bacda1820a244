theorem dX0_init_0 : decode cX0_init 0 = .ok (.aload_n 0, 1) := by decide +kernel
theorem dX0_init_1 : decode cX0_init 1 = .ok (.invokespecial 1, 3) := by decide +kernel
theorem dX0_init_4 : decode cX0_init 4 = .ok (.aload_n 0, 1) := by decide +kernel
theorem dX0_init_5 : decode cX0_init 5 = .ok (.lconst 0, 1) := by decide +kernel
theorem dX0_init_6 : decode cX0_init 6 = .ok (.putfield 7, 3) := by decide +kernel
theorem dX0_init_9 : decode cX0_init 9 = .ok (.aload_n 0, 1) := by decide +kernel
theorem dX0_init_10 : decode cX0_init 10 = .ok (.lconst 0, 1) := by decide +kernel
theorem dX0_init_11 : decode cX0_init 11 = .ok (.putfield 13, 3) := by decide +kernel
theorem dX0_init_14 : decode cX0_init 14 = .ok (.return_, 1) := by decide +kernel
set_option maxRecDepth 20000 in
theorem ggX0_pay_X0_book : GoodIn wsX0_pay wsX0_book := goodIn_r _ [5, 6, 7, 8, 9] (by decide +kernel) (by decide +kernel)
set_option maxRecDepth 20000 in
theorem gX0_pay_X0_book : GoodIn wsX0_pay (wsV RX0 16 RX0 yX0_book wsX0_book) := goodIn_app (goodIn_of _ (by decide +kernel)) ggX0_pay_X0_book
theorem dX0_pay_0 : decode cX0_pay 0 = .ok (.aload_n 0, 1) := by decide +kernel
theorem dX0_pay_1 : decode cX0_pay 1 = .ok (.iload_n 2, 1) := by decide +kernel
theorem dX0_pay_2 : decode cX0_pay 2 = .ok (.ineg, 1) := by decide +kernel
theorem dX0_pay_3 : decode cX0_pay 3 = .ok (.invokevirtual 16, 3) := by decide +kernel
theorem dX0_pay_6 : decode cX0_pay 6 = .ok (.aload_n 1, 1) := by decide +kernel
theorem dX0_pay_7 : decode cX0_pay 7 = .ok (.iload_n 2, 1) := by decide +kernel
theorem dX0_pay_8 : decode cX0_pay 8 = .ok (.invokevirtual 16, 3) := by decide +kernel
theorem dX0_pay_11 : decode cX0_pay 11 = .ok (.return_, 1) := by decide +kernel
theorem dX0_book_0 : decode cX0_book 0 = .ok (.aload_n 0, 1) := by decide +kernel
theorem dX0_book_1 : decode cX0_book 1 = .ok (.dup, 1) := by decide +kernel
theorem dX0_book_2 : decode cX0_book 2 = .ok (.getfield 7, 3) := by decide +kernel
theorem dX0_book_5 : decode cX0_book 5 = .ok (.iload_n 1, 1) := by decide +kernel
theorem dX0_book_6 : decode cX0_book 6 = .ok (.i2l, 1) := by decide +kernel
theorem dX0_book_7 : decode cX0_book 7 = .ok (.ladd, 1) := by decide +kernel
theorem dX0_book_8 : decode cX0_book 8 = .ok (.putfield 7, 3) := by decide +kernel
theorem dX0_book_11 : decode cX0_book 11 = .ok (.aload_n 0, 1) := by decide +kernel
theorem dX0_book_12 : decode cX0_book 12 = .ok (.dup, 1) := by decide +kernel
theorem dX0_book_13 : decode cX0_book 13 = .ok (.getfield 13, 3) := by decide +kernel
theorem dX0_book_16 : decode cX0_book 16 = .ok (.iload_n 1, 1) := by decide +kernel
theorem dX0_book_17 : decode cX0_book 17 = .ok (.i2l, 1) := by decide +kernel
theorem dX0_book_18 : decode cX0_book 18 = .ok (.ladd, 1) := by decide +kernel
theorem dX0_book_19 : decode cX0_book 19 = .ok (.putfield 13, 3) := by decide +kernel
theorem dX0_book_22 : decode cX0_book 22 = .ok (.return_, 1) := by decide +kernel
theorem dX1_init_0 : decode cX1_init 0 = .ok (.aload_n 0, 1) := by decide +kernel
theorem dX1_init_1 : decode cX1_init 1 = .ok (.invokespecial 1, 3) := by decide +kernel
theorem dX1_init_4 : decode cX1_init 4 = .ok (.aload_n 0, 1) := by decide +kernel
theorem dX1_init_5 : decode cX1_init 5 = .ok (.iconst 0, 1) := by decide +kernel
theorem dX1_init_6 : decode cX1_init 6 = .ok (.putfield 7, 3) := by decide +kernel
theorem dX1_init_9 : decode cX1_init 9 = .ok (.aload_n 0, 1) := by decide +kernel
theorem dX1_init_10 : decode cX1_init 10 = .ok (.iload_n 1, 1) := by decide +kernel
theorem dX1_init_11 : decode cX1_init 11 = .ok (.putfield 13, 3) := by decide +kernel
theorem dX1_init_14 : decode cX1_init 14 = .ok (.aload_n 0, 1) := by decide +kernel
theorem dX1_init_15 : decode cX1_init 15 = .ok (.aload_n 2, 1) := by decide +kernel
theorem dX1_init_16 : decode cX1_init 16 = .ok (.putfield 16, 3) := by decide +kernel
theorem dX1_init_19 : decode cX1_init 19 = .ok (.aload_n 0, 1) := by decide +kernel
theorem dX1_init_20 : decode cX1_init 20 = .ok (.iload_n 3, 1) := by decide +kernel
theorem dX1_init_21 : decode cX1_init 21 = .ok (.putfield 20, 3) := by decide +kernel
theorem dX1_init_24 : decode cX1_init 24 = .ok (.aload_n 0, 1) := by decide +kernel
theorem dX1_init_25 : decode cX1_init 25 = .ok (.iload 4, 2) := by decide +kernel
theorem dX1_init_27 : decode cX1_init 27 = .ok (.putfield 23, 3) := by decide +kernel
theorem dX1_init_30 : decode cX1_init 30 = .ok (.return_, 1) := by decide +kernel
theorem dX1_cardBank_0 : decode cX1_cardBank 0 = .ok (.aload_n 0, 1) := by decide +kernel
theorem dX1_cardBank_1 : decode cX1_cardBank 1 = .ok (.getfield 16, 3) := by decide +kernel
theorem dX1_cardBank_4 : decode cX1_cardBank 4 = .ok (.getfield 26, 3) := by decide +kernel
theorem dX1_cardBank_7 : decode cX1_cardBank 7 = .ok (.getfield 32, 3) := by decide +kernel
theorem dX1_cardBank_10 : decode cX1_cardBank 10 = .ok (.areturn, 1) := by decide +kernel
theorem dX1_shopBank_0 : decode cX1_shopBank 0 = .ok (.aload_n 0, 1) := by decide +kernel
theorem dX1_shopBank_1 : decode cX1_shopBank 1 = .ok (.getfield 16, 3) := by decide +kernel
theorem dX1_shopBank_4 : decode cX1_shopBank 4 = .ok (.getfield 38, 3) := by decide +kernel
theorem dX1_shopBank_7 : decode cX1_shopBank 7 = .ok (.getfield 42, 3) := by decide +kernel
theorem dX1_shopBank_10 : decode cX1_shopBank 10 = .ok (.areturn, 1) := by decide +kernel
set_option maxRecDepth 20000 in
theorem ggX1_shareOf_X1_shopBank : GoodIn wsX1_shareOf wsX1_shopBank := goodIn_r _ [5, 6, 7, 8, 15, 16, 17, 18, 19, 20, 21, 22, 23, 24, 25, 26, 27, 28, 29] (by decide +kernel) (by decide +kernel)
set_option maxRecDepth 20000 in
theorem gX1_shareOf_X1_shopBank : GoodIn wsX1_shareOf (wsV RX1 45 RX1 yX1_shopBank wsX1_shopBank) := goodIn_app (goodIn_of _ (by decide +kernel)) ggX1_shareOf_X1_shopBank
set_option maxRecDepth 20000 in
theorem ggX1_shareOf_X1_cardBank : GoodIn wsX1_shareOf wsX1_cardBank := goodIn_r _ [12, 6, 13, 14, 15, 16, 17, 18, 19, 20, 21, 22, 23, 24, 25, 26, 30, 31] (by decide +kernel) (by decide +kernel)
set_option maxRecDepth 20000 in
theorem gX1_shareOf_X1_cardBank : GoodIn wsX1_shareOf (wsV RX1 49 RX1 yX1_cardBank wsX1_cardBank) := goodIn_app (goodIn_of _ (by decide +kernel)) ggX1_shareOf_X1_cardBank
theorem dX1_shareOf_0 : decode cX1_shareOf 0 = .ok (.iconst 0, 1) := by decide +kernel
theorem dX1_shareOf_1 : decode cX1_shareOf 1 = .ok (.istore_n 3, 1) := by decide +kernel
theorem dX1_shareOf_2 : decode cX1_shareOf 2 = .ok (.aload_n 0, 1) := by decide +kernel
theorem dX1_shareOf_3 : decode cX1_shareOf 3 = .ok (.invokevirtual 45, 3) := by decide +kernel
theorem dX1_shareOf_6 : decode cX1_shareOf 6 = .ok (.aload_n 1, 1) := by decide +kernel
theorem dX1_shareOf_7 : decode cX1_shareOf 7 = .ok (.if_acmp .ne 7, 3) := by decide +kernel
theorem dX1_shareOf_10 : decode cX1_shareOf 10 = .ok (.iload_n 3, 1) := by decide +kernel
theorem dX1_shareOf_11 : decode cX1_shareOf 11 = .ok (.iload_n 2, 1) := by decide +kernel
theorem dX1_shareOf_12 : decode cX1_shareOf 12 = .ok (.iadd, 1) := by decide +kernel
theorem dX1_shareOf_13 : decode cX1_shareOf 13 = .ok (.istore_n 3, 1) := by decide +kernel
theorem dX1_shareOf_14 : decode cX1_shareOf 14 = .ok (.aload_n 0, 1) := by decide +kernel
theorem dX1_shareOf_15 : decode cX1_shareOf 15 = .ok (.invokevirtual 49, 3) := by decide +kernel
theorem dX1_shareOf_18 : decode cX1_shareOf 18 = .ok (.aload_n 1, 1) := by decide +kernel
theorem dX1_shareOf_19 : decode cX1_shareOf 19 = .ok (.if_acmp .ne 7, 3) := by decide +kernel
theorem dX1_shareOf_22 : decode cX1_shareOf 22 = .ok (.iload_n 3, 1) := by decide +kernel
theorem dX1_shareOf_23 : decode cX1_shareOf 23 = .ok (.iload_n 2, 1) := by decide +kernel
theorem dX1_shareOf_24 : decode cX1_shareOf 24 = .ok (.isub, 1) := by decide +kernel
theorem dX1_shareOf_25 : decode cX1_shareOf 25 = .ok (.istore_n 3, 1) := by decide +kernel
theorem dX1_shareOf_26 : decode cX1_shareOf 26 = .ok (.iload_n 3, 1) := by decide +kernel
theorem dX1_shareOf_27 : decode cX1_shareOf 27 = .ok (.ireturn, 1) := by decide +kernel
theorem dX2_init_0 : decode cX2_init 0 = .ok (.aload_n 0, 1) := by decide +kernel
theorem dX2_init_1 : decode cX2_init 1 = .ok (.invokespecial 1, 3) := by decide +kernel
theorem dX2_init_4 : decode cX2_init 4 = .ok (.aload_n 0, 1) := by decide +kernel
theorem dX2_init_5 : decode cX2_init 5 = .ok (.iload_n 1, 1) := by decide +kernel
theorem dX2_init_6 : decode cX2_init 6 = .ok (.putfield 7, 3) := by decide +kernel
theorem dX2_init_9 : decode cX2_init 9 = .ok (.aload_n 0, 1) := by decide +kernel
theorem dX2_init_10 : decode cX2_init 10 = .ok (.aload_n 2, 1) := by decide +kernel
theorem dX2_init_11 : decode cX2_init 11 = .ok (.putfield 13, 3) := by decide +kernel
theorem dX2_init_14 : decode cX2_init 14 = .ok (.return_, 1) := by decide +kernel
theorem dX3_init_0 : decode cX3_init 0 = .ok (.aload_n 0, 1) := by decide +kernel
theorem dX3_init_1 : decode cX3_init 1 = .ok (.invokespecial 3, 3) := by decide +kernel
theorem dX3_init_4 : decode cX3_init 4 = .ok (.aload_n 0, 1) := by decide +kernel
theorem dX3_init_5 : decode cX3_init 5 = .ok (.iconst 0, 1) := by decide +kernel
theorem dX3_init_6 : decode cX3_init 6 = .ok (.putfield 9, 3) := by decide +kernel
theorem dX3_init_9 : decode cX3_init 9 = .ok (.aload_n 0, 1) := by decide +kernel
theorem dX3_init_10 : decode cX3_init 10 = .ok (.iload_n 1, 1) := by decide +kernel
theorem dX3_init_11 : decode cX3_init 11 = .ok (.putfield 15, 3) := by decide +kernel
theorem dX3_init_14 : decode cX3_init 14 = .ok (.aload_n 0, 1) := by decide +kernel
theorem dX3_init_15 : decode cX3_init 15 = .ok (.aload_n 2, 1) := by decide +kernel
theorem dX3_init_16 : decode cX3_init 16 = .ok (.putfield 18, 3) := by decide +kernel
theorem dX3_init_19 : decode cX3_init 19 = .ok (.aload_n 0, 1) := by decide +kernel
theorem dX3_init_20 : decode cX3_init 20 = .ok (.iload_n 3, 1) := by decide +kernel
theorem dX3_init_21 : decode cX3_init 21 = .ok (.putfield 22, 3) := by decide +kernel
theorem dX3_init_24 : decode cX3_init 24 = .ok (.aload_n 0, 1) := by decide +kernel
theorem dX3_init_25 : decode cX3_init 25 = .ok (.iload 4, 2) := by decide +kernel
theorem dX3_init_27 : decode cX3_init 27 = .ok (.putfield 25, 3) := by decide +kernel
theorem dX3_init_30 : decode cX3_init 30 = .ok (.return_, 1) := by decide +kernel
theorem dX3_hasDeadline_0 : decode cX3_hasDeadline 0 = .ok (.aload_n 0, 1) := by decide +kernel
theorem dX3_hasDeadline_1 : decode cX3_hasDeadline 1 = .ok (.getfield 9, 3) := by decide +kernel
theorem dX3_hasDeadline_4 : decode cX3_hasDeadline 4 = .ok (.ifCond .eq 11, 3) := by decide +kernel
theorem dX3_hasDeadline_7 : decode cX3_hasDeadline 7 = .ok (.aload_n 0, 1) := by decide +kernel
theorem dX3_hasDeadline_8 : decode cX3_hasDeadline 8 = .ok (.getfield 9, 3) := by decide +kernel
theorem dX3_hasDeadline_11 : decode cX3_hasDeadline 11 = .ok (.iconst 1, 1) := by decide +kernel
theorem dX3_hasDeadline_12 : decode cX3_hasDeadline 12 = .ok (.if_icmp .ne 7, 3) := by decide +kernel
theorem dX3_hasDeadline_15 : decode cX3_hasDeadline 15 = .ok (.iconst 1, 1) := by decide +kernel
theorem dX3_hasDeadline_16 : decode cX3_hasDeadline 16 = .ok (.goto 4, 3) := by decide +kernel
theorem dX3_hasDeadline_19 : decode cX3_hasDeadline 19 = .ok (.iconst 0, 1) := by decide +kernel
theorem dX3_hasDeadline_20 : decode cX3_hasDeadline 20 = .ok (.ireturn, 1) := by decide +kernel
theorem dX3_isWithCard_0 : decode cX3_isWithCard 0 = .ok (.aload_n 0, 1) := by decide +kernel
theorem dX3_isWithCard_1 : decode cX3_isWithCard 1 = .ok (.getfield 9, 3) := by decide +kernel
theorem dX3_isWithCard_4 : decode cX3_isWithCard 4 = .ok (.ifCond .eq 19, 3) := by decide +kernel
theorem dX3_isWithCard_7 : decode cX3_isWithCard 7 = .ok (.aload_n 0, 1) := by decide +kernel
theorem dX3_isWithCard_8 : decode cX3_isWithCard 8 = .ok (.getfield 9, 3) := by decide +kernel
theorem dX3_isWithCard_11 : decode cX3_isWithCard 11 = .ok (.iconst 2, 1) := by decide +kernel
theorem dX3_isWithCard_12 : decode cX3_isWithCard 12 = .ok (.if_icmp .eq 11, 3) := by decide +kernel
theorem dX3_isWithCard_15 : decode cX3_isWithCard 15 = .ok (.aload_n 0, 1) := by decide +kernel
theorem dX3_isWithCard_16 : decode cX3_isWithCard 16 = .ok (.getfield 9, 3) := by decide +kernel
theorem dX3_isWithCard_19 : decode cX3_isWithCard 19 = .ok (.iconst 3, 1) := by decide +kernel
theorem dX3_isWithCard_20 : decode cX3_isWithCard 20 = .ok (.if_icmp .ne 7, 3) := by decide +kernel
theorem dX3_isWithCard_23 : decode cX3_isWithCard 23 = .ok (.iconst 1, 1) := by decide +kernel
theorem dX3_isWithCard_24 : decode cX3_isWithCard 24 = .ok (.goto 4, 3) := by decide +kernel
theorem dX3_isWithCard_27 : decode cX3_isWithCard 27 = .ok (.iconst 0, 1) := by decide +kernel
theorem dX3_isWithCard_28 : decode cX3_isWithCard 28 = .ok (.ireturn, 1) := by decide +kernel
set_option maxRecDepth 20000 in
theorem ggX3_endIfLate_X3_hasDeadline : GoodIn wsX3_endIfLate wsX3_hasDeadline := goodIn_r _ [7, 2, 8, 9, 10, 11, 12] (by decide +kernel) (by decide +kernel)
set_option maxRecDepth 20000 in
theorem gX3_endIfLate_X3_hasDeadline : GoodIn wsX3_endIfLate (wsV RX3 28 RX3 yX3_hasDeadline wsX3_hasDeadline) := goodIn_app (goodIn_of _ (by decide +kernel)) ggX3_endIfLate_X3_hasDeadline
theorem dX3_endIfLate_0 : decode cX3_endIfLate 0 = .ok (.aload_n 0, 1) := by decide +kernel
theorem dX3_endIfLate_1 : decode cX3_endIfLate 1 = .ok (.invokevirtual 28, 3) := by decide +kernel
theorem dX3_endIfLate_4 : decode cX3_endIfLate 4 = .ok (.ifCond .eq 11, 3) := by decide +kernel
theorem dX3_endIfLate_7 : decode cX3_endIfLate 7 = .ok (.iload_n 1, 1) := by decide +kernel
theorem dX3_endIfLate_8 : decode cX3_endIfLate 8 = .ok (.aload_n 0, 1) := by decide +kernel
theorem dX3_endIfLate_9 : decode cX3_endIfLate 9 = .ok (.getfield 25, 3) := by decide +kernel
theorem dX3_endIfLate_12 : decode cX3_endIfLate 12 = .ok (.if_icmp .gt 4, 3) := by decide +kernel
theorem dX3_endIfLate_15 : decode cX3_endIfLate 15 = .ok (.return_, 1) := by decide +kernel
theorem dX3_endIfLate_16 : decode cX3_endIfLate 16 = .ok (.aload_n 0, 1) := by decide +kernel
theorem dX3_endIfLate_17 : decode cX3_endIfLate 17 = .ok (.aload_n 0, 1) := by decide +kernel
theorem dX3_endIfLate_18 : decode cX3_endIfLate 18 = .ok (.getfield 9, 3) := by decide +kernel
theorem dX3_endIfLate_21 : decode cX3_endIfLate 21 = .ok (.ifCond .ne 7, 3) := by decide +kernel
theorem dX3_endIfLate_24 : decode cX3_endIfLate 24 = .ok (.iconst 3, 1) := by decide +kernel
theorem dX3_endIfLate_25 : decode cX3_endIfLate 25 = .ok (.goto 4, 3) := by decide +kernel
theorem dX3_endIfLate_28 : decode cX3_endIfLate 28 = .ok (.iconst 4, 1) := by decide +kernel
theorem dX3_endIfLate_29 : decode cX3_endIfLate 29 = .ok (.putfield 9, 3) := by decide +kernel
theorem dX3_endIfLate_32 : decode cX3_endIfLate 32 = .ok (.aload_n 0, 1) := by decide +kernel
theorem dX3_endIfLate_33 : decode cX3_endIfLate 33 = .ok (.iconst (-1), 1) := by decide +kernel
theorem dX3_endIfLate_34 : decode cX3_endIfLate 34 = .ok (.putfield 25, 3) := by decide +kernel
theorem dX3_endIfLate_37 : decode cX3_endIfLate 37 = .ok (.return_, 1) := by decide +kernel
theorem dX3_isDueBefore_0 : decode cX3_isDueBefore 0 = .ok (.aload_n 0, 1) := by decide +kernel
theorem dX3_isDueBefore_1 : decode cX3_isDueBefore 1 = .ok (.getfield 25, 3) := by decide +kernel
theorem dX3_isDueBefore_4 : decode cX3_isDueBefore 4 = .ok (.aload_n 1, 1) := by decide +kernel
theorem dX3_isDueBefore_5 : decode cX3_isDueBefore 5 = .ok (.getfield 25, 3) := by decide +kernel
theorem dX3_isDueBefore_8 : decode cX3_isDueBefore 8 = .ok (.if_icmp .eq 20, 3) := by decide +kernel
theorem dX3_isDueBefore_11 : decode cX3_isDueBefore 11 = .ok (.aload_n 0, 1) := by decide +kernel
theorem dX3_isDueBefore_12 : decode cX3_isDueBefore 12 = .ok (.getfield 25, 3) := by decide +kernel
theorem dX3_isDueBefore_15 : decode cX3_isDueBefore 15 = .ok (.aload_n 1, 1) := by decide +kernel
theorem dX3_isDueBefore_16 : decode cX3_isDueBefore 16 = .ok (.getfield 25, 3) := by decide +kernel
theorem dX3_isDueBefore_19 : decode cX3_isDueBefore 19 = .ok (.if_icmp .ge 7, 3) := by decide +kernel
theorem dX3_isDueBefore_22 : decode cX3_isDueBefore 22 = .ok (.iconst 1, 1) := by decide +kernel
theorem dX3_isDueBefore_23 : decode cX3_isDueBefore 23 = .ok (.goto 4, 3) := by decide +kernel
theorem dX3_isDueBefore_26 : decode cX3_isDueBefore 26 = .ok (.iconst 0, 1) := by decide +kernel
theorem dX3_isDueBefore_27 : decode cX3_isDueBefore 27 = .ok (.ireturn, 1) := by decide +kernel
theorem dX3_isDueBefore_28 : decode cX3_isDueBefore 28 = .ok (.aload_n 0, 1) := by decide +kernel
theorem dX3_isDueBefore_29 : decode cX3_isDueBefore 29 = .ok (.getfield 22, 3) := by decide +kernel
theorem dX3_isDueBefore_32 : decode cX3_isDueBefore 32 = .ok (.aload_n 1, 1) := by decide +kernel
theorem dX3_isDueBefore_33 : decode cX3_isDueBefore 33 = .ok (.getfield 22, 3) := by decide +kernel
theorem dX3_isDueBefore_36 : decode cX3_isDueBefore 36 = .ok (.if_icmp .eq 20, 3) := by decide +kernel
theorem dX3_isDueBefore_39 : decode cX3_isDueBefore 39 = .ok (.aload_n 0, 1) := by decide +kernel
theorem dX3_isDueBefore_40 : decode cX3_isDueBefore 40 = .ok (.getfield 22, 3) := by decide +kernel
theorem dX3_isDueBefore_43 : decode cX3_isDueBefore 43 = .ok (.aload_n 1, 1) := by decide +kernel
theorem dX3_isDueBefore_44 : decode cX3_isDueBefore 44 = .ok (.getfield 22, 3) := by decide +kernel
theorem dX3_isDueBefore_47 : decode cX3_isDueBefore 47 = .ok (.if_icmp .le 7, 3) := by decide +kernel
theorem dX3_isDueBefore_50 : decode cX3_isDueBefore 50 = .ok (.iconst 1, 1) := by decide +kernel
theorem dX3_isDueBefore_51 : decode cX3_isDueBefore 51 = .ok (.goto 4, 3) := by decide +kernel
theorem dX3_isDueBefore_54 : decode cX3_isDueBefore 54 = .ok (.iconst 0, 1) := by decide +kernel
theorem dX3_isDueBefore_55 : decode cX3_isDueBefore 55 = .ok (.ireturn, 1) := by decide +kernel
theorem dX3_isDueBefore_56 : decode cX3_isDueBefore 56 = .ok (.aload_n 0, 1) := by decide +kernel
theorem dX3_isDueBefore_57 : decode cX3_isDueBefore 57 = .ok (.getfield 15, 3) := by decide +kernel
theorem dX3_isDueBefore_60 : decode cX3_isDueBefore 60 = .ok (.aload_n 1, 1) := by decide +kernel
theorem dX3_isDueBefore_61 : decode cX3_isDueBefore 61 = .ok (.getfield 15, 3) := by decide +kernel
theorem dX3_isDueBefore_64 : decode cX3_isDueBefore 64 = .ok (.if_icmp .ge 7, 3) := by decide +kernel
theorem dX3_isDueBefore_67 : decode cX3_isDueBefore 67 = .ok (.iconst 1, 1) := by decide +kernel
theorem dX3_isDueBefore_68 : decode cX3_isDueBefore 68 = .ok (.goto 4, 3) := by decide +kernel
theorem dX3_isDueBefore_71 : decode cX3_isDueBefore 71 = .ok (.iconst 0, 1) := by decide +kernel
theorem dX3_isDueBefore_72 : decode cX3_isDueBefore 72 = .ok (.ireturn, 1) := by decide +kernel
theorem dX4_init_0 : decode cX4_init 0 = .ok (.aload_n 0, 1) := by decide +kernel
theorem dX4_init_1 : decode cX4_init 1 = .ok (.invokespecial 3, 3) := by decide +kernel
theorem dX4_init_4 : decode cX4_init 4 = .ok (.aload_n 0, 1) := by decide +kernel
theorem dX4_init_5 : decode cX4_init 5 = .ok (.bipush 10, 2) := by decide +kernel
theorem dX4_init_7 : decode cX4_init 7 = .ok (.putfield 9, 3) := by decide +kernel
theorem dX4_init_10 : decode cX4_init 10 = .ok (.aload_n 0, 1) := by decide +kernel
theorem dX4_init_11 : decode cX4_init 11 = .ok (.sipush 500, 3) := by decide +kernel
theorem dX4_init_14 : decode cX4_init 14 = .ok (.putfield 15, 3) := by decide +kernel
theorem dX4_init_17 : decode cX4_init 17 = .ok (.aload_n 0, 1) := by decide +kernel
theorem dX4_init_18 : decode cX4_init 18 = .ok (.iload_n 1, 1) := by decide +kernel
theorem dX4_init_19 : decode cX4_init 19 = .ok (.putfield 18, 3) := by decide +kernel
theorem dX4_init_22 : decode cX4_init 22 = .ok (.return_, 1) := by decide +kernel
theorem dX4_feeOf_0 : decode cX4_feeOf 0 = .ok (.aload_n 0, 1) := by decide +kernel
theorem dX4_feeOf_1 : decode cX4_feeOf 1 = .ok (.getfield 15, 3) := by decide +kernel
theorem dX4_feeOf_4 : decode cX4_feeOf 4 = .ok (.iload_n 1, 1) := by decide +kernel
theorem dX4_feeOf_5 : decode cX4_feeOf 5 = .ok (.aload_n 0, 1) := by decide +kernel
theorem dX4_feeOf_6 : decode cX4_feeOf 6 = .ok (.getfield 9, 3) := by decide +kernel
theorem dX4_feeOf_9 : decode cX4_feeOf 9 = .ok (.imul, 1) := by decide +kernel
theorem dX4_feeOf_10 : decode cX4_feeOf 10 = .ok (.sipush 1000, 3) := by decide +kernel
theorem dX4_feeOf_13 : decode cX4_feeOf 13 = .ok (.idiv, 1) := by decide +kernel
theorem dX4_feeOf_14 : decode cX4_feeOf 14 = .ok (.invokestatic 21, 3) := by decide +kernel
theorem dX4_feeOf_17 : decode cX4_feeOf 17 = .ok (.ireturn, 1) := by decide +kernel
theorem dX5_init_0 : decode cX5_init 0 = .ok (.aload_n 0, 1) := by decide +kernel
theorem dX5_init_1 : decode cX5_init 1 = .ok (.invokespecial 1, 3) := by decide +kernel
theorem dX5_init_4 : decode cX5_init 4 = .ok (.aload_n 0, 1) := by decide +kernel
theorem dX5_init_5 : decode cX5_init 5 = .ok (.iconst 0, 1) := by decide +kernel
theorem dX5_init_6 : decode cX5_init 6 = .ok (.putfield 7, 3) := by decide +kernel
theorem dX5_init_9 : decode cX5_init 9 = .ok (.aload_n 0, 1) := by decide +kernel
theorem dX5_init_10 : decode cX5_init 10 = .ok (.iconst 0, 1) := by decide +kernel
theorem dX5_init_11 : decode cX5_init 11 = .ok (.putfield 13, 3) := by decide +kernel
theorem dX5_init_14 : decode cX5_init 14 = .ok (.aload_n 0, 1) := by decide +kernel
theorem dX5_init_15 : decode cX5_init 15 = .ok (.iload_n 1, 1) := by decide +kernel
theorem dX5_init_16 : decode cX5_init 16 = .ok (.putfield 17, 3) := by decide +kernel
theorem dX5_init_19 : decode cX5_init 19 = .ok (.aload_n 0, 1) := by decide +kernel
theorem dX5_init_20 : decode cX5_init 20 = .ok (.aload_n 2, 1) := by decide +kernel
theorem dX5_init_21 : decode cX5_init 21 = .ok (.putfield 20, 3) := by decide +kernel
theorem dX5_init_24 : decode cX5_init 24 = .ok (.aload_n 0, 1) := by decide +kernel
theorem dX5_init_25 : decode cX5_init 25 = .ok (.aload_n 3, 1) := by decide +kernel
theorem dX5_init_26 : decode cX5_init 26 = .ok (.putfield 24, 3) := by decide +kernel
theorem dX5_init_29 : decode cX5_init 29 = .ok (.aload_n 0, 1) := by decide +kernel
theorem dX5_init_30 : decode cX5_init 30 = .ok (.iload 4, 2) := by decide +kernel
theorem dX5_init_32 : decode cX5_init 32 = .ok (.putfield 28, 3) := by decide +kernel
theorem dX5_init_35 : decode cX5_init 35 = .ok (.aload_n 0, 1) := by decide +kernel
theorem dX5_init_36 : decode cX5_init 36 = .ok (.iload 5, 2) := by decide +kernel
theorem dX5_init_38 : decode cX5_init 38 = .ok (.putfield 31, 3) := by decide +kernel
theorem dX5_init_41 : decode cX5_init 41 = .ok (.return_, 1) := by decide +kernel
theorem dX5_isAlive_0 : decode cX5_isAlive 0 = .ok (.aload_n 0, 1) := by decide +kernel
theorem dX5_isAlive_1 : decode cX5_isAlive 1 = .ok (.getfield 13, 3) := by decide +kernel
theorem dX5_isAlive_4 : decode cX5_isAlive 4 = .ok (.ifCond .ne 15, 3) := by decide +kernel
theorem dX5_isAlive_7 : decode cX5_isAlive 7 = .ok (.iload_n 1, 1) := by decide +kernel
theorem dX5_isAlive_8 : decode cX5_isAlive 8 = .ok (.aload_n 0, 1) := by decide +kernel
theorem dX5_isAlive_9 : decode cX5_isAlive 9 = .ok (.getfield 31, 3) := by decide +kernel
theorem dX5_isAlive_12 : decode cX5_isAlive 12 = .ok (.if_icmp .gt 7, 3) := by decide +kernel
theorem dX5_isAlive_15 : decode cX5_isAlive 15 = .ok (.iconst 1, 1) := by decide +kernel
theorem dX5_isAlive_16 : decode cX5_isAlive 16 = .ok (.goto 4, 3) := by decide +kernel
theorem dX5_isAlive_19 : decode cX5_isAlive 19 = .ok (.iconst 0, 1) := by decide +kernel
theorem dX5_isAlive_20 : decode cX5_isAlive 20 = .ok (.ireturn, 1) := by decide +kernel
theorem dX5_left_0 : decode cX5_left 0 = .ok (.aload_n 0, 1) := by decide +kernel
theorem dX5_left_1 : decode cX5_left 1 = .ok (.getfield 28, 3) := by decide +kernel
theorem dX5_left_4 : decode cX5_left 4 = .ok (.aload_n 0, 1) := by decide +kernel
theorem dX5_left_5 : decode cX5_left 5 = .ok (.getfield 7, 3) := by decide +kernel
theorem dX5_left_8 : decode cX5_left 8 = .ok (.isub, 1) := by decide +kernel
theorem dX5_left_9 : decode cX5_left 9 = .ok (.ireturn, 1) := by decide +kernel
theorem dX6_init_0 : decode cX6_init 0 = .ok (.aload_n 0, 1) := by decide +kernel
theorem dX6_init_1 : decode cX6_init 1 = .ok (.invokespecial 1, 3) := by decide +kernel
theorem dX6_init_4 : decode cX6_init 4 = .ok (.aload_n 0, 1) := by decide +kernel
theorem dX6_init_5 : decode cX6_init 5 = .ok (.iload_n 1, 1) := by decide +kernel
theorem dX6_init_6 : decode cX6_init 6 = .ok (.putfield 7, 3) := by decide +kernel
theorem dX6_init_9 : decode cX6_init 9 = .ok (.aload_n 0, 1) := by decide +kernel
theorem dX6_init_10 : decode cX6_init 10 = .ok (.aload_n 2, 1) := by decide +kernel
theorem dX6_init_11 : decode cX6_init 11 = .ok (.putfield 13, 3) := by decide +kernel
theorem dX6_init_14 : decode cX6_init 14 = .ok (.aload_n 0, 1) := by decide +kernel
theorem dX6_init_15 : decode cX6_init 15 = .ok (.aload_n 3, 1) := by decide +kernel
theorem dX6_init_16 : decode cX6_init 16 = .ok (.putfield 17, 3) := by decide +kernel
theorem dX6_init_19 : decode cX6_init 19 = .ok (.return_, 1) := by decide +kernel
set_option maxRecDepth 20000 in
theorem ggX7_init_Jx4a65c_init_da8c8 : GoodIn wsX7_init wsJx4a65c_init_da8c8 := goodIn_r _ [29, 30, 31, 32, 33, 34, 35, 36, 37, 38, 39, 40, 41, 2, 3, 75, 76, 77] (by decide +kernel) (by decide +kernel)
set_option maxRecDepth 20000 in
theorem gX7_init_Jx4a65c_init_da8c8 : GoodIn wsX7_init (wsJx4a65c_init_da8c8) := ggX7_init_Jx4a65c_init_da8c8
set_option maxRecDepth 20000 in
theorem ggX7_init_X0_init : GoodIn wsX7_init wsX0_init := goodIn_r _ [43, 44, 2, 3, 45, 46, 78, 79] (by decide +kernel) (by decide +kernel)
set_option maxRecDepth 20000 in
theorem gX7_init_X0_init_n50 : GoodIn wsX7_init (wsX0_init) := ggX7_init_X0_init
set_option maxRecDepth 20000 in
theorem ggX7_init_X4_init : GoodIn wsX7_init wsX4_init := goodIn_r _ [49, 50, 2, 3, 51, 52, 53, 80, 81, 82] (by decide +kernel) (by decide +kernel)
set_option maxRecDepth 20000 in
theorem gX7_init_X4_init : GoodIn wsX7_init (wsX4_init) := ggX7_init_X4_init
set_option maxRecDepth 20000 in
theorem ggX7_init_X6_init : GoodIn wsX7_init wsX6_init := goodIn_r _ [56, 57, 2, 3, 58, 59, 60, 83, 84, 85] (by decide +kernel) (by decide +kernel)
set_option maxRecDepth 20000 in
theorem gX7_init_X6_init : GoodIn wsX7_init (wsX6_init) := ggX7_init_X6_init
set_option maxRecDepth 20000 in
theorem ggX7_init_X2_init : GoodIn wsX7_init wsX2_init := goodIn_r _ [63, 64, 2, 3, 65, 66, 86, 87] (by decide +kernel) (by decide +kernel)
set_option maxRecDepth 20000 in
theorem gX7_init_X2_init : GoodIn wsX7_init (wsX2_init) := ggX7_init_X2_init
theorem dX7_init_0 : decode cX7_init 0 = .ok (.aload_n 0, 1) := by decide +kernel
theorem dX7_init_1 : decode cX7_init 1 = .ok (.invokespecial 1, 3) := by decide +kernel
theorem dX7_init_4 : decode cX7_init 4 = .ok (.aload_n 0, 1) := by decide +kernel
theorem dX7_init_5 : decode cX7_init 5 = .ok (.iconst 4, 1) := by decide +kernel
theorem dX7_init_6 : decode cX7_init 6 = .ok (.anewarray 9, 3) := by decide +kernel
theorem dX7_init_9 : decode cX7_init 9 = .ok (.putfield 11, 3) := by decide +kernel
theorem dX7_init_12 : decode cX7_init 12 = .ok (.aload_n 0, 1) := by decide +kernel
theorem dX7_init_13 : decode cX7_init 13 = .ok (.iconst 3, 1) := by decide +kernel
theorem dX7_init_14 : decode cX7_init 14 = .ok (.anewarray 15, 3) := by decide +kernel
theorem dX7_init_17 : decode cX7_init 17 = .ok (.putfield 17, 3) := by decide +kernel
theorem dX7_init_20 : decode cX7_init 20 = .ok (.aload_n 0, 1) := by decide +kernel
theorem dX7_init_21 : decode cX7_init 21 = .ok (.bipush 8, 2) := by decide +kernel
theorem dX7_init_23 : decode cX7_init 23 = .ok (.anewarray 21, 3) := by decide +kernel
theorem dX7_init_26 : decode cX7_init 26 = .ok (.putfield 23, 3) := by decide +kernel
theorem dX7_init_29 : decode cX7_init 29 = .ok (.aload_n 0, 1) := by decide +kernel
theorem dX7_init_30 : decode cX7_init 30 = .ok (.bipush 12, 2) := by decide +kernel
theorem dX7_init_32 : decode cX7_init 32 = .ok (.anewarray 27, 3) := by decide +kernel
theorem dX7_init_35 : decode cX7_init 35 = .ok (.putfield 29, 3) := by decide +kernel
theorem dX7_init_38 : decode cX7_init 38 = .ok (.aload_n 0, 1) := by decide +kernel
theorem dX7_init_39 : decode cX7_init 39 = .ok (.new 33, 3) := by decide +kernel
theorem dX7_init_42 : decode cX7_init 42 = .ok (.dup, 1) := by decide +kernel
theorem dX7_init_43 : decode cX7_init 43 = .ok (.invokespecial 35, 3) := by decide +kernel
theorem dX7_init_46 : decode cX7_init 46 = .ok (.putfield 36, 3) := by decide +kernel
theorem dX7_init_49 : decode cX7_init 49 = .ok (.aload_n 0, 1) := by decide +kernel
theorem dX7_init_50 : decode cX7_init 50 = .ok (.new 33, 3) := by decide +kernel
theorem dX7_init_53 : decode cX7_init 53 = .ok (.dup, 1) := by decide +kernel
theorem dX7_init_54 : decode cX7_init 54 = .ok (.invokespecial 35, 3) := by decide +kernel
theorem dX7_init_57 : decode cX7_init 57 = .ok (.putfield 40, 3) := by decide +kernel
theorem dX7_init_60 : decode cX7_init 60 = .ok (.aload_n 0, 1) := by decide +kernel
theorem dX7_init_61 : decode cX7_init 61 = .ok (.new 33, 3) := by decide +kernel
theorem dX7_init_64 : decode cX7_init 64 = .ok (.dup, 1) := by decide +kernel
theorem dX7_init_65 : decode cX7_init 65 = .ok (.invokespecial 35, 3) := by decide +kernel
theorem dX7_init_68 : decode cX7_init 68 = .ok (.putfield 43, 3) := by decide +kernel
theorem dX7_init_71 : decode cX7_init 71 = .ok (.aload_n 0, 1) := by decide +kernel
theorem dX7_init_72 : decode cX7_init 72 = .ok (.iconst 0, 1) := by decide +kernel
theorem dX7_init_73 : decode cX7_init 73 = .ok (.putfield 46, 3) := by decide +kernel
theorem dX7_init_76 : decode cX7_init 76 = .ok (.iconst 0, 1) := by decide +kernel
theorem dX7_init_77 : decode cX7_init 77 = .ok (.istore_n 1, 1) := by decide +kernel
theorem dX7_init_78 : decode cX7_init 78 = .ok (.iload_n 1, 1) := by decide +kernel
theorem dX7_init_79 : decode cX7_init 79 = .ok (.iconst 4, 1) := by decide +kernel
theorem dX7_init_80 : decode cX7_init 80 = .ok (.if_icmp .ge 22, 3) := by decide +kernel
theorem dX7_init_83 : decode cX7_init 83 = .ok (.aload_n 0, 1) := by decide +kernel
theorem dX7_init_84 : decode cX7_init 84 = .ok (.getfield 11, 3) := by decide +kernel
theorem dX7_init_87 : decode cX7_init 87 = .ok (.iload_n 1, 1) := by decide +kernel
theorem dX7_init_88 : decode cX7_init 88 = .ok (.new 9, 3) := by decide +kernel
theorem dX7_init_91 : decode cX7_init 91 = .ok (.dup, 1) := by decide +kernel
theorem dX7_init_92 : decode cX7_init 92 = .ok (.invokespecial 50, 3) := by decide +kernel
theorem dX7_init_95 : decode cX7_init 95 = .ok (.aastore, 1) := by decide +kernel
theorem dX7_init_96 : decode cX7_init 96 = .ok (.iinc 1 1, 3) := by decide +kernel
theorem dX7_init_99 : decode cX7_init 99 = .ok (.goto (-21), 3) := by decide +kernel
theorem dX7_init_102 : decode cX7_init 102 = .ok (.iconst 0, 1) := by decide +kernel
theorem dX7_init_103 : decode cX7_init 103 = .ok (.istore_n 1, 1) := by decide +kernel
theorem dX7_init_104 : decode cX7_init 104 = .ok (.iload_n 1, 1) := by decide +kernel
theorem dX7_init_105 : decode cX7_init 105 = .ok (.iconst 3, 1) := by decide +kernel
theorem dX7_init_106 : decode cX7_init 106 = .ok (.if_icmp .ge 23, 3) := by decide +kernel
theorem dX7_init_109 : decode cX7_init 109 = .ok (.aload_n 0, 1) := by decide +kernel
theorem dX7_init_110 : decode cX7_init 110 = .ok (.getfield 17, 3) := by decide +kernel
theorem dX7_init_113 : decode cX7_init 113 = .ok (.iload_n 1, 1) := by decide +kernel
theorem dX7_init_114 : decode cX7_init 114 = .ok (.new 15, 3) := by decide +kernel
theorem dX7_init_117 : decode cX7_init 117 = .ok (.dup, 1) := by decide +kernel
theorem dX7_init_118 : decode cX7_init 118 = .ok (.iload_n 1, 1) := by decide +kernel
theorem dX7_init_119 : decode cX7_init 119 = .ok (.invokespecial 51, 3) := by decide +kernel
theorem dX7_init_122 : decode cX7_init 122 = .ok (.aastore, 1) := by decide +kernel
theorem dX7_init_123 : decode cX7_init 123 = .ok (.iinc 1 1, 3) := by decide +kernel
theorem dX7_init_126 : decode cX7_init 126 = .ok (.goto (-22), 3) := by decide +kernel
theorem dX7_init_129 : decode cX7_init 129 = .ok (.iconst 0, 1) := by decide +kernel
theorem dX7_init_130 : decode cX7_init 130 = .ok (.istore_n 1, 1) := by decide +kernel
theorem dX7_init_131 : decode cX7_init 131 = .ok (.iload_n 1, 1) := by decide +kernel
theorem dX7_init_132 : decode cX7_init 132 = .ok (.bipush 8, 2) := by decide +kernel
theorem dX7_init_134 : decode cX7_init 134 = .ok (.if_icmp .ge 37, 3) := by decide +kernel
theorem dX7_init_137 : decode cX7_init 137 = .ok (.aload_n 0, 1) := by decide +kernel
theorem dX7_init_138 : decode cX7_init 138 = .ok (.getfield 23, 3) := by decide +kernel
theorem dX7_init_141 : decode cX7_init 141 = .ok (.iload_n 1, 1) := by decide +kernel
theorem dX7_init_142 : decode cX7_init 142 = .ok (.new 21, 3) := by decide +kernel
theorem dX7_init_145 : decode cX7_init 145 = .ok (.dup, 1) := by decide +kernel
theorem dX7_init_146 : decode cX7_init 146 = .ok (.iload_n 1, 1) := by decide +kernel
theorem dX7_init_147 : decode cX7_init 147 = .ok (.aload_n 0, 1) := by decide +kernel
theorem dX7_init_148 : decode cX7_init 148 = .ok (.getfield 11, 3) := by decide +kernel
theorem dX7_init_151 : decode cX7_init 151 = .ok (.iload_n 1, 1) := by decide +kernel
theorem dX7_init_152 : decode cX7_init 152 = .ok (.iconst 4, 1) := by decide +kernel
theorem dX7_init_153 : decode cX7_init 153 = .ok (.irem, 1) := by decide +kernel
theorem dX7_init_154 : decode cX7_init 154 = .ok (.aaload, 1) := by decide +kernel
theorem dX7_init_155 : decode cX7_init 155 = .ok (.aload_n 0, 1) := by decide +kernel
theorem dX7_init_156 : decode cX7_init 156 = .ok (.getfield 17, 3) := by decide +kernel
theorem dX7_init_159 : decode cX7_init 159 = .ok (.iconst 0, 1) := by decide +kernel
theorem dX7_init_160 : decode cX7_init 160 = .ok (.aaload, 1) := by decide +kernel
theorem dX7_init_161 : decode cX7_init 161 = .ok (.invokespecial 54, 3) := by decide +kernel
theorem dX7_init_164 : decode cX7_init 164 = .ok (.aastore, 1) := by decide +kernel
theorem dX7_init_165 : decode cX7_init 165 = .ok (.iinc 1 1, 3) := by decide +kernel
theorem dX7_init_168 : decode cX7_init 168 = .ok (.goto (-37), 3) := by decide +kernel
theorem dX7_init_171 : decode cX7_init 171 = .ok (.iconst 0, 1) := by decide +kernel
theorem dX7_init_172 : decode cX7_init 172 = .ok (.istore_n 1, 1) := by decide +kernel
theorem dX7_init_173 : decode cX7_init 173 = .ok (.iload_n 1, 1) := by decide +kernel
theorem dX7_init_174 : decode cX7_init 174 = .ok (.bipush 12, 2) := by decide +kernel
theorem dX7_init_176 : decode cX7_init 176 = .ok (.if_icmp .ge 31, 3) := by decide +kernel
theorem dX7_init_179 : decode cX7_init 179 = .ok (.aload_n 0, 1) := by decide +kernel
theorem dX7_init_180 : decode cX7_init 180 = .ok (.getfield 29, 3) := by decide +kernel
theorem dX7_init_183 : decode cX7_init 183 = .ok (.iload_n 1, 1) := by decide +kernel
theorem dX7_init_184 : decode cX7_init 184 = .ok (.new 27, 3) := by decide +kernel
theorem dX7_init_187 : decode cX7_init 187 = .ok (.dup, 1) := by decide +kernel
theorem dX7_init_188 : decode cX7_init 188 = .ok (.iload_n 1, 1) := by decide +kernel
theorem dX7_init_189 : decode cX7_init 189 = .ok (.aload_n 0, 1) := by decide +kernel
theorem dX7_init_190 : decode cX7_init 190 = .ok (.getfield 11, 3) := by decide +kernel
theorem dX7_init_193 : decode cX7_init 193 = .ok (.iload_n 1, 1) := by decide +kernel
theorem dX7_init_194 : decode cX7_init 194 = .ok (.iconst 3, 1) := by decide +kernel
theorem dX7_init_195 : decode cX7_init 195 = .ok (.idiv, 1) := by decide +kernel
theorem dX7_init_196 : decode cX7_init 196 = .ok (.aaload, 1) := by decide +kernel
theorem dX7_init_197 : decode cX7_init 197 = .ok (.invokespecial 57, 3) := by decide +kernel
theorem dX7_init_200 : decode cX7_init 200 = .ok (.aastore, 1) := by decide +kernel
theorem dX7_init_201 : decode cX7_init 201 = .ok (.iinc 1 1, 3) := by decide +kernel
theorem dX7_init_204 : decode cX7_init 204 = .ok (.goto (-31), 3) := by decide +kernel
theorem dX7_init_207 : decode cX7_init 207 = .ok (.return_, 1) := by decide +kernel
set_option maxRecDepth 20000 in
theorem ggX7_shop_X7_shopAt : GoodIn wsX7_shop wsX7_shopAt := goodIn_ca (goodIn_r _ [7, 8, 9, 10, 22, 23, 24, 25, 26, 27, 28, 29] (by decide +kernel) (by decide +kernel)) (goodIn_sub (fun _ h => List.mem_cons_of_mem _ (List.mem_append_right _ h)) (by decide +kernel))
set_option maxRecDepth 20000 in
theorem gX7_shop_X7_shopAt : GoodIn wsX7_shop (wsV RX7 60 RX7 yX7_shopAt wsX7_shopAt) := goodIn_app (goodIn_of _ (by decide +kernel)) ggX7_shop_X7_shopAt
set_option maxRecDepth 20000 in
theorem ggX7_shop_X7_kindAt : GoodIn wsX7_shop wsX7_kindAt := goodIn_ca (goodIn_r _ [14, 8, 9, 15, 22, 23, 24, 25, 26, 27, 28, 29] (by decide +kernel) (by decide +kernel)) (goodIn_sub (fun _ h => List.mem_cons_of_mem _ (List.mem_append_right _ h)) (by decide +kernel))
set_option maxRecDepth 20000 in
theorem gX7_shop_X7_kindAt : GoodIn wsX7_shop (wsV RX7 64 RX7 yX7_kindAt wsX7_kindAt) := goodIn_app (goodIn_of _ (by decide +kernel)) ggX7_shop_X7_kindAt
theorem dX7_shop_0 : decode cX7_shop 0 = .ok (.aload_n 0, 1) := by decide +kernel
theorem dX7_shop_1 : decode cX7_shop 1 = .ok (.iload_n 1, 1) := by decide +kernel
theorem dX7_shop_2 : decode cX7_shop 2 = .ok (.invokevirtual 60, 3) := by decide +kernel
theorem dX7_shop_5 : decode cX7_shop 5 = .ok (.astore_n 3, 1) := by decide +kernel
theorem dX7_shop_6 : decode cX7_shop 6 = .ok (.aload_n 0, 1) := by decide +kernel
theorem dX7_shop_7 : decode cX7_shop 7 = .ok (.iload_n 2, 1) := by decide +kernel
theorem dX7_shop_8 : decode cX7_shop 8 = .ok (.invokevirtual 64, 3) := by decide +kernel
theorem dX7_shop_11 : decode cX7_shop 11 = .ok (.astore 4, 2) := by decide +kernel
theorem dX7_shop_13 : decode cX7_shop 13 = .ok (.aload_n 3, 1) := by decide +kernel
theorem dX7_shop_14 : decode cX7_shop 14 = .ok (.getfield 68, 3) := by decide +kernel
theorem dX7_shop_17 : decode cX7_shop 17 = .ok (.getfield 72, 3) := by decide +kernel
theorem dX7_shop_20 : decode cX7_shop 20 = .ok (.istore 5, 2) := by decide +kernel
theorem dX7_shop_22 : decode cX7_shop 22 = .ok (.aload_n 3, 1) := by decide +kernel
theorem dX7_shop_23 : decode cX7_shop 23 = .ok (.aload 4, 2) := by decide +kernel
theorem dX7_shop_25 : decode cX7_shop 25 = .ok (.putfield 68, 3) := by decide +kernel
theorem dX7_shop_28 : decode cX7_shop 28 = .ok (.iload 5, 2) := by decide +kernel
theorem dX7_shop_30 : decode cX7_shop 30 = .ok (.ireturn, 1) := by decide +kernel
set_option maxRecDepth 20000 in
theorem ggX7_kind_X7_kindAt : GoodIn wsX7_kind wsX7_kindAt := goodIn_ca (goodIn_r _ [7, 8, 9, 10, 30, 31, 32, 33, 34, 35, 36, 37] (by decide +kernel) (by decide +kernel)) (goodIn_sub (fun _ h => List.mem_cons_of_mem _ (List.mem_append_left _ (List.mem_append_right _ h))) (by decide +kernel))
set_option maxRecDepth 20000 in
theorem gX7_kind_X7_kindAt : GoodIn wsX7_kind (wsV RX7 64 RX7 yX7_kindAt wsX7_kindAt) := goodIn_app (goodIn_of _ (by decide +kernel)) ggX7_kind_X7_kindAt
set_option maxRecDepth 20000 in
theorem ggX7_kind_X7_requireRange : GoodIn wsX7_kind wsX7_requireRange := goodIn_ca (goodIn_r _ [13, 14, 15] (by decide +kernel) (by decide +kernel)) (goodIn_sub (fun _ h => List.mem_cons_of_mem _ (List.mem_append_right _ h)) (by decide +kernel))
set_option maxRecDepth 20000 in
theorem gX7_kind_X7_requireRange : GoodIn wsX7_kind (va_wsS RX7 75 yX7_requireRange wsX7_requireRange) := goodIn_app (goodIn_of _ (by decide +kernel)) ggX7_kind_X7_requireRange
set_option maxRecDepth 20000 in
theorem ggX7_kind_X4_feeOf : GoodIn wsX7_kind wsX4_feeOf := goodIn_r _ [20, 21, 22, 23, 24, 25, 26, 27, 28, 29] (by decide +kernel) (by decide +kernel)
set_option maxRecDepth 20000 in
theorem gX7_kind_X4_feeOf : GoodIn wsX7_kind (wsV RX7 85 RX4 yX4_feeOf wsX4_feeOf) := goodIn_app (goodIn_of _ (by decide +kernel)) ggX7_kind_X4_feeOf
theorem dX7_kind_0 : decode cX7_kind 0 = .ok (.aload_n 0, 1) := by decide +kernel
theorem dX7_kind_1 : decode cX7_kind 1 = .ok (.iload_n 1, 1) := by decide +kernel
theorem dX7_kind_2 : decode cX7_kind 2 = .ok (.invokevirtual 64, 3) := by decide +kernel
theorem dX7_kind_5 : decode cX7_kind 5 = .ok (.astore 4, 2) := by decide +kernel
theorem dX7_kind_7 : decode cX7_kind 7 = .ok (.iload_n 2, 1) := by decide +kernel
theorem dX7_kind_8 : decode cX7_kind 8 = .ok (.iconst 0, 1) := by decide +kernel
theorem dX7_kind_9 : decode cX7_kind 9 = .ok (.bipush 100, 2) := by decide +kernel
theorem dX7_kind_11 : decode cX7_kind 11 = .ok (.invokestatic 75, 3) := by decide +kernel
theorem dX7_kind_14 : decode cX7_kind 14 = .ok (.iload_n 3, 1) := by decide +kernel
theorem dX7_kind_15 : decode cX7_kind 15 = .ok (.iconst 0, 1) := by decide +kernel
theorem dX7_kind_16 : decode cX7_kind 16 = .ok (.sipush 9999, 3) := by decide +kernel
theorem dX7_kind_19 : decode cX7_kind 19 = .ok (.invokestatic 75, 3) := by decide +kernel
theorem dX7_kind_22 : decode cX7_kind 22 = .ok (.aload 4, 2) := by decide +kernel
theorem dX7_kind_24 : decode cX7_kind 24 = .ok (.iload_n 2, 1) := by decide +kernel
theorem dX7_kind_25 : decode cX7_kind 25 = .ok (.putfield 79, 3) := by decide +kernel
theorem dX7_kind_28 : decode cX7_kind 28 = .ok (.aload 4, 2) := by decide +kernel
theorem dX7_kind_30 : decode cX7_kind 30 = .ok (.iload_n 3, 1) := by decide +kernel
theorem dX7_kind_31 : decode cX7_kind 31 = .ok (.putfield 82, 3) := by decide +kernel
theorem dX7_kind_34 : decode cX7_kind 34 = .ok (.aload 4, 2) := by decide +kernel
theorem dX7_kind_36 : decode cX7_kind 36 = .ok (.sipush 10000, 3) := by decide +kernel
theorem dX7_kind_39 : decode cX7_kind 39 = .ok (.invokevirtual 85, 3) := by decide +kernel
theorem dX7_kind_42 : decode cX7_kind 42 = .ok (.ireturn, 1) := by decide +kernel
set_option maxRecDepth 20000 in
theorem ggX7_authorise_X7_cardAt : GoodIn wsX7_authorise wsX7_cardAt := goodIn_ca (goodIn_r _ [12, 13, 14, 15, 130, 131, 132, 133, 134, 135, 136, 137] (by decide +kernel) (by decide +kernel)) (goodIn_sub (fun _ h => List.mem_cons_of_mem _ (List.mem_append_left _ (List.mem_append_left _ (List.mem_append_right _ h)))) (by decide +kernel))
set_option maxRecDepth 20000 in
theorem gX7_authorise_X7_cardAt : GoodIn wsX7_authorise (wsV RX7 89 RX7 yX7_cardAt wsX7_cardAt) := goodIn_app (goodIn_of _ (by decide +kernel)) ggX7_authorise_X7_cardAt
set_option maxRecDepth 20000 in
theorem ggX7_authorise_X7_shopAt : GoodIn wsX7_authorise wsX7_shopAt := goodIn_ca (goodIn_r _ [19, 13, 14, 20, 130, 131, 132, 133, 134, 135, 136, 137] (by decide +kernel) (by decide +kernel)) (goodIn_sub (fun _ h => List.mem_cons_of_mem _ (List.mem_append_left _ (List.mem_append_left _ (List.mem_append_right _ h)))) (by decide +kernel))
set_option maxRecDepth 20000 in
theorem gX7_authorise_X7_shopAt : GoodIn wsX7_authorise (wsV RX7 60 RX7 yX7_shopAt wsX7_shopAt) := goodIn_app (goodIn_of _ (by decide +kernel)) ggX7_authorise_X7_shopAt
set_option maxRecDepth 20000 in
theorem ggX7_authorise_X7_requireRange : GoodIn wsX7_authorise wsX7_requireRange := goodIn_ca (goodIn_r _ [23, 24, 25] (by decide +kernel) (by decide +kernel)) (goodIn_sub (fun _ h => List.mem_cons_of_mem _ (List.mem_append_left _ (List.mem_append_right _ h))) (by decide +kernel))
set_option maxRecDepth 20000 in
theorem gX7_authorise_X7_requireRange : GoodIn wsX7_authorise (va_wsS RX7 75 yX7_requireRange wsX7_requireRange) := goodIn_app (goodIn_of _ (by decide +kernel)) ggX7_authorise_X7_requireRange
set_option maxRecDepth 20000 in
theorem ggX7_authorise_Jx4a65c_size_8abf5 : GoodIn wsX7_authorise wsJx4a65c_size_8abf5 := goodIn_r _ [30, 31, 145, 146, 147] (by decide +kernel) (by decide +kernel)
set_option maxRecDepth 20000 in
theorem gX7_authorise_Jx4a65c_size_8abf5_f94Jx4a65c : GoodIn wsX7_authorise (va_wsF RX7 94 RJx4a65c ⟨"java/util/List", "size", "()I"⟩ yJx4a65c_size_8abf5 wsJx4a65c_size_8abf5) := goodIn_app (goodIn_of _ (by decide +kernel)) ggX7_authorise_Jx4a65c_size_8abf5
set_option maxRecDepth 20000 in
theorem ggX7_authorise_X7_requirePossible : GoodIn wsX7_authorise wsX7_requirePossible := goodIn_ca (goodIn_r _ [34, 35, 36] (by decide +kernel) (by decide +kernel)) (goodIn_sub (fun _ h => List.mem_cons_of_mem _ (List.mem_append_right _ h)) (by decide +kernel))
set_option maxRecDepth 20000 in
theorem gX7_authorise_X7_requirePossible : GoodIn wsX7_authorise (va_wsS RX7 100 yX7_requirePossible wsX7_requirePossible) := goodIn_app (goodIn_of _ (by decide +kernel)) ggX7_authorise_X7_requirePossible
set_option maxRecDepth 20000 in
theorem ggX7_authorise_X7_limitOf : GoodIn wsX7_authorise wsX7_limitOf := goodIn_r _ [40, 41, 42, 43, 44, 45, 46, 47, 48, 49, 26, 27, 28, 29, 30, 31, 50, 51, 52, 53, 54, 55, 56, 57, 58, 59, 60, 61, 62, 63, 64, 65, 66, 130, 131, 132, 133, 134, 135, 136, 137, 148, 149, 150, 151, 152, 138, 139, 140, 141, 142, 143, 144, 145, 146, 147] (by decide +kernel) (by decide +kernel)
set_option maxRecDepth 20000 in
theorem gX7_authorise_X7_limitOf : GoodIn wsX7_authorise (wsV RX7 104 RX7 yX7_limitOf wsX7_limitOf) := goodIn_app (goodIn_of _ (by decide +kernel)) ggX7_authorise_X7_limitOf
set_option maxRecDepth 20000 in
theorem ggX7_authorise_X5_init : GoodIn wsX7_authorise wsX5_init := goodIn_r _ [69, 70, 71, 72, 73, 74, 75, 76, 77, 78, 79, 138, 139, 140, 141, 142, 143, 144] (by decide +kernel) (by decide +kernel)
set_option maxRecDepth 20000 in
theorem gX7_authorise_X5_init : GoodIn wsX7_authorise (wsX5_init) := ggX7_authorise_X5_init
set_option maxRecDepth 20000 in
theorem ggX7_authorise_Jx4a65c_add_9ea2d : GoodIn wsX7_authorise wsJx4a65c_add_9ea2d := goodIn_r _ [83, 84, 85, 66, 31, 86, 87, 88, 29, 89, 90, 91, 92, 93, 94, 95, 96, 97, 98, 99, 47, 48, 49, 100, 101, 102, 103, 104, 105, 106, 107, 108, 109, 110, 111, 112, 113, 114, 115, 116, 117, 118, 119, 120, 121, 122, 123, 124, 125, 126, 127, 128, 129, 145, 146, 147] (by decide +kernel) (by decide +kernel)
set_option maxRecDepth 20000 in
theorem gX7_authorise_Jx4a65c_add_9ea2d_f113Jx4a65c : GoodIn wsX7_authorise (va_wsF RX7 113 RJx4a65c ⟨"java/util/List", "add", "(Ljava/lang/Object;)Z"⟩ yJx4a65c_add_9ea2d wsJx4a65c_add_9ea2d) := goodIn_app (goodIn_of _ (by decide +kernel)) ggX7_authorise_Jx4a65c_add_9ea2d
theorem dX7_authorise_0 : decode cX7_authorise 0 = .ok (.aload_n 0, 1) := by decide +kernel
theorem dX7_authorise_1 : decode cX7_authorise 1 = .ok (.iload_n 1, 1) := by decide +kernel
theorem dX7_authorise_2 : decode cX7_authorise 2 = .ok (.invokevirtual 89, 3) := by decide +kernel
theorem dX7_authorise_5 : decode cX7_authorise 5 = .ok (.astore 4, 2) := by decide +kernel
theorem dX7_authorise_7 : decode cX7_authorise 7 = .ok (.aload_n 0, 1) := by decide +kernel
theorem dX7_authorise_8 : decode cX7_authorise 8 = .ok (.iload_n 2, 1) := by decide +kernel
theorem dX7_authorise_9 : decode cX7_authorise 9 = .ok (.invokevirtual 60, 3) := by decide +kernel
theorem dX7_authorise_12 : decode cX7_authorise 12 = .ok (.astore 5, 2) := by decide +kernel
theorem dX7_authorise_14 : decode cX7_authorise 14 = .ok (.iload_n 3, 1) := by decide +kernel
theorem dX7_authorise_15 : decode cX7_authorise 15 = .ok (.iconst 1, 1) := by decide +kernel
theorem dX7_authorise_16 : decode cX7_authorise 16 = .ok (.ldc 93, 2) := by decide +kernel
theorem dX7_authorise_18 : decode cX7_authorise 18 = .ok (.invokestatic 75, 3) := by decide +kernel
theorem dX7_authorise_21 : decode cX7_authorise 21 = .ok (.aload_n 0, 1) := by decide +kernel
theorem dX7_authorise_22 : decode cX7_authorise 22 = .ok (.getfield 36, 3) := by decide +kernel
theorem dX7_authorise_25 : decode cX7_authorise 25 = .ok (.invokeinterface 94 1, 5) := by decide +kernel
theorem dX7_authorise_30 : decode cX7_authorise 30 = .ok (.bipush 60, 2) := by decide +kernel
theorem dX7_authorise_32 : decode cX7_authorise 32 = .ok (.if_icmp .ge 7, 3) := by decide +kernel
theorem dX7_authorise_35 : decode cX7_authorise 35 = .ok (.iconst 1, 1) := by decide +kernel
theorem dX7_authorise_36 : decode cX7_authorise 36 = .ok (.goto 4, 3) := by decide +kernel
theorem dX7_authorise_39 : decode cX7_authorise 39 = .ok (.iconst 0, 1) := by decide +kernel
theorem dX7_authorise_40 : decode cX7_authorise 40 = .ok (.invokestatic 100, 3) := by decide +kernel
theorem dX7_authorise_43 : decode cX7_authorise 43 = .ok (.iload_n 3, 1) := by decide +kernel
theorem dX7_authorise_44 : decode cX7_authorise 44 = .ok (.aload_n 0, 1) := by decide +kernel
theorem dX7_authorise_45 : decode cX7_authorise 45 = .ok (.aload 4, 2) := by decide +kernel
theorem dX7_authorise_47 : decode cX7_authorise 47 = .ok (.invokevirtual 104, 3) := by decide +kernel
theorem dX7_authorise_50 : decode cX7_authorise 50 = .ok (.if_icmp .le 5, 3) := by decide +kernel
theorem dX7_authorise_53 : decode cX7_authorise 53 = .ok (.iconst (-1), 1) := by decide +kernel
theorem dX7_authorise_54 : decode cX7_authorise 54 = .ok (.ireturn, 1) := by decide +kernel
theorem dX7_authorise_55 : decode cX7_authorise 55 = .ok (.new 108, 3) := by decide +kernel
theorem dX7_authorise_58 : decode cX7_authorise 58 = .ok (.dup, 1) := by decide +kernel
theorem dX7_authorise_59 : decode cX7_authorise 59 = .ok (.aload_n 0, 1) := by decide +kernel
theorem dX7_authorise_60 : decode cX7_authorise 60 = .ok (.getfield 36, 3) := by decide +kernel
theorem dX7_authorise_63 : decode cX7_authorise 63 = .ok (.invokeinterface 94 1, 5) := by decide +kernel
theorem dX7_authorise_68 : decode cX7_authorise 68 = .ok (.aload 4, 2) := by decide +kernel
theorem dX7_authorise_70 : decode cX7_authorise 70 = .ok (.aload 5, 2) := by decide +kernel
theorem dX7_authorise_72 : decode cX7_authorise 72 = .ok (.iload_n 3, 1) := by decide +kernel
theorem dX7_authorise_73 : decode cX7_authorise 73 = .ok (.aload_n 0, 1) := by decide +kernel
theorem dX7_authorise_74 : decode cX7_authorise 74 = .ok (.getfield 46, 3) := by decide +kernel
theorem dX7_authorise_77 : decode cX7_authorise 77 = .ok (.bipush 7, 2) := by decide +kernel
theorem dX7_authorise_79 : decode cX7_authorise 79 = .ok (.iadd, 1) := by decide +kernel
theorem dX7_authorise_80 : decode cX7_authorise 80 = .ok (.invokespecial 110, 3) := by decide +kernel
theorem dX7_authorise_83 : decode cX7_authorise 83 = .ok (.astore 6, 2) := by decide +kernel
theorem dX7_authorise_85 : decode cX7_authorise 85 = .ok (.aload_n 0, 1) := by decide +kernel
theorem dX7_authorise_86 : decode cX7_authorise 86 = .ok (.getfield 36, 3) := by decide +kernel
theorem dX7_authorise_89 : decode cX7_authorise 89 = .ok (.aload 6, 2) := by decide +kernel
theorem dX7_authorise_91 : decode cX7_authorise 91 = .ok (.invokeinterface 113 2, 5) := by decide +kernel
theorem dX7_authorise_96 : decode cX7_authorise 96 = .ok (.pop, 1) := by decide +kernel
theorem dX7_authorise_97 : decode cX7_authorise 97 = .ok (.aload 6, 2) := by decide +kernel
theorem dX7_authorise_99 : decode cX7_authorise 99 = .ok (.getfield 117, 3) := by decide +kernel
theorem dX7_authorise_102 : decode cX7_authorise 102 = .ok (.ireturn, 1) := by decide +kernel
set_option maxRecDepth 20000 in
theorem ggX7_capture_X7_paymentAt : GoodIn wsX7_capture wsX7_paymentAt := goodIn_ca (goodIn_r _ [17, 18, 19, 20, 21, 22, 23, 24, 25, 26, 27, 28, 29, 30, 31, 32, 33, 34, 35, 36, 37, 38, 39, 40, 41, 42, 43, 44, 163, 164, 165, 166, 167, 168, 169, 170, 186, 187, 188] (by decide +kernel) (by decide +kernel)) (goodIn_sub (fun _ h => List.mem_cons_of_mem _ (List.mem_append_left _ (List.mem_append_left _ (List.mem_append_right _ h)))) (by decide +kernel))
set_option maxRecDepth 20000 in
theorem gX7_capture_X7_paymentAt : GoodIn wsX7_capture (wsV RX7 118 RX7 yX7_paymentAt wsX7_paymentAt) := goodIn_app (goodIn_of _ (by decide +kernel)) ggX7_capture_X7_paymentAt
set_option maxRecDepth 20000 in
theorem ggX7_capture_X7_requireRange : GoodIn wsX7_capture wsX7_requireRange := goodIn_ca (goodIn_r _ [47, 48, 49] (by decide +kernel) (by decide +kernel)) (goodIn_sub (fun _ h => List.mem_cons_of_mem _ (List.mem_append_left _ (List.mem_append_right _ h))) (by decide +kernel))
set_option maxRecDepth 20000 in
theorem gX7_capture_X7_requireRange : GoodIn wsX7_capture (va_wsS RX7 75 yX7_requireRange wsX7_requireRange) := goodIn_app (goodIn_of _ (by decide +kernel)) ggX7_capture_X7_requireRange
set_option maxRecDepth 20000 in
theorem ggX7_capture_Jx4a65c_size_8abf5 : GoodIn wsX7_capture wsJx4a65c_size_8abf5 := goodIn_r _ [26, 27, 186, 187, 188] (by decide +kernel) (by decide +kernel)
set_option maxRecDepth 20000 in
theorem gX7_capture_Jx4a65c_size_8abf5_f94Jx4a65c : GoodIn wsX7_capture (va_wsF RX7 94 RJx4a65c ⟨"java/util/List", "size", "()I"⟩ yJx4a65c_size_8abf5 wsJx4a65c_size_8abf5) := goodIn_app (goodIn_of _ (by decide +kernel)) ggX7_capture_Jx4a65c_size_8abf5
set_option maxRecDepth 20000 in
theorem ggX7_capture_X7_requirePossible : GoodIn wsX7_capture wsX7_requirePossible := goodIn_ca (goodIn_r _ [52, 53, 54] (by decide +kernel) (by decide +kernel)) (goodIn_sub (fun _ h => List.mem_cons_of_mem _ (List.mem_append_right _ h)) (by decide +kernel))
set_option maxRecDepth 20000 in
theorem gX7_capture_X7_requirePossible : GoodIn wsX7_capture (va_wsS RX7 100 yX7_requirePossible wsX7_requirePossible) := goodIn_app (goodIn_of _ (by decide +kernel)) ggX7_capture_X7_requirePossible
set_option maxRecDepth 20000 in
theorem ggX7_capture_X5_isAlive : GoodIn wsX7_capture wsX5_isAlive := goodIn_r _ [59, 60, 61, 176, 177, 178, 179, 180, 181, 182] (by decide +kernel) (by decide +kernel)
set_option maxRecDepth 20000 in
theorem gX7_capture_X5_isAlive : GoodIn wsX7_capture (wsV RX7 122 RX5 yX5_isAlive wsX5_isAlive) := goodIn_app (goodIn_of _ (by decide +kernel)) ggX7_capture_X5_isAlive
set_option maxRecDepth 20000 in
theorem ggX7_capture_X5_left : GoodIn wsX7_capture wsX5_left := goodIn_r _ [65, 66, 67, 176, 177, 178, 179, 180, 181, 182] (by decide +kernel) (by decide +kernel)
set_option maxRecDepth 20000 in
theorem gX7_capture_X5_left : GoodIn wsX7_capture (wsV RX7 126 RX5 yX5_left wsX5_left) := goodIn_app (goodIn_of _ (by decide +kernel)) ggX7_capture_X5_left
set_option maxRecDepth 20000 in
theorem ggX7_capture_X4_feeOf : GoodIn wsX7_capture wsX4_feeOf := goodIn_r _ [72, 73, 74, 75, 76, 77, 78, 189, 190, 191] (by decide +kernel) (by decide +kernel)
set_option maxRecDepth 20000 in
theorem gX7_capture_X4_feeOf : GoodIn wsX7_capture (wsV RX7 85 RX4 yX4_feeOf wsX4_feeOf) := goodIn_app (goodIn_of _ (by decide +kernel)) ggX7_capture_X4_feeOf
set_option maxRecDepth 20000 in
theorem ggX7_capture_X1_init : GoodIn wsX7_capture wsX1_init := goodIn_r _ [81, 82, 83, 84, 85, 86, 87, 88, 89, 171, 172, 173, 174, 175] (by decide +kernel) (by decide +kernel)
set_option maxRecDepth 20000 in
theorem gX7_capture_X1_init : GoodIn wsX7_capture (wsX1_init) := ggX7_capture_X1_init
set_option maxRecDepth 20000 in
theorem ggX7_capture_Jx4a65c_add_9ea2d : GoodIn wsX7_capture wsJx4a65c_add_9ea2d := goodIn_r _ [93, 94, 95, 44, 27, 96, 97, 98, 25, 99, 100, 101, 102, 103, 104, 105, 106, 107, 108, 109, 110, 77, 111, 112, 113, 114, 115, 116, 117, 118, 119, 120, 121, 122, 123, 124, 125, 126, 127, 128, 129, 130, 131, 132, 133, 134, 135, 76, 78, 136, 137, 138, 139, 186, 187, 188] (by decide +kernel) (by decide +kernel)
set_option maxRecDepth 20000 in
theorem gX7_capture_Jx4a65c_add_9ea2d_f113Jx4a65c : GoodIn wsX7_capture (va_wsF RX7 113 RJx4a65c ⟨"java/util/List", "add", "(Ljava/lang/Object;)Z"⟩ yJx4a65c_add_9ea2d wsJx4a65c_add_9ea2d) := goodIn_app (goodIn_of _ (by decide +kernel)) ggX7_capture_Jx4a65c_add_9ea2d
set_option maxRecDepth 20000 in
theorem ggX7_capture_X1_cardBank : GoodIn wsX7_capture wsX1_cardBank := goodIn_r _ [143, 87, 144, 145, 171, 172, 173, 174, 175, 176, 177, 178, 179, 180, 181, 182, 192, 193] (by decide +kernel) (by decide +kernel)
set_option maxRecDepth 20000 in
theorem gX7_capture_X1_cardBank : GoodIn wsX7_capture (wsV RX7 141 RX1 yX1_cardBank wsX1_cardBank) := goodIn_app (goodIn_of _ (by decide +kernel)) ggX7_capture_X1_cardBank
set_option maxRecDepth 20000 in
theorem ggX7_capture_X1_shopBank : GoodIn wsX7_capture wsX1_shopBank := goodIn_r _ [149, 87, 150, 151, 171, 172, 173, 174, 175, 176, 177, 178, 179, 180, 181, 182, 183, 184, 185] (by decide +kernel) (by decide +kernel)
set_option maxRecDepth 20000 in
theorem gX7_capture_X1_shopBank : GoodIn wsX7_capture (wsV RX7 145 RX1 yX1_shopBank wsX1_shopBank) := goodIn_app (goodIn_of _ (by decide +kernel)) ggX7_capture_X1_shopBank
set_option maxRecDepth 20000 in
theorem ggX7_capture_X0_pay : GoodIn wsX7_capture wsX0_pay := goodIn_r _ [156, 157, 158, 159, 155, 160, 161, 162, 194, 195] (by decide +kernel) (by decide +kernel)
set_option maxRecDepth 20000 in
theorem gX7_capture_X0_pay : GoodIn wsX7_capture (wsV RX7 154 RX0 yX0_pay wsX0_pay) := goodIn_app (goodIn_of _ (by decide +kernel)) ggX7_capture_X0_pay
theorem dX7_capture_0 : decode cX7_capture 0 = .ok (.aload_n 0, 1) := by decide +kernel
theorem dX7_capture_1 : decode cX7_capture 1 = .ok (.iload_n 1, 1) := by decide +kernel
theorem dX7_capture_2 : decode cX7_capture 2 = .ok (.invokevirtual 118, 3) := by decide +kernel
theorem dX7_capture_5 : decode cX7_capture 5 = .ok (.astore_n 3, 1) := by decide +kernel
theorem dX7_capture_6 : decode cX7_capture 6 = .ok (.iload_n 2, 1) := by decide +kernel
theorem dX7_capture_7 : decode cX7_capture 7 = .ok (.iconst 1, 1) := by decide +kernel
theorem dX7_capture_8 : decode cX7_capture 8 = .ok (.ldc 93, 2) := by decide +kernel
theorem dX7_capture_10 : decode cX7_capture 10 = .ok (.invokestatic 75, 3) := by decide +kernel
theorem dX7_capture_13 : decode cX7_capture 13 = .ok (.aload_n 0, 1) := by decide +kernel
theorem dX7_capture_14 : decode cX7_capture 14 = .ok (.getfield 40, 3) := by decide +kernel
theorem dX7_capture_17 : decode cX7_capture 17 = .ok (.invokeinterface 94 1, 5) := by decide +kernel
theorem dX7_capture_22 : decode cX7_capture 22 = .ok (.bipush 100, 2) := by decide +kernel
theorem dX7_capture_24 : decode cX7_capture 24 = .ok (.if_icmp .ge 7, 3) := by decide +kernel
theorem dX7_capture_27 : decode cX7_capture 27 = .ok (.iconst 1, 1) := by decide +kernel
theorem dX7_capture_28 : decode cX7_capture 28 = .ok (.goto 4, 3) := by decide +kernel
theorem dX7_capture_31 : decode cX7_capture 31 = .ok (.iconst 0, 1) := by decide +kernel
theorem dX7_capture_32 : decode cX7_capture 32 = .ok (.invokestatic 100, 3) := by decide +kernel
theorem dX7_capture_35 : decode cX7_capture 35 = .ok (.aload_n 3, 1) := by decide +kernel
theorem dX7_capture_36 : decode cX7_capture 36 = .ok (.aload_n 0, 1) := by decide +kernel
theorem dX7_capture_37 : decode cX7_capture 37 = .ok (.getfield 46, 3) := by decide +kernel
theorem dX7_capture_40 : decode cX7_capture 40 = .ok (.invokevirtual 122, 3) := by decide +kernel
theorem dX7_capture_43 : decode cX7_capture 43 = .ok (.ifCond .eq 15, 3) := by decide +kernel
theorem dX7_capture_46 : decode cX7_capture 46 = .ok (.iload_n 2, 1) := by decide +kernel
theorem dX7_capture_47 : decode cX7_capture 47 = .ok (.aload_n 3, 1) := by decide +kernel
theorem dX7_capture_48 : decode cX7_capture 48 = .ok (.invokevirtual 126, 3) := by decide +kernel
theorem dX7_capture_51 : decode cX7_capture 51 = .ok (.if_icmp .gt 7, 3) := by decide +kernel
theorem dX7_capture_54 : decode cX7_capture 54 = .ok (.iconst 1, 1) := by decide +kernel
theorem dX7_capture_55 : decode cX7_capture 55 = .ok (.goto 4, 3) := by decide +kernel
theorem dX7_capture_58 : decode cX7_capture 58 = .ok (.iconst 0, 1) := by decide +kernel
theorem dX7_capture_59 : decode cX7_capture 59 = .ok (.invokestatic 100, 3) := by decide +kernel
theorem dX7_capture_62 : decode cX7_capture 62 = .ok (.new 129, 3) := by decide +kernel
theorem dX7_capture_65 : decode cX7_capture 65 = .ok (.dup, 1) := by decide +kernel
theorem dX7_capture_66 : decode cX7_capture 66 = .ok (.aload_n 0, 1) := by decide +kernel
theorem dX7_capture_67 : decode cX7_capture 67 = .ok (.getfield 40, 3) := by decide +kernel
theorem dX7_capture_70 : decode cX7_capture 70 = .ok (.invokeinterface 94 1, 5) := by decide +kernel
theorem dX7_capture_75 : decode cX7_capture 75 = .ok (.aload_n 3, 1) := by decide +kernel
theorem dX7_capture_76 : decode cX7_capture 76 = .ok (.iload_n 2, 1) := by decide +kernel
theorem dX7_capture_77 : decode cX7_capture 77 = .ok (.aload_n 3, 1) := by decide +kernel
theorem dX7_capture_78 : decode cX7_capture 78 = .ok (.getfield 131, 3) := by decide +kernel
theorem dX7_capture_81 : decode cX7_capture 81 = .ok (.getfield 68, 3) := by decide +kernel
theorem dX7_capture_84 : decode cX7_capture 84 = .ok (.iload_n 2, 1) := by decide +kernel
theorem dX7_capture_85 : decode cX7_capture 85 = .ok (.invokevirtual 85, 3) := by decide +kernel
theorem dX7_capture_88 : decode cX7_capture 88 = .ok (.invokespecial 135, 3) := by decide +kernel
theorem dX7_capture_91 : decode cX7_capture 91 = .ok (.astore 4, 2) := by decide +kernel
theorem dX7_capture_93 : decode cX7_capture 93 = .ok (.aload_n 0, 1) := by decide +kernel
theorem dX7_capture_94 : decode cX7_capture 94 = .ok (.getfield 40, 3) := by decide +kernel
theorem dX7_capture_97 : decode cX7_capture 97 = .ok (.aload 4, 2) := by decide +kernel
theorem dX7_capture_99 : decode cX7_capture 99 = .ok (.invokeinterface 113 2, 5) := by decide +kernel
theorem dX7_capture_104 : decode cX7_capture 104 = .ok (.pop, 1) := by decide +kernel
theorem dX7_capture_105 : decode cX7_capture 105 = .ok (.aload_n 3, 1) := by decide +kernel
theorem dX7_capture_106 : decode cX7_capture 106 = .ok (.dup, 1) := by decide +kernel
theorem dX7_capture_107 : decode cX7_capture 107 = .ok (.getfield 138, 3) := by decide +kernel
theorem dX7_capture_110 : decode cX7_capture 110 = .ok (.iload_n 2, 1) := by decide +kernel
theorem dX7_capture_111 : decode cX7_capture 111 = .ok (.iadd, 1) := by decide +kernel
theorem dX7_capture_112 : decode cX7_capture 112 = .ok (.putfield 138, 3) := by decide +kernel
theorem dX7_capture_115 : decode cX7_capture 115 = .ok (.aload 4, 2) := by decide +kernel
theorem dX7_capture_117 : decode cX7_capture 117 = .ok (.invokevirtual 141, 3) := by decide +kernel
theorem dX7_capture_120 : decode cX7_capture 120 = .ok (.aload 4, 2) := by decide +kernel
theorem dX7_capture_122 : decode cX7_capture 122 = .ok (.invokevirtual 145, 3) := by decide +kernel
theorem dX7_capture_125 : decode cX7_capture 125 = .ok (.aload 4, 2) := by decide +kernel
theorem dX7_capture_127 : decode cX7_capture 127 = .ok (.getfield 148, 3) := by decide +kernel
theorem dX7_capture_130 : decode cX7_capture 130 = .ok (.aload 4, 2) := by decide +kernel
theorem dX7_capture_132 : decode cX7_capture 132 = .ok (.getfield 151, 3) := by decide +kernel
theorem dX7_capture_135 : decode cX7_capture 135 = .ok (.isub, 1) := by decide +kernel
theorem dX7_capture_136 : decode cX7_capture 136 = .ok (.invokevirtual 154, 3) := by decide +kernel
theorem dX7_capture_139 : decode cX7_capture 139 = .ok (.aload 4, 2) := by decide +kernel
theorem dX7_capture_141 : decode cX7_capture 141 = .ok (.getfield 158, 3) := by decide +kernel
theorem dX7_capture_144 : decode cX7_capture 144 = .ok (.ireturn, 1) := by decide +kernel
set_option maxRecDepth 20000 in
theorem ggX7_cancel_X7_paymentAt : GoodIn wsX7_cancel wsX7_paymentAt := goodIn_ca (goodIn_r _ [7, 8, 9, 10, 11, 12, 13, 14, 15, 16, 17, 18, 19, 20, 21, 22, 23, 24, 25, 26, 27, 28, 29, 30, 31, 32, 33, 34, 53, 54, 55, 56, 57, 58, 59, 60, 68, 69, 70] (by decide +kernel) (by decide +kernel)) (goodIn_sub (fun _ h => List.mem_cons_of_mem _ (List.mem_append_left _ (List.mem_append_right _ h))) (by decide +kernel))
set_option maxRecDepth 20000 in
theorem gX7_cancel_X7_paymentAt : GoodIn wsX7_cancel (wsV RX7 118 RX7 yX7_paymentAt wsX7_paymentAt) := goodIn_app (goodIn_of _ (by decide +kernel)) ggX7_cancel_X7_paymentAt
set_option maxRecDepth 20000 in
theorem ggX7_cancel_X5_isAlive : GoodIn wsX7_cancel wsX5_isAlive := goodIn_r _ [39, 40, 41, 61, 62, 63, 64, 65, 66, 67] (by decide +kernel) (by decide +kernel)
set_option maxRecDepth 20000 in
theorem gX7_cancel_X5_isAlive : GoodIn wsX7_cancel (wsV RX7 122 RX5 yX5_isAlive wsX5_isAlive) := goodIn_app (goodIn_of _ (by decide +kernel)) ggX7_cancel_X5_isAlive
set_option maxRecDepth 20000 in
theorem ggX7_cancel_X7_requirePossible : GoodIn wsX7_cancel wsX7_requirePossible := goodIn_ca (goodIn_r _ [44, 45, 46] (by decide +kernel) (by decide +kernel)) (goodIn_sub (fun _ h => List.mem_cons_of_mem _ (List.mem_append_right _ h)) (by decide +kernel))
set_option maxRecDepth 20000 in
theorem gX7_cancel_X7_requirePossible : GoodIn wsX7_cancel (va_wsS RX7 100 yX7_requirePossible wsX7_requirePossible) := goodIn_app (goodIn_of _ (by decide +kernel)) ggX7_cancel_X7_requirePossible
set_option maxRecDepth 20000 in
theorem ggX7_cancel_X5_left : GoodIn wsX7_cancel wsX5_left := goodIn_r _ [50, 51, 52, 61, 62, 63, 64, 65, 66, 67] (by decide +kernel) (by decide +kernel)
set_option maxRecDepth 20000 in
theorem gX7_cancel_X5_left : GoodIn wsX7_cancel (wsV RX7 126 RX5 yX5_left wsX5_left) := goodIn_app (goodIn_of _ (by decide +kernel)) ggX7_cancel_X5_left
theorem dX7_cancel_0 : decode cX7_cancel 0 = .ok (.aload_n 0, 1) := by decide +kernel
theorem dX7_cancel_1 : decode cX7_cancel 1 = .ok (.iload_n 1, 1) := by decide +kernel
theorem dX7_cancel_2 : decode cX7_cancel 2 = .ok (.invokevirtual 118, 3) := by decide +kernel
theorem dX7_cancel_5 : decode cX7_cancel 5 = .ok (.astore_n 2, 1) := by decide +kernel
theorem dX7_cancel_6 : decode cX7_cancel 6 = .ok (.aload_n 2, 1) := by decide +kernel
theorem dX7_cancel_7 : decode cX7_cancel 7 = .ok (.aload_n 0, 1) := by decide +kernel
theorem dX7_cancel_8 : decode cX7_cancel 8 = .ok (.getfield 46, 3) := by decide +kernel
theorem dX7_cancel_11 : decode cX7_cancel 11 = .ok (.invokevirtual 122, 3) := by decide +kernel
theorem dX7_cancel_14 : decode cX7_cancel 14 = .ok (.invokestatic 100, 3) := by decide +kernel
theorem dX7_cancel_17 : decode cX7_cancel 17 = .ok (.aload_n 2, 1) := by decide +kernel
theorem dX7_cancel_18 : decode cX7_cancel 18 = .ok (.iconst 1, 1) := by decide +kernel
theorem dX7_cancel_19 : decode cX7_cancel 19 = .ok (.putfield 159, 3) := by decide +kernel
theorem dX7_cancel_22 : decode cX7_cancel 22 = .ok (.aload_n 2, 1) := by decide +kernel
theorem dX7_cancel_23 : decode cX7_cancel 23 = .ok (.invokevirtual 126, 3) := by decide +kernel
theorem dX7_cancel_26 : decode cX7_cancel 26 = .ok (.ireturn, 1) := by decide +kernel
set_option maxRecDepth 20000 in
theorem ggX7_refund_X7_captureAt : GoodIn wsX7_refund wsX7_captureAt := goodIn_ca (goodIn_r _ [8, 9, 10, 11, 12, 13, 14, 15, 16, 17, 18, 19, 20, 21, 22, 23, 24, 25, 26, 27, 28, 29, 30, 31, 32, 33, 34, 35, 85, 86, 87, 88, 89, 90, 91, 92, 93, 94, 95] (by decide +kernel) (by decide +kernel)) (goodIn_sub (fun _ h => List.mem_cons_of_mem _ (List.mem_append_left _ (List.mem_append_left _ (List.mem_append_right _ h)))) (by decide +kernel))
set_option maxRecDepth 20000 in
theorem gX7_refund_X7_captureAt : GoodIn wsX7_refund (wsV RX7 163 RX7 yX7_captureAt wsX7_captureAt) := goodIn_app (goodIn_of _ (by decide +kernel)) ggX7_refund_X7_captureAt
set_option maxRecDepth 20000 in
theorem ggX7_refund_X7_requireRange : GoodIn wsX7_refund wsX7_requireRange := goodIn_ca (goodIn_r _ [38, 39, 40] (by decide +kernel) (by decide +kernel)) (goodIn_sub (fun _ h => List.mem_cons_of_mem _ (List.mem_append_left _ (List.mem_append_right _ h))) (by decide +kernel))
set_option maxRecDepth 20000 in
theorem gX7_refund_X7_requireRange : GoodIn wsX7_refund (va_wsS RX7 75 yX7_requireRange wsX7_requireRange) := goodIn_app (goodIn_of _ (by decide +kernel)) ggX7_refund_X7_requireRange
set_option maxRecDepth 20000 in
theorem ggX7_refund_X7_givenBackOf : GoodIn wsX7_refund wsX7_givenBackOf := goodIn_r _ [44, 3, 45, 46, 47, 48, 49, 13, 14, 15, 16, 17, 18, 19, 20, 21, 22, 23, 24, 25, 26, 27, 28, 29, 30, 31, 32, 33, 34, 35, 80, 81, 82, 83, 84, 85, 86, 87, 88, 89, 90, 91, 92, 96, 97, 98, 99, 100, 93, 94, 95] (by decide +kernel) (by decide +kernel)
set_option maxRecDepth 20000 in
theorem gX7_refund_X7_givenBackOf : GoodIn wsX7_refund (wsV RX7 167 RX7 yX7_givenBackOf wsX7_givenBackOf) := goodIn_app (goodIn_of _ (by decide +kernel)) ggX7_refund_X7_givenBackOf
set_option maxRecDepth 20000 in
theorem ggX7_refund_X7_requirePossible : GoodIn wsX7_refund wsX7_requirePossible := goodIn_ca (goodIn_r _ [52, 53, 54] (by decide +kernel) (by decide +kernel)) (goodIn_sub (fun _ h => List.mem_cons_of_mem _ (List.mem_append_right _ h)) (by decide +kernel))
set_option maxRecDepth 20000 in
theorem gX7_refund_X7_requirePossible : GoodIn wsX7_refund (va_wsS RX7 100 yX7_requirePossible wsX7_requirePossible) := goodIn_app (goodIn_of _ (by decide +kernel)) ggX7_refund_X7_requirePossible
set_option maxRecDepth 20000 in
theorem ggX7_refund_X1_shopBank : GoodIn wsX7_refund wsX1_shopBank := goodIn_r _ [59, 60, 61, 62, 80, 81, 82, 83, 84, 101, 102, 103, 104, 105, 106, 107, 108, 109, 110] (by decide +kernel) (by decide +kernel)
set_option maxRecDepth 20000 in
theorem gX7_refund_X1_shopBank : GoodIn wsX7_refund (wsV RX7 145 RX1 yX1_shopBank wsX1_shopBank) := goodIn_app (goodIn_of _ (by decide +kernel)) ggX7_refund_X1_shopBank
set_option maxRecDepth 20000 in
theorem ggX7_refund_X1_cardBank : GoodIn wsX7_refund wsX1_cardBank := goodIn_r _ [66, 60, 67, 68, 80, 81, 82, 83, 84, 101, 102, 103, 104, 105, 106, 107, 111, 112] (by decide +kernel) (by decide +kernel)
set_option maxRecDepth 20000 in
theorem gX7_refund_X1_cardBank : GoodIn wsX7_refund (wsV RX7 141 RX1 yX1_cardBank wsX1_cardBank) := goodIn_app (goodIn_of _ (by decide +kernel)) ggX7_refund_X1_cardBank
set_option maxRecDepth 20000 in
theorem ggX7_refund_X0_pay : GoodIn wsX7_refund wsX0_pay := goodIn_r _ [73, 74, 75, 76, 72, 77, 78, 79, 113, 114] (by decide +kernel) (by decide +kernel)
set_option maxRecDepth 20000 in
theorem gX7_refund_X0_pay : GoodIn wsX7_refund (wsV RX7 154 RX0 yX0_pay wsX0_pay) := goodIn_app (goodIn_of _ (by decide +kernel)) ggX7_refund_X0_pay
theorem dX7_refund_0 : decode cX7_refund 0 = .ok (.aload_n 0, 1) := by decide +kernel
theorem dX7_refund_1 : decode cX7_refund 1 = .ok (.iload_n 1, 1) := by decide +kernel
theorem dX7_refund_2 : decode cX7_refund 2 = .ok (.invokevirtual 163, 3) := by decide +kernel
theorem dX7_refund_5 : decode cX7_refund 5 = .ok (.astore_n 3, 1) := by decide +kernel
theorem dX7_refund_6 : decode cX7_refund 6 = .ok (.iload_n 2, 1) := by decide +kernel
theorem dX7_refund_7 : decode cX7_refund 7 = .ok (.iconst 1, 1) := by decide +kernel
theorem dX7_refund_8 : decode cX7_refund 8 = .ok (.ldc 93, 2) := by decide +kernel
theorem dX7_refund_10 : decode cX7_refund 10 = .ok (.invokestatic 75, 3) := by decide +kernel
theorem dX7_refund_13 : decode cX7_refund 13 = .ok (.iload_n 2, 1) := by decide +kernel
theorem dX7_refund_14 : decode cX7_refund 14 = .ok (.aload_n 3, 1) := by decide +kernel
theorem dX7_refund_15 : decode cX7_refund 15 = .ok (.getfield 148, 3) := by decide +kernel
theorem dX7_refund_18 : decode cX7_refund 18 = .ok (.aload_n 0, 1) := by decide +kernel
theorem dX7_refund_19 : decode cX7_refund 19 = .ok (.aload_n 3, 1) := by decide +kernel
theorem dX7_refund_20 : decode cX7_refund 20 = .ok (.invokevirtual 167, 3) := by decide +kernel
theorem dX7_refund_23 : decode cX7_refund 23 = .ok (.isub, 1) := by decide +kernel
theorem dX7_refund_24 : decode cX7_refund 24 = .ok (.if_icmp .gt 7, 3) := by decide +kernel
theorem dX7_refund_27 : decode cX7_refund 27 = .ok (.iconst 1, 1) := by decide +kernel
theorem dX7_refund_28 : decode cX7_refund 28 = .ok (.goto 4, 3) := by decide +kernel
theorem dX7_refund_31 : decode cX7_refund 31 = .ok (.iconst 0, 1) := by decide +kernel
theorem dX7_refund_32 : decode cX7_refund 32 = .ok (.invokestatic 100, 3) := by decide +kernel
theorem dX7_refund_35 : decode cX7_refund 35 = .ok (.aload_n 3, 1) := by decide +kernel
theorem dX7_refund_36 : decode cX7_refund 36 = .ok (.dup, 1) := by decide +kernel
theorem dX7_refund_37 : decode cX7_refund 37 = .ok (.getfield 171, 3) := by decide +kernel
theorem dX7_refund_40 : decode cX7_refund 40 = .ok (.iload_n 2, 1) := by decide +kernel
theorem dX7_refund_41 : decode cX7_refund 41 = .ok (.iadd, 1) := by decide +kernel
theorem dX7_refund_42 : decode cX7_refund 42 = .ok (.putfield 171, 3) := by decide +kernel
theorem dX7_refund_45 : decode cX7_refund 45 = .ok (.aload_n 3, 1) := by decide +kernel
theorem dX7_refund_46 : decode cX7_refund 46 = .ok (.invokevirtual 145, 3) := by decide +kernel
theorem dX7_refund_49 : decode cX7_refund 49 = .ok (.aload_n 3, 1) := by decide +kernel
theorem dX7_refund_50 : decode cX7_refund 50 = .ok (.invokevirtual 141, 3) := by decide +kernel
theorem dX7_refund_53 : decode cX7_refund 53 = .ok (.iload_n 2, 1) := by decide +kernel
theorem dX7_refund_54 : decode cX7_refund 54 = .ok (.invokevirtual 154, 3) := by decide +kernel
theorem dX7_refund_57 : decode cX7_refund 57 = .ok (.aload_n 0, 1) := by decide +kernel
theorem dX7_refund_58 : decode cX7_refund 58 = .ok (.aload_n 3, 1) := by decide +kernel
theorem dX7_refund_59 : decode cX7_refund 59 = .ok (.invokevirtual 167, 3) := by decide +kernel
theorem dX7_refund_62 : decode cX7_refund 62 = .ok (.ireturn, 1) := by decide +kernel
set_option maxRecDepth 20000 in
theorem ggX7_dispute_X7_captureAt : GoodIn wsX7_dispute wsX7_captureAt := goodIn_ca (goodIn_r _ [13, 14, 15, 16, 17, 18, 19, 20, 21, 22, 23, 24, 25, 26, 27, 28, 29, 30, 31, 32, 33, 34, 35, 36, 37, 38, 39, 40, 149, 150, 151, 152, 153, 154, 155, 156, 167, 168, 169] (by decide +kernel) (by decide +kernel)) (goodIn_sub (fun _ h => List.mem_cons_of_mem _ (List.mem_append_left _ (List.mem_append_left _ (List.mem_append_right _ h)))) (by decide +kernel))
set_option maxRecDepth 20000 in
theorem gX7_dispute_X7_captureAt : GoodIn wsX7_dispute (wsV RX7 163 RX7 yX7_captureAt wsX7_captureAt) := goodIn_app (goodIn_of _ (by decide +kernel)) ggX7_dispute_X7_captureAt
set_option maxRecDepth 20000 in
theorem ggX7_dispute_X7_requireRange : GoodIn wsX7_dispute wsX7_requireRange := goodIn_ca (goodIn_r _ [43, 44, 45] (by decide +kernel) (by decide +kernel)) (goodIn_sub (fun _ h => List.mem_cons_of_mem _ (List.mem_append_left _ (List.mem_append_right _ h))) (by decide +kernel))
set_option maxRecDepth 20000 in
theorem gX7_dispute_X7_requireRange : GoodIn wsX7_dispute (va_wsS RX7 75 yX7_requireRange wsX7_requireRange) := goodIn_app (goodIn_of _ (by decide +kernel)) ggX7_dispute_X7_requireRange
set_option maxRecDepth 20000 in
theorem ggX7_dispute_Jx4a65c_size_8abf5 : GoodIn wsX7_dispute wsJx4a65c_size_8abf5 := goodIn_r _ [22, 23, 167, 168, 169] (by decide +kernel) (by decide +kernel)
set_option maxRecDepth 20000 in
theorem gX7_dispute_Jx4a65c_size_8abf5_f94Jx4a65c : GoodIn wsX7_dispute (va_wsF RX7 94 RJx4a65c ⟨"java/util/List", "size", "()I"⟩ yJx4a65c_size_8abf5 wsJx4a65c_size_8abf5) := goodIn_app (goodIn_of _ (by decide +kernel)) ggX7_dispute_Jx4a65c_size_8abf5
set_option maxRecDepth 20000 in
theorem ggX7_dispute_X7_requirePossible : GoodIn wsX7_dispute wsX7_requirePossible := goodIn_ca (goodIn_r _ [48, 49, 50] (by decide +kernel) (by decide +kernel)) (goodIn_sub (fun _ h => List.mem_cons_of_mem _ (List.mem_append_right _ h)) (by decide +kernel))
set_option maxRecDepth 20000 in
theorem gX7_dispute_X7_requirePossible : GoodIn wsX7_dispute (va_wsS RX7 100 yX7_requirePossible wsX7_requirePossible) := goodIn_app (goodIn_of _ (by decide +kernel)) ggX7_dispute_X7_requirePossible
set_option maxRecDepth 20000 in
theorem ggX7_dispute_X7_givenBackOf : GoodIn wsX7_dispute wsX7_givenBackOf := goodIn_r _ [54, 55, 2, 56, 57, 58, 59, 18, 19, 20, 21, 22, 23, 24, 25, 26, 27, 28, 29, 30, 31, 32, 33, 34, 35, 36, 37, 38, 39, 40, 157, 158, 159, 160, 161, 149, 150, 151, 152, 153, 154, 155, 156, 162, 163, 164, 165, 166, 167, 168, 169] (by decide +kernel) (by decide +kernel)
set_option maxRecDepth 20000 in
theorem gX7_dispute_X7_givenBackOf : GoodIn wsX7_dispute (wsV RX7 167 RX7 yX7_givenBackOf wsX7_givenBackOf) := goodIn_app (goodIn_of _ (by decide +kernel)) ggX7_dispute_X7_givenBackOf
set_option maxRecDepth 20000 in
theorem ggX7_dispute_X3_init : GoodIn wsX7_dispute wsX3_init := goodIn_r _ [62, 63, 64, 65, 66, 67, 68, 69, 70, 162, 163, 164, 165, 166] (by decide +kernel) (by decide +kernel)
set_option maxRecDepth 20000 in
theorem gX7_dispute_X3_init : GoodIn wsX7_dispute (wsX3_init) := ggX7_dispute_X3_init
set_option maxRecDepth 20000 in
theorem ggX7_dispute_Jx4a65c_add_9ea2d : GoodIn wsX7_dispute wsJx4a65c_add_9ea2d := goodIn_r _ [74, 75, 76, 40, 23, 77, 78, 79, 21, 80, 81, 82, 83, 84, 85, 86, 87, 88, 89, 90, 91, 92, 93, 94, 95, 96, 97, 98, 99, 100, 101, 102, 103, 104, 105, 106, 107, 108, 109, 110, 111, 112, 113, 114, 115, 116, 117, 118, 119, 120, 121, 122, 123, 167, 168, 169] (by decide +kernel) (by decide +kernel)
set_option maxRecDepth 20000 in
theorem gX7_dispute_Jx4a65c_add_9ea2d_f113Jx4a65c : GoodIn wsX7_dispute (va_wsF RX7 113 RJx4a65c ⟨"java/util/List", "add", "(Ljava/lang/Object;)Z"⟩ yJx4a65c_add_9ea2d wsJx4a65c_add_9ea2d) := goodIn_app (goodIn_of _ (by decide +kernel)) ggX7_dispute_Jx4a65c_add_9ea2d
set_option maxRecDepth 20000 in
theorem ggX7_dispute_X1_shopBank : GoodIn wsX7_dispute wsX1_shopBank := goodIn_r _ [128, 129, 130, 131, 157, 158, 159, 160, 161, 170, 171, 172, 173, 174, 175, 176, 177, 178, 179] (by decide +kernel) (by decide +kernel)
set_option maxRecDepth 20000 in
theorem gX7_dispute_X1_shopBank : GoodIn wsX7_dispute (wsV RX7 145 RX1 yX1_shopBank wsX1_shopBank) := goodIn_app (goodIn_of _ (by decide +kernel)) ggX7_dispute_X1_shopBank
set_option maxRecDepth 20000 in
theorem ggX7_dispute_X1_cardBank : GoodIn wsX7_dispute wsX1_cardBank := goodIn_r _ [135, 129, 136, 137, 157, 158, 159, 160, 161, 170, 171, 172, 173, 174, 175, 176, 180, 181] (by decide +kernel) (by decide +kernel)
set_option maxRecDepth 20000 in
theorem gX7_dispute_X1_cardBank : GoodIn wsX7_dispute (wsV RX7 141 RX1 yX1_cardBank wsX1_cardBank) := goodIn_app (goodIn_of _ (by decide +kernel)) ggX7_dispute_X1_cardBank
set_option maxRecDepth 20000 in
theorem ggX7_dispute_X0_pay : GoodIn wsX7_dispute wsX0_pay := goodIn_r _ [142, 143, 144, 145, 141, 146, 147, 148, 182, 183] (by decide +kernel) (by decide +kernel)
set_option maxRecDepth 20000 in
theorem gX7_dispute_X0_pay : GoodIn wsX7_dispute (wsV RX7 154 RX0 yX0_pay wsX0_pay) := goodIn_app (goodIn_of _ (by decide +kernel)) ggX7_dispute_X0_pay
theorem dX7_dispute_0 : decode cX7_dispute 0 = .ok (.aload_n 0, 1) := by decide +kernel
theorem dX7_dispute_1 : decode cX7_dispute 1 = .ok (.iload_n 1, 1) := by decide +kernel
theorem dX7_dispute_2 : decode cX7_dispute 2 = .ok (.invokevirtual 163, 3) := by decide +kernel
theorem dX7_dispute_5 : decode cX7_dispute 5 = .ok (.astore_n 3, 1) := by decide +kernel
theorem dX7_dispute_6 : decode cX7_dispute 6 = .ok (.iload_n 2, 1) := by decide +kernel
theorem dX7_dispute_7 : decode cX7_dispute 7 = .ok (.iconst 1, 1) := by decide +kernel
theorem dX7_dispute_8 : decode cX7_dispute 8 = .ok (.ldc 93, 2) := by decide +kernel
theorem dX7_dispute_10 : decode cX7_dispute 10 = .ok (.invokestatic 75, 3) := by decide +kernel
theorem dX7_dispute_13 : decode cX7_dispute 13 = .ok (.aload_n 0, 1) := by decide +kernel
theorem dX7_dispute_14 : decode cX7_dispute 14 = .ok (.getfield 43, 3) := by decide +kernel
theorem dX7_dispute_17 : decode cX7_dispute 17 = .ok (.invokeinterface 94 1, 5) := by decide +kernel
theorem dX7_dispute_22 : decode cX7_dispute 22 = .ok (.bipush 60, 2) := by decide +kernel
theorem dX7_dispute_24 : decode cX7_dispute 24 = .ok (.if_icmp .ge 7, 3) := by decide +kernel
theorem dX7_dispute_27 : decode cX7_dispute 27 = .ok (.iconst 1, 1) := by decide +kernel
theorem dX7_dispute_28 : decode cX7_dispute 28 = .ok (.goto 4, 3) := by decide +kernel
theorem dX7_dispute_31 : decode cX7_dispute 31 = .ok (.iconst 0, 1) := by decide +kernel
theorem dX7_dispute_32 : decode cX7_dispute 32 = .ok (.invokestatic 100, 3) := by decide +kernel
theorem dX7_dispute_35 : decode cX7_dispute 35 = .ok (.iload_n 2, 1) := by decide +kernel
theorem dX7_dispute_36 : decode cX7_dispute 36 = .ok (.aload_n 3, 1) := by decide +kernel
theorem dX7_dispute_37 : decode cX7_dispute 37 = .ok (.getfield 148, 3) := by decide +kernel
theorem dX7_dispute_40 : decode cX7_dispute 40 = .ok (.aload_n 0, 1) := by decide +kernel
theorem dX7_dispute_41 : decode cX7_dispute 41 = .ok (.aload_n 3, 1) := by decide +kernel
theorem dX7_dispute_42 : decode cX7_dispute 42 = .ok (.invokevirtual 167, 3) := by decide +kernel
theorem dX7_dispute_45 : decode cX7_dispute 45 = .ok (.isub, 1) := by decide +kernel
theorem dX7_dispute_46 : decode cX7_dispute 46 = .ok (.if_icmp .gt 7, 3) := by decide +kernel
theorem dX7_dispute_49 : decode cX7_dispute 49 = .ok (.iconst 1, 1) := by decide +kernel
theorem dX7_dispute_50 : decode cX7_dispute 50 = .ok (.goto 4, 3) := by decide +kernel
theorem dX7_dispute_53 : decode cX7_dispute 53 = .ok (.iconst 0, 1) := by decide +kernel
theorem dX7_dispute_54 : decode cX7_dispute 54 = .ok (.invokestatic 100, 3) := by decide +kernel
theorem dX7_dispute_57 : decode cX7_dispute 57 = .ok (.new 174, 3) := by decide +kernel
theorem dX7_dispute_60 : decode cX7_dispute 60 = .ok (.dup, 1) := by decide +kernel
theorem dX7_dispute_61 : decode cX7_dispute 61 = .ok (.aload_n 0, 1) := by decide +kernel
theorem dX7_dispute_62 : decode cX7_dispute 62 = .ok (.getfield 43, 3) := by decide +kernel
theorem dX7_dispute_65 : decode cX7_dispute 65 = .ok (.invokeinterface 94 1, 5) := by decide +kernel
theorem dX7_dispute_70 : decode cX7_dispute 70 = .ok (.aload_n 3, 1) := by decide +kernel
theorem dX7_dispute_71 : decode cX7_dispute 71 = .ok (.iload_n 2, 1) := by decide +kernel
theorem dX7_dispute_72 : decode cX7_dispute 72 = .ok (.aload_n 0, 1) := by decide +kernel
theorem dX7_dispute_73 : decode cX7_dispute 73 = .ok (.getfield 46, 3) := by decide +kernel
theorem dX7_dispute_76 : decode cX7_dispute 76 = .ok (.bipush 10, 2) := by decide +kernel
theorem dX7_dispute_78 : decode cX7_dispute 78 = .ok (.iadd, 1) := by decide +kernel
theorem dX7_dispute_79 : decode cX7_dispute 79 = .ok (.invokespecial 176, 3) := by decide +kernel
theorem dX7_dispute_82 : decode cX7_dispute 82 = .ok (.astore 4, 2) := by decide +kernel
theorem dX7_dispute_84 : decode cX7_dispute 84 = .ok (.aload_n 0, 1) := by decide +kernel
theorem dX7_dispute_85 : decode cX7_dispute 85 = .ok (.getfield 43, 3) := by decide +kernel
theorem dX7_dispute_88 : decode cX7_dispute 88 = .ok (.aload 4, 2) := by decide +kernel
theorem dX7_dispute_90 : decode cX7_dispute 90 = .ok (.invokeinterface 113 2, 5) := by decide +kernel
theorem dX7_dispute_95 : decode cX7_dispute 95 = .ok (.pop, 1) := by decide +kernel
theorem dX7_dispute_96 : decode cX7_dispute 96 = .ok (.aload_n 3, 1) := by decide +kernel
theorem dX7_dispute_97 : decode cX7_dispute 97 = .ok (.invokevirtual 145, 3) := by decide +kernel
theorem dX7_dispute_100 : decode cX7_dispute 100 = .ok (.aload_n 3, 1) := by decide +kernel
theorem dX7_dispute_101 : decode cX7_dispute 101 = .ok (.invokevirtual 141, 3) := by decide +kernel
theorem dX7_dispute_104 : decode cX7_dispute 104 = .ok (.iload_n 2, 1) := by decide +kernel
theorem dX7_dispute_105 : decode cX7_dispute 105 = .ok (.invokevirtual 154, 3) := by decide +kernel
theorem dX7_dispute_108 : decode cX7_dispute 108 = .ok (.aload 4, 2) := by decide +kernel
theorem dX7_dispute_110 : decode cX7_dispute 110 = .ok (.getfield 179, 3) := by decide +kernel
theorem dX7_dispute_113 : decode cX7_dispute 113 = .ok (.ireturn, 1) := by decide +kernel
set_option maxRecDepth 20000 in
theorem ggX7_answer_X7_chargebackAt : GoodIn wsX7_answer wsX7_chargebackAt := goodIn_ca (goodIn_r _ [8, 9, 10, 11, 12, 13, 14, 15, 16, 17, 18, 19, 20, 21, 22, 23, 24, 25, 26, 27, 28, 29, 30, 31, 32, 33, 34, 35, 76, 77, 78, 79, 80, 81, 82, 83, 84, 85, 86] (by decide +kernel) (by decide +kernel)) (goodIn_sub (fun _ h => List.mem_cons_of_mem _ (List.mem_append_left _ (List.mem_append_right _ h))) (by decide +kernel))
set_option maxRecDepth 20000 in
theorem gX7_answer_X7_chargebackAt : GoodIn wsX7_answer (wsV RX7 180 RX7 yX7_chargebackAt wsX7_chargebackAt) := goodIn_app (goodIn_of _ (by decide +kernel)) ggX7_answer_X7_chargebackAt
set_option maxRecDepth 20000 in
theorem ggX7_answer_X7_requirePossible : GoodIn wsX7_answer wsX7_requirePossible := goodIn_ca (goodIn_r _ [38, 39, 40] (by decide +kernel) (by decide +kernel)) (goodIn_sub (fun _ h => List.mem_cons_of_mem _ (List.mem_append_right _ h)) (by decide +kernel))
set_option maxRecDepth 20000 in
theorem gX7_answer_X7_requirePossible : GoodIn wsX7_answer (va_wsS RX7 100 yX7_requirePossible wsX7_requirePossible) := goodIn_app (goodIn_of _ (by decide +kernel)) ggX7_answer_X7_requirePossible
set_option maxRecDepth 20000 in
theorem ggX7_answer_X7_payBackToShop : GoodIn wsX7_answer wsX7_payBackToShop := goodIn_r _ [43, 44, 45, 46, 47, 48, 49, 50, 51, 52, 53, 54, 55, 56, 57, 58, 59, 60, 61, 62, 63, 64, 65, 66, 67, 68, 69, 70, 71, 72, 73, 74, 75, 87, 88, 89, 90, 91, 92, 93, 94, 95, 96, 97, 98, 99, 100, 101, 102, 103, 104, 105] (by decide +kernel) (by decide +kernel)
set_option maxRecDepth 20000 in
theorem gX7_answer_X7_payBackToShop : GoodIn wsX7_answer (va_wsS RX7 190 yX7_payBackToShop wsX7_payBackToShop) := goodIn_app (goodIn_of _ (by decide +kernel)) ggX7_answer_X7_payBackToShop
theorem dX7_answer_0 : decode cX7_answer 0 = .ok (.aload_n 0, 1) := by decide +kernel
theorem dX7_answer_1 : decode cX7_answer 1 = .ok (.iload_n 1, 1) := by decide +kernel
theorem dX7_answer_2 : decode cX7_answer 2 = .ok (.invokevirtual 180, 3) := by decide +kernel
theorem dX7_answer_5 : decode cX7_answer 5 = .ok (.astore_n 2, 1) := by decide +kernel
theorem dX7_answer_6 : decode cX7_answer 6 = .ok (.aload_n 2, 1) := by decide +kernel
theorem dX7_answer_7 : decode cX7_answer 7 = .ok (.getfield 184, 3) := by decide +kernel
theorem dX7_answer_10 : decode cX7_answer 10 = .ok (.ifCond .ne 7, 3) := by decide +kernel
theorem dX7_answer_13 : decode cX7_answer 13 = .ok (.iconst 1, 1) := by decide +kernel
theorem dX7_answer_14 : decode cX7_answer 14 = .ok (.goto 4, 3) := by decide +kernel
theorem dX7_answer_17 : decode cX7_answer 17 = .ok (.iconst 0, 1) := by decide +kernel
theorem dX7_answer_18 : decode cX7_answer 18 = .ok (.invokestatic 100, 3) := by decide +kernel
theorem dX7_answer_21 : decode cX7_answer 21 = .ok (.aload_n 2, 1) := by decide +kernel
theorem dX7_answer_22 : decode cX7_answer 22 = .ok (.iconst 1, 1) := by decide +kernel
theorem dX7_answer_23 : decode cX7_answer 23 = .ok (.putfield 184, 3) := by decide +kernel
theorem dX7_answer_26 : decode cX7_answer 26 = .ok (.aload_n 2, 1) := by decide +kernel
theorem dX7_answer_27 : decode cX7_answer 27 = .ok (.aload_n 0, 1) := by decide +kernel
theorem dX7_answer_28 : decode cX7_answer 28 = .ok (.getfield 46, 3) := by decide +kernel
theorem dX7_answer_31 : decode cX7_answer 31 = .ok (.bipush 10, 2) := by decide +kernel
theorem dX7_answer_33 : decode cX7_answer 33 = .ok (.iadd, 1) := by decide +kernel
theorem dX7_answer_34 : decode cX7_answer 34 = .ok (.putfield 187, 3) := by decide +kernel
theorem dX7_answer_37 : decode cX7_answer 37 = .ok (.aload_n 2, 1) := by decide +kernel
theorem dX7_answer_38 : decode cX7_answer 38 = .ok (.invokestatic 190, 3) := by decide +kernel
theorem dX7_answer_41 : decode cX7_answer 41 = .ok (.aload_n 2, 1) := by decide +kernel
theorem dX7_answer_42 : decode cX7_answer 42 = .ok (.getfield 187, 3) := by decide +kernel
theorem dX7_answer_45 : decode cX7_answer 45 = .ok (.ireturn, 1) := by decide +kernel
set_option maxRecDepth 20000 in
theorem ggX7_press_X7_chargebackAt : GoodIn wsX7_press wsX7_chargebackAt := goodIn_ca (goodIn_r _ [9, 10, 11, 12, 13, 14, 15, 16, 17, 18, 19, 20, 21, 22, 23, 24, 25, 26, 27, 28, 29, 30, 31, 32, 33, 34, 35, 36, 76, 77, 78, 79, 80, 81, 82, 83, 84, 85, 86] (by decide +kernel) (by decide +kernel)) (goodIn_sub (fun _ h => List.mem_cons_of_mem _ (List.mem_append_left _ (List.mem_append_right _ h))) (by decide +kernel))
set_option maxRecDepth 20000 in
theorem gX7_press_X7_chargebackAt : GoodIn wsX7_press (wsV RX7 180 RX7 yX7_chargebackAt wsX7_chargebackAt) := goodIn_app (goodIn_of _ (by decide +kernel)) ggX7_press_X7_chargebackAt
set_option maxRecDepth 20000 in
theorem ggX7_press_X7_requirePossible : GoodIn wsX7_press wsX7_requirePossible := goodIn_ca (goodIn_r _ [39, 40, 41] (by decide +kernel) (by decide +kernel)) (goodIn_sub (fun _ h => List.mem_cons_of_mem _ (List.mem_append_right _ h)) (by decide +kernel))
set_option maxRecDepth 20000 in
theorem gX7_press_X7_requirePossible : GoodIn wsX7_press (va_wsS RX7 100 yX7_requirePossible wsX7_requirePossible) := goodIn_app (goodIn_of _ (by decide +kernel)) ggX7_press_X7_requirePossible
set_option maxRecDepth 20000 in
theorem ggX7_press_X1_shopBank : GoodIn wsX7_press wsX1_shopBank := goodIn_r _ [46, 47, 48, 49, 87, 88, 89, 90, 91, 92, 93, 94, 95, 96, 97, 98, 99, 100, 101] (by decide +kernel) (by decide +kernel)
set_option maxRecDepth 20000 in
theorem gX7_press_X1_shopBank : GoodIn wsX7_press (wsV RX7 145 RX1 yX1_shopBank wsX1_shopBank) := goodIn_app (goodIn_of _ (by decide +kernel)) ggX7_press_X1_shopBank
set_option maxRecDepth 20000 in
theorem ggX7_press_X1_cardBank : GoodIn wsX7_press wsX1_cardBank := goodIn_r _ [53, 47, 54, 55, 87, 88, 89, 90, 91, 92, 93, 94, 95, 96, 97, 98, 102, 103] (by decide +kernel) (by decide +kernel)
set_option maxRecDepth 20000 in
theorem gX7_press_X1_cardBank : GoodIn wsX7_press (wsV RX7 141 RX1 yX1_cardBank wsX1_cardBank) := goodIn_app (goodIn_of _ (by decide +kernel)) ggX7_press_X1_cardBank
set_option maxRecDepth 20000 in
theorem ggX7_press_X0_pay : GoodIn wsX7_press wsX0_pay := goodIn_r _ [60, 61, 62, 63, 59, 64, 65, 66, 104, 105] (by decide +kernel) (by decide +kernel)
set_option maxRecDepth 20000 in
theorem gX7_press_X0_pay : GoodIn wsX7_press (wsV RX7 154 RX0 yX0_pay wsX0_pay) := goodIn_app (goodIn_of _ (by decide +kernel)) ggX7_press_X0_pay
set_option maxRecDepth 20000 in
theorem ggX7_press_X7_countPressed : GoodIn wsX7_press wsX7_countPressed := goodIn_r _ [70, 12, 13, 1, 14, 15, 16, 17, 18, 19, 20, 21, 22, 23, 24, 25, 26, 27, 28, 29, 30, 31, 32, 33, 34, 35, 36, 76, 77, 78, 79, 80, 81, 82, 83, 71, 72, 73, 74, 75, 84, 85, 86] (by decide +kernel) (by decide +kernel)
set_option maxRecDepth 20000 in
theorem gX7_press_X7_countPressed : GoodIn wsX7_press (wsV RX7 199 RX7 yX7_countPressed wsX7_countPressed) := goodIn_app (goodIn_of _ (by decide +kernel)) ggX7_press_X7_countPressed
theorem dX7_press_0 : decode cX7_press 0 = .ok (.aload_n 0, 1) := by decide +kernel
theorem dX7_press_1 : decode cX7_press 1 = .ok (.iload_n 1, 1) := by decide +kernel
theorem dX7_press_2 : decode cX7_press 2 = .ok (.invokevirtual 180, 3) := by decide +kernel
theorem dX7_press_5 : decode cX7_press 5 = .ok (.astore_n 2, 1) := by decide +kernel
theorem dX7_press_6 : decode cX7_press 6 = .ok (.aload_n 2, 1) := by decide +kernel
theorem dX7_press_7 : decode cX7_press 7 = .ok (.getfield 184, 3) := by decide +kernel
theorem dX7_press_10 : decode cX7_press 10 = .ok (.iconst 1, 1) := by decide +kernel
theorem dX7_press_11 : decode cX7_press 11 = .ok (.if_icmp .ne 7, 3) := by decide +kernel
theorem dX7_press_14 : decode cX7_press 14 = .ok (.iconst 1, 1) := by decide +kernel
theorem dX7_press_15 : decode cX7_press 15 = .ok (.goto 4, 3) := by decide +kernel
theorem dX7_press_18 : decode cX7_press 18 = .ok (.iconst 0, 1) := by decide +kernel
theorem dX7_press_19 : decode cX7_press 19 = .ok (.invokestatic 100, 3) := by decide +kernel
theorem dX7_press_22 : decode cX7_press 22 = .ok (.aload_n 2, 1) := by decide +kernel
theorem dX7_press_23 : decode cX7_press 23 = .ok (.iconst 2, 1) := by decide +kernel
theorem dX7_press_24 : decode cX7_press 24 = .ok (.putfield 184, 3) := by decide +kernel
theorem dX7_press_27 : decode cX7_press 27 = .ok (.aload_n 2, 1) := by decide +kernel
theorem dX7_press_28 : decode cX7_press 28 = .ok (.iconst (-1), 1) := by decide +kernel
theorem dX7_press_29 : decode cX7_press 29 = .ok (.putfield 187, 3) := by decide +kernel
theorem dX7_press_32 : decode cX7_press 32 = .ok (.aload_n 2, 1) := by decide +kernel
theorem dX7_press_33 : decode cX7_press 33 = .ok (.getfield 194, 3) := by decide +kernel
theorem dX7_press_36 : decode cX7_press 36 = .ok (.invokevirtual 145, 3) := by decide +kernel
theorem dX7_press_39 : decode cX7_press 39 = .ok (.aload_n 2, 1) := by decide +kernel
theorem dX7_press_40 : decode cX7_press 40 = .ok (.getfield 194, 3) := by decide +kernel
theorem dX7_press_43 : decode cX7_press 43 = .ok (.invokevirtual 141, 3) := by decide +kernel
theorem dX7_press_46 : decode cX7_press 46 = .ok (.aload_n 2, 1) := by decide +kernel
theorem dX7_press_47 : decode cX7_press 47 = .ok (.getfield 198, 3) := by decide +kernel
theorem dX7_press_50 : decode cX7_press 50 = .ok (.invokevirtual 154, 3) := by decide +kernel
theorem dX7_press_53 : decode cX7_press 53 = .ok (.aload_n 0, 1) := by decide +kernel
theorem dX7_press_54 : decode cX7_press 54 = .ok (.invokevirtual 199, 3) := by decide +kernel
theorem dX7_press_57 : decode cX7_press 57 = .ok (.ireturn, 1) := by decide +kernel
set_option maxRecDepth 20000 in
theorem ggX7_rule_X7_chargebackAt : GoodIn wsX7_rule wsX7_chargebackAt := goodIn_ca (goodIn_r _ [6, 7, 8, 9, 10, 11, 12, 13, 14, 15, 16, 17, 18, 19, 20, 21, 22, 23, 24, 25, 26, 27, 28, 29, 30, 31, 32, 33, 74, 75, 76, 77, 78, 79, 80, 81, 82, 83, 84] (by decide +kernel) (by decide +kernel)) (goodIn_sub (fun _ h => List.mem_cons_of_mem _ (List.mem_append_left _ (List.mem_append_right _ h))) (by decide +kernel))
set_option maxRecDepth 20000 in
theorem gX7_rule_X7_chargebackAt : GoodIn wsX7_rule (wsV RX7 180 RX7 yX7_chargebackAt wsX7_chargebackAt) := goodIn_app (goodIn_of _ (by decide +kernel)) ggX7_rule_X7_chargebackAt
set_option maxRecDepth 20000 in
theorem ggX7_rule_X7_requirePossible : GoodIn wsX7_rule wsX7_requirePossible := goodIn_ca (goodIn_r _ [36, 37, 38] (by decide +kernel) (by decide +kernel)) (goodIn_sub (fun _ h => List.mem_cons_of_mem _ (List.mem_append_right _ h)) (by decide +kernel))
set_option maxRecDepth 20000 in
theorem gX7_rule_X7_requirePossible : GoodIn wsX7_rule (va_wsS RX7 100 yX7_requirePossible wsX7_requirePossible) := goodIn_app (goodIn_of _ (by decide +kernel)) ggX7_rule_X7_requirePossible
set_option maxRecDepth 20000 in
theorem ggX7_rule_X7_payBackToShop : GoodIn wsX7_rule wsX7_payBackToShop := goodIn_r _ [41, 42, 43, 44, 45, 46, 47, 48, 49, 50, 51, 52, 53, 54, 55, 56, 57, 58, 59, 60, 61, 62, 63, 64, 65, 66, 67, 68, 69, 70, 71, 72, 73, 85, 86, 87, 88, 89, 90, 91, 92, 93, 94, 95, 96, 97, 98, 99, 100, 101, 102, 103] (by decide +kernel) (by decide +kernel)
set_option maxRecDepth 20000 in
theorem gX7_rule_X7_payBackToShop : GoodIn wsX7_rule (va_wsS RX7 190 yX7_payBackToShop wsX7_payBackToShop) := goodIn_app (goodIn_of _ (by decide +kernel)) ggX7_rule_X7_payBackToShop
theorem dX7_rule_0 : decode cX7_rule 0 = .ok (.aload_n 0, 1) := by decide +kernel
theorem dX7_rule_1 : decode cX7_rule 1 = .ok (.iload_n 1, 1) := by decide +kernel
theorem dX7_rule_2 : decode cX7_rule 2 = .ok (.invokevirtual 180, 3) := by decide +kernel
theorem dX7_rule_5 : decode cX7_rule 5 = .ok (.astore_n 3, 1) := by decide +kernel
theorem dX7_rule_6 : decode cX7_rule 6 = .ok (.aload_n 3, 1) := by decide +kernel
theorem dX7_rule_7 : decode cX7_rule 7 = .ok (.getfield 184, 3) := by decide +kernel
theorem dX7_rule_10 : decode cX7_rule 10 = .ok (.iconst 2, 1) := by decide +kernel
theorem dX7_rule_11 : decode cX7_rule 11 = .ok (.if_icmp .ne 7, 3) := by decide +kernel
theorem dX7_rule_14 : decode cX7_rule 14 = .ok (.iconst 1, 1) := by decide +kernel
theorem dX7_rule_15 : decode cX7_rule 15 = .ok (.goto 4, 3) := by decide +kernel
theorem dX7_rule_18 : decode cX7_rule 18 = .ok (.iconst 0, 1) := by decide +kernel
theorem dX7_rule_19 : decode cX7_rule 19 = .ok (.invokestatic 100, 3) := by decide +kernel
theorem dX7_rule_22 : decode cX7_rule 22 = .ok (.iload_n 2, 1) := by decide +kernel
theorem dX7_rule_23 : decode cX7_rule 23 = .ok (.ifCond .eq 11, 3) := by decide +kernel
theorem dX7_rule_26 : decode cX7_rule 26 = .ok (.aload_n 3, 1) := by decide +kernel
theorem dX7_rule_27 : decode cX7_rule 27 = .ok (.iconst 3, 1) := by decide +kernel
theorem dX7_rule_28 : decode cX7_rule 28 = .ok (.putfield 184, 3) := by decide +kernel
theorem dX7_rule_31 : decode cX7_rule 31 = .ok (.goto 12, 3) := by decide +kernel
theorem dX7_rule_34 : decode cX7_rule 34 = .ok (.aload_n 3, 1) := by decide +kernel
theorem dX7_rule_35 : decode cX7_rule 35 = .ok (.iconst 4, 1) := by decide +kernel
theorem dX7_rule_36 : decode cX7_rule 36 = .ok (.putfield 184, 3) := by decide +kernel
theorem dX7_rule_39 : decode cX7_rule 39 = .ok (.aload_n 3, 1) := by decide +kernel
theorem dX7_rule_40 : decode cX7_rule 40 = .ok (.invokestatic 190, 3) := by decide +kernel
theorem dX7_rule_43 : decode cX7_rule 43 = .ok (.aload_n 3, 1) := by decide +kernel
theorem dX7_rule_44 : decode cX7_rule 44 = .ok (.getfield 184, 3) := by decide +kernel
theorem dX7_rule_47 : decode cX7_rule 47 = .ok (.ireturn, 1) := by decide +kernel
set_option maxRecDepth 20000 in
theorem ggX7_pass_X7_requireRange : GoodIn wsX7_pass wsX7_requireRange := goodIn_ca (goodIn_r _ [5, 6, 7] (by decide +kernel) (by decide +kernel)) (goodIn_sub (fun _ h => List.mem_cons_of_mem _ (List.mem_append_right _ h)) (by decide +kernel))
set_option maxRecDepth 20000 in
theorem gX7_pass_X7_requireRange : GoodIn wsX7_pass (va_wsS RX7 75 yX7_requireRange wsX7_requireRange) := goodIn_app (goodIn_of _ (by decide +kernel)) ggX7_pass_X7_requireRange
set_option maxRecDepth 20000 in
theorem ggX7_pass_X7_beginNextDay : GoodIn wsX7_pass wsX7_beginNextDay := goodIn_r _ [11, 1, 12, 13, 14, 15, 16, 17, 18, 19, 20, 21, 22, 23, 24, 25, 26, 27, 28, 29, 30, 31, 32, 33, 34, 35, 36, 37, 38, 39, 40, 41, 42, 43, 44, 45, 46, 47, 48, 49, 50, 51, 52, 53, 54, 55, 56, 57, 58, 59, 60, 61, 62, 63, 64, 65, 66, 67] (by decide +kernel) (by decide +kernel)
set_option maxRecDepth 20000 in
theorem gX7_pass_X7_beginNextDay : GoodIn wsX7_pass (wsV RX7 202 RX7 yX7_beginNextDay wsX7_beginNextDay) := goodIn_app (goodIn_of _ (by decide +kernel)) ggX7_pass_X7_beginNextDay
theorem dX7_pass_0 : decode cX7_pass 0 = .ok (.iload_n 1, 1) := by decide +kernel
theorem dX7_pass_1 : decode cX7_pass 1 = .ok (.iconst 1, 1) := by decide +kernel
theorem dX7_pass_2 : decode cX7_pass 2 = .ok (.bipush 100, 2) := by decide +kernel
theorem dX7_pass_4 : decode cX7_pass 4 = .ok (.invokestatic 75, 3) := by decide +kernel
theorem dX7_pass_7 : decode cX7_pass 7 = .ok (.iconst 0, 1) := by decide +kernel
theorem dX7_pass_8 : decode cX7_pass 8 = .ok (.istore_n 2, 1) := by decide +kernel
theorem dX7_pass_9 : decode cX7_pass 9 = .ok (.iload_n 2, 1) := by decide +kernel
theorem dX7_pass_10 : decode cX7_pass 10 = .ok (.iload_n 1, 1) := by decide +kernel
theorem dX7_pass_11 : decode cX7_pass 11 = .ok (.if_icmp .ge 13, 3) := by decide +kernel
theorem dX7_pass_14 : decode cX7_pass 14 = .ok (.aload_n 0, 1) := by decide +kernel
theorem dX7_pass_15 : decode cX7_pass 15 = .ok (.invokevirtual 202, 3) := by decide +kernel
theorem dX7_pass_18 : decode cX7_pass 18 = .ok (.iinc 2 1, 3) := by decide +kernel
theorem dX7_pass_21 : decode cX7_pass 21 = .ok (.goto (-12), 3) := by decide +kernel
theorem dX7_pass_24 : decode cX7_pass 24 = .ok (.aload_n 0, 1) := by decide +kernel
theorem dX7_pass_25 : decode cX7_pass 25 = .ok (.getfield 46, 3) := by decide +kernel
theorem dX7_pass_28 : decode cX7_pass 28 = .ok (.ireturn, 1) := by decide +kernel
set_option maxRecDepth 20000 in
theorem ggX7_paymentOf_X7_paymentAt : GoodIn wsX7_paymentOf wsX7_paymentAt := goodIn_ca (goodIn_r _ [15, 16, 17, 18, 19, 20, 21, 22, 23, 24, 25, 26, 27, 28, 29, 30, 31, 32, 33, 34, 35, 36, 37, 38, 39, 40, 41, 42, 68, 69, 70, 71, 72, 73, 74, 75, 76, 77, 78] (by decide +kernel) (by decide +kernel)) (goodIn_sub (fun _ h => List.mem_cons_of_mem _ (List.mem_append_right _ h)) (by decide +kernel))
set_option maxRecDepth 20000 in
theorem gX7_paymentOf_X7_paymentAt : GoodIn wsX7_paymentOf (wsV RX7 118 RX7 yX7_paymentAt wsX7_paymentAt) := goodIn_app (goodIn_of _ (by decide +kernel)) ggX7_paymentOf_X7_paymentAt
set_option maxRecDepth 20000 in
theorem ggX7_paymentOf_X5_isAlive : GoodIn wsX7_paymentOf wsX5_isAlive := goodIn_r _ [47, 48, 49, 56, 57, 58, 59, 60, 61, 62] (by decide +kernel) (by decide +kernel)
set_option maxRecDepth 20000 in
theorem gX7_paymentOf_X5_isAlive : GoodIn wsX7_paymentOf (wsV RX7 122 RX5 yX5_isAlive wsX5_isAlive) := goodIn_app (goodIn_of _ (by decide +kernel)) ggX7_paymentOf_X5_isAlive
set_option maxRecDepth 20000 in
theorem ggX7_paymentOf_X5_left : GoodIn wsX7_paymentOf wsX5_left := goodIn_r _ [53, 54, 55, 56, 57, 58, 59, 60, 61, 62] (by decide +kernel) (by decide +kernel)
set_option maxRecDepth 20000 in
theorem gX7_paymentOf_X5_left : GoodIn wsX7_paymentOf (wsV RX7 126 RX5 yX5_left wsX5_left) := goodIn_app (goodIn_of _ (by decide +kernel)) ggX7_paymentOf_X5_left
theorem dX7_paymentOf_0 : decode cX7_paymentOf 0 = .ok (.aload_n 0, 1) := by decide +kernel
theorem dX7_paymentOf_1 : decode cX7_paymentOf 1 = .ok (.iload_n 1, 1) := by decide +kernel
theorem dX7_paymentOf_2 : decode cX7_paymentOf 2 = .ok (.invokevirtual 118, 3) := by decide +kernel
theorem dX7_paymentOf_5 : decode cX7_paymentOf 5 = .ok (.astore_n 3, 1) := by decide +kernel
theorem dX7_paymentOf_6 : decode cX7_paymentOf 6 = .ok (.iload_n 2, 1) := by decide +kernel
theorem dX7_paymentOf_7 : decode cX7_paymentOf 7 = .ok (.tableswitch 92 0 5 #[37, 45, 53, 58, 63, 68], 37) := by decide +kernel
theorem dX7_paymentOf_44 : decode cX7_paymentOf 44 = .ok (.aload_n 3, 1) := by decide +kernel
theorem dX7_paymentOf_45 : decode cX7_paymentOf 45 = .ok (.getfield 205, 3) := by decide +kernel
theorem dX7_paymentOf_48 : decode cX7_paymentOf 48 = .ok (.getfield 209, 3) := by decide +kernel
theorem dX7_paymentOf_51 : decode cX7_paymentOf 51 = .ok (.ireturn, 1) := by decide +kernel
theorem dX7_paymentOf_52 : decode cX7_paymentOf 52 = .ok (.aload_n 3, 1) := by decide +kernel
theorem dX7_paymentOf_53 : decode cX7_paymentOf 53 = .ok (.getfield 131, 3) := by decide +kernel
theorem dX7_paymentOf_56 : decode cX7_paymentOf 56 = .ok (.getfield 210, 3) := by decide +kernel
theorem dX7_paymentOf_59 : decode cX7_paymentOf 59 = .ok (.ireturn, 1) := by decide +kernel
theorem dX7_paymentOf_60 : decode cX7_paymentOf 60 = .ok (.aload_n 3, 1) := by decide +kernel
theorem dX7_paymentOf_61 : decode cX7_paymentOf 61 = .ok (.getfield 211, 3) := by decide +kernel
theorem dX7_paymentOf_64 : decode cX7_paymentOf 64 = .ok (.ireturn, 1) := by decide +kernel
theorem dX7_paymentOf_65 : decode cX7_paymentOf 65 = .ok (.aload_n 3, 1) := by decide +kernel
theorem dX7_paymentOf_66 : decode cX7_paymentOf 66 = .ok (.getfield 138, 3) := by decide +kernel
theorem dX7_paymentOf_69 : decode cX7_paymentOf 69 = .ok (.ireturn, 1) := by decide +kernel
theorem dX7_paymentOf_70 : decode cX7_paymentOf 70 = .ok (.aload_n 3, 1) := by decide +kernel
theorem dX7_paymentOf_71 : decode cX7_paymentOf 71 = .ok (.getfield 212, 3) := by decide +kernel
theorem dX7_paymentOf_74 : decode cX7_paymentOf 74 = .ok (.ireturn, 1) := by decide +kernel
theorem dX7_paymentOf_75 : decode cX7_paymentOf 75 = .ok (.aload_n 3, 1) := by decide +kernel
theorem dX7_paymentOf_76 : decode cX7_paymentOf 76 = .ok (.aload_n 0, 1) := by decide +kernel
theorem dX7_paymentOf_77 : decode cX7_paymentOf 77 = .ok (.getfield 46, 3) := by decide +kernel
theorem dX7_paymentOf_80 : decode cX7_paymentOf 80 = .ok (.invokevirtual 122, 3) := by decide +kernel
theorem dX7_paymentOf_83 : decode cX7_paymentOf 83 = .ok (.ifCond .eq 14, 3) := by decide +kernel
theorem dX7_paymentOf_86 : decode cX7_paymentOf 86 = .ok (.aload_n 3, 1) := by decide +kernel
theorem dX7_paymentOf_87 : decode cX7_paymentOf 87 = .ok (.invokevirtual 126, 3) := by decide +kernel
theorem dX7_paymentOf_90 : decode cX7_paymentOf 90 = .ok (.ifCond .le 7, 3) := by decide +kernel
theorem dX7_paymentOf_93 : decode cX7_paymentOf 93 = .ok (.iconst 1, 1) := by decide +kernel
theorem dX7_paymentOf_94 : decode cX7_paymentOf 94 = .ok (.goto 4, 3) := by decide +kernel
theorem dX7_paymentOf_97 : decode cX7_paymentOf 97 = .ok (.iconst 0, 1) := by decide +kernel
theorem dX7_paymentOf_98 : decode cX7_paymentOf 98 = .ok (.ireturn, 1) := by decide +kernel
theorem dX7_paymentOf_99 : decode cX7_paymentOf 99 = .ok (.new 213, 3) := by decide +kernel
theorem dX7_paymentOf_102 : decode cX7_paymentOf 102 = .ok (.dup, 1) := by decide +kernel
theorem dX7_paymentOf_103 : decode cX7_paymentOf 103 = .ok (.ldc 215, 2) := by decide +kernel
theorem dX7_paymentOf_105 : decode cX7_paymentOf 105 = .ok (.invokespecial 217, 3) := by decide +kernel
theorem dX7_paymentOf_108 : decode cX7_paymentOf 108 = .ok (.athrow, 1) := by decide +kernel
set_option maxRecDepth 20000 in
theorem ggX7_captureOf_X7_captureAt : GoodIn wsX7_captureOf wsX7_captureAt := goodIn_ca (goodIn_r _ [12, 13, 14, 15, 16, 17, 18, 19, 20, 21, 22, 23, 24, 25, 26, 27, 28, 29, 30, 31, 32, 33, 34, 35, 36, 37, 38, 39, 61, 62, 63, 64, 65, 66, 67, 68, 69, 70, 71] (by decide +kernel) (by decide +kernel)) (goodIn_sub (fun _ h => List.mem_cons_of_mem _ (List.mem_append_right _ h)) (by decide +kernel))
set_option maxRecDepth 20000 in
theorem gX7_captureOf_X7_captureAt : GoodIn wsX7_captureOf (wsV RX7 163 RX7 yX7_captureAt wsX7_captureAt) := goodIn_app (goodIn_of _ (by decide +kernel)) ggX7_captureOf_X7_captureAt
set_option maxRecDepth 20000 in
theorem ggX7_captureOf_X7_givenBackOf : GoodIn wsX7_captureOf wsX7_givenBackOf := goodIn_r _ [43, 7, 44, 45, 46, 47, 48, 17, 18, 19, 20, 21, 22, 23, 24, 25, 26, 27, 28, 29, 30, 31, 32, 33, 34, 35, 36, 37, 38, 39, 49, 50, 51, 52, 53, 61, 62, 63, 64, 65, 66, 67, 68, 72, 73, 74, 75, 76, 69, 70, 71] (by decide +kernel) (by decide +kernel)
set_option maxRecDepth 20000 in
theorem gX7_captureOf_X7_givenBackOf : GoodIn wsX7_captureOf (wsV RX7 167 RX7 yX7_givenBackOf wsX7_givenBackOf) := goodIn_app (goodIn_of _ (by decide +kernel)) ggX7_captureOf_X7_givenBackOf
theorem dX7_captureOf_0 : decode cX7_captureOf 0 = .ok (.aload_n 0, 1) := by decide +kernel
theorem dX7_captureOf_1 : decode cX7_captureOf 1 = .ok (.iload_n 1, 1) := by decide +kernel
theorem dX7_captureOf_2 : decode cX7_captureOf 2 = .ok (.invokevirtual 163, 3) := by decide +kernel
theorem dX7_captureOf_5 : decode cX7_captureOf 5 = .ok (.astore_n 3, 1) := by decide +kernel
theorem dX7_captureOf_6 : decode cX7_captureOf 6 = .ok (.iload_n 2, 1) := by decide +kernel
theorem dX7_captureOf_7 : decode cX7_captureOf 7 = .ok (.tableswitch 62 0 4 #[33, 41, 46, 51, 56], 33) := by decide +kernel
theorem dX7_captureOf_40 : decode cX7_captureOf 40 = .ok (.aload_n 3, 1) := by decide +kernel
theorem dX7_captureOf_41 : decode cX7_captureOf 41 = .ok (.getfield 220, 3) := by decide +kernel
theorem dX7_captureOf_44 : decode cX7_captureOf 44 = .ok (.getfield 117, 3) := by decide +kernel
theorem dX7_captureOf_47 : decode cX7_captureOf 47 = .ok (.ireturn, 1) := by decide +kernel
theorem dX7_captureOf_48 : decode cX7_captureOf 48 = .ok (.aload_n 3, 1) := by decide +kernel
theorem dX7_captureOf_49 : decode cX7_captureOf 49 = .ok (.getfield 148, 3) := by decide +kernel
theorem dX7_captureOf_52 : decode cX7_captureOf 52 = .ok (.ireturn, 1) := by decide +kernel
theorem dX7_captureOf_53 : decode cX7_captureOf 53 = .ok (.aload_n 3, 1) := by decide +kernel
theorem dX7_captureOf_54 : decode cX7_captureOf 54 = .ok (.getfield 151, 3) := by decide +kernel
theorem dX7_captureOf_57 : decode cX7_captureOf 57 = .ok (.ireturn, 1) := by decide +kernel
theorem dX7_captureOf_58 : decode cX7_captureOf 58 = .ok (.aload_n 3, 1) := by decide +kernel
theorem dX7_captureOf_59 : decode cX7_captureOf 59 = .ok (.getfield 171, 3) := by decide +kernel
theorem dX7_captureOf_62 : decode cX7_captureOf 62 = .ok (.ireturn, 1) := by decide +kernel
theorem dX7_captureOf_63 : decode cX7_captureOf 63 = .ok (.aload_n 0, 1) := by decide +kernel
theorem dX7_captureOf_64 : decode cX7_captureOf 64 = .ok (.aload_n 3, 1) := by decide +kernel
theorem dX7_captureOf_65 : decode cX7_captureOf 65 = .ok (.invokevirtual 167, 3) := by decide +kernel
theorem dX7_captureOf_68 : decode cX7_captureOf 68 = .ok (.ireturn, 1) := by decide +kernel
theorem dX7_captureOf_69 : decode cX7_captureOf 69 = .ok (.new 213, 3) := by decide +kernel
theorem dX7_captureOf_72 : decode cX7_captureOf 72 = .ok (.dup, 1) := by decide +kernel
theorem dX7_captureOf_73 : decode cX7_captureOf 73 = .ok (.ldc 215, 2) := by decide +kernel
theorem dX7_captureOf_75 : decode cX7_captureOf 75 = .ok (.invokespecial 217, 3) := by decide +kernel
theorem dX7_captureOf_78 : decode cX7_captureOf 78 = .ok (.athrow, 1) := by decide +kernel
set_option maxRecDepth 20000 in
theorem ggX7_chargebackOf_X7_chargebackAt : GoodIn wsX7_chargebackOf wsX7_chargebackAt := goodIn_ca (goodIn_r _ [12, 13, 14, 15, 16, 17, 18, 19, 20, 21, 22, 23, 24, 25, 26, 27, 28, 29, 30, 31, 32, 33, 34, 35, 36, 37, 38, 39, 50, 51, 52, 53, 54, 55, 56, 57, 58, 59, 60] (by decide +kernel) (by decide +kernel)) (goodIn_sub (fun _ h => List.mem_cons_of_mem _ (List.mem_append_right _ h)) (by decide +kernel))
set_option maxRecDepth 20000 in
theorem gX7_chargebackOf_X7_chargebackAt : GoodIn wsX7_chargebackOf (wsV RX7 180 RX7 yX7_chargebackAt wsX7_chargebackAt) := goodIn_app (goodIn_of _ (by decide +kernel)) ggX7_chargebackOf_X7_chargebackAt
theorem dX7_chargebackOf_0 : decode cX7_chargebackOf 0 = .ok (.aload_n 0, 1) := by decide +kernel
theorem dX7_chargebackOf_1 : decode cX7_chargebackOf 1 = .ok (.iload_n 1, 1) := by decide +kernel
theorem dX7_chargebackOf_2 : decode cX7_chargebackOf 2 = .ok (.invokevirtual 180, 3) := by decide +kernel
theorem dX7_chargebackOf_5 : decode cX7_chargebackOf 5 = .ok (.astore_n 3, 1) := by decide +kernel
theorem dX7_chargebackOf_6 : decode cX7_chargebackOf 6 = .ok (.iload_n 2, 1) := by decide +kernel
theorem dX7_chargebackOf_7 : decode cX7_chargebackOf 7 = .ok (.tableswitch 52 0 3 #[29, 34, 42, 47], 29) := by decide +kernel
theorem dX7_chargebackOf_36 : decode cX7_chargebackOf 36 = .ok (.aload_n 3, 1) := by decide +kernel
theorem dX7_chargebackOf_37 : decode cX7_chargebackOf 37 = .ok (.getfield 184, 3) := by decide +kernel
theorem dX7_chargebackOf_40 : decode cX7_chargebackOf 40 = .ok (.ireturn, 1) := by decide +kernel
theorem dX7_chargebackOf_41 : decode cX7_chargebackOf 41 = .ok (.aload_n 3, 1) := by decide +kernel
theorem dX7_chargebackOf_42 : decode cX7_chargebackOf 42 = .ok (.getfield 194, 3) := by decide +kernel
theorem dX7_chargebackOf_45 : decode cX7_chargebackOf 45 = .ok (.getfield 158, 3) := by decide +kernel
theorem dX7_chargebackOf_48 : decode cX7_chargebackOf 48 = .ok (.ireturn, 1) := by decide +kernel
theorem dX7_chargebackOf_49 : decode cX7_chargebackOf 49 = .ok (.aload_n 3, 1) := by decide +kernel
theorem dX7_chargebackOf_50 : decode cX7_chargebackOf 50 = .ok (.getfield 198, 3) := by decide +kernel
theorem dX7_chargebackOf_53 : decode cX7_chargebackOf 53 = .ok (.ireturn, 1) := by decide +kernel
theorem dX7_chargebackOf_54 : decode cX7_chargebackOf 54 = .ok (.aload_n 3, 1) := by decide +kernel
theorem dX7_chargebackOf_55 : decode cX7_chargebackOf 55 = .ok (.getfield 187, 3) := by decide +kernel
theorem dX7_chargebackOf_58 : decode cX7_chargebackOf 58 = .ok (.ireturn, 1) := by decide +kernel
theorem dX7_chargebackOf_59 : decode cX7_chargebackOf 59 = .ok (.new 213, 3) := by decide +kernel
theorem dX7_chargebackOf_62 : decode cX7_chargebackOf 62 = .ok (.dup, 1) := by decide +kernel
theorem dX7_chargebackOf_63 : decode cX7_chargebackOf 63 = .ok (.ldc 215, 2) := by decide +kernel
theorem dX7_chargebackOf_65 : decode cX7_chargebackOf 65 = .ok (.invokespecial 217, 3) := by decide +kernel
theorem dX7_chargebackOf_68 : decode cX7_chargebackOf 68 = .ok (.athrow, 1) := by decide +kernel
set_option maxRecDepth 20000 in
theorem ggX7_limit_X7_cardAt : GoodIn wsX7_limit wsX7_cardAt := goodIn_ca (goodIn_r _ [5, 6, 7, 8, 45, 46, 47, 48, 49, 50, 51, 52] (by decide +kernel) (by decide +kernel)) (goodIn_sub (fun _ h => List.mem_cons_of_mem _ (List.mem_append_right _ h)) (by decide +kernel))
set_option maxRecDepth 20000 in
theorem gX7_limit_X7_cardAt : GoodIn wsX7_limit (wsV RX7 89 RX7 yX7_cardAt wsX7_cardAt) := goodIn_app (goodIn_of _ (by decide +kernel)) ggX7_limit_X7_cardAt
set_option maxRecDepth 20000 in
theorem ggX7_limit_X7_limitOf : GoodIn wsX7_limit wsX7_limitOf := goodIn_r _ [12, 13, 14, 15, 16, 17, 18, 19, 20, 21, 22, 23, 24, 25, 26, 27, 28, 29, 30, 31, 32, 33, 34, 35, 36, 37, 38, 39, 40, 41, 42, 43, 44, 45, 46, 47, 48, 49, 50, 51, 52, 53, 54, 55, 56, 57, 58, 59, 60, 61, 62, 63, 64, 65, 66, 67] (by decide +kernel) (by decide +kernel)
set_option maxRecDepth 20000 in
theorem gX7_limit_X7_limitOf : GoodIn wsX7_limit (wsV RX7 104 RX7 yX7_limitOf wsX7_limitOf) := goodIn_app (goodIn_of _ (by decide +kernel)) ggX7_limit_X7_limitOf
theorem dX7_limit_0 : decode cX7_limit 0 = .ok (.aload_n 0, 1) := by decide +kernel
theorem dX7_limit_1 : decode cX7_limit 1 = .ok (.aload_n 0, 1) := by decide +kernel
theorem dX7_limit_2 : decode cX7_limit 2 = .ok (.iload_n 1, 1) := by decide +kernel
theorem dX7_limit_3 : decode cX7_limit 3 = .ok (.invokevirtual 89, 3) := by decide +kernel
theorem dX7_limit_6 : decode cX7_limit 6 = .ok (.invokevirtual 104, 3) := by decide +kernel
theorem dX7_limit_9 : decode cX7_limit 9 = .ok (.ireturn, 1) := by decide +kernel
set_option maxRecDepth 20000 in
theorem ggX7_net_X7_bankAt : GoodIn wsX7_net wsX7_bankAt := goodIn_ca (goodIn_r _ [7, 8, 9, 10, 13, 14, 15, 16, 17, 18, 19, 20] (by decide +kernel) (by decide +kernel)) (goodIn_sub (fun _ h => List.mem_cons_of_mem _ (List.mem_append_right _ h)) (by decide +kernel))
set_option maxRecDepth 20000 in
theorem gX7_net_X7_bankAt : GoodIn wsX7_net (wsV RX7 224 RX7 yX7_bankAt wsX7_bankAt) := goodIn_app (goodIn_of _ (by decide +kernel)) ggX7_net_X7_bankAt
theorem dX7_net_0 : decode cX7_net 0 = .ok (.aload_n 0, 1) := by decide +kernel
theorem dX7_net_1 : decode cX7_net 1 = .ok (.iload_n 1, 1) := by decide +kernel
theorem dX7_net_2 : decode cX7_net 2 = .ok (.invokevirtual 224, 3) := by decide +kernel
theorem dX7_net_5 : decode cX7_net 5 = .ok (.astore_n 3, 1) := by decide +kernel
theorem dX7_net_6 : decode cX7_net 6 = .ok (.iload_n 2, 1) := by decide +kernel
theorem dX7_net_7 : decode cX7_net 7 = .ok (.ifCond .eq 10, 3) := by decide +kernel
theorem dX7_net_10 : decode cX7_net 10 = .ok (.aload_n 3, 1) := by decide +kernel
theorem dX7_net_11 : decode cX7_net 11 = .ok (.getfield 228, 3) := by decide +kernel
theorem dX7_net_14 : decode cX7_net 14 = .ok (.goto 7, 3) := by decide +kernel
theorem dX7_net_17 : decode cX7_net 17 = .ok (.aload_n 3, 1) := by decide +kernel
theorem dX7_net_18 : decode cX7_net 18 = .ok (.getfield 232, 3) := by decide +kernel
theorem dX7_net_21 : decode cX7_net 21 = .ok (.lreturn, 1) := by decide +kernel
set_option maxRecDepth 20000 in
theorem ggX7_netAnew_X7_bankAt : GoodIn wsX7_netAnew wsX7_bankAt := goodIn_ca (goodIn_r _ [14, 15, 16, 17, 65, 66, 67, 68, 69, 70, 71, 72] (by decide +kernel) (by decide +kernel)) (goodIn_sub (fun _ h => List.mem_cons_of_mem _ (List.mem_append_right _ h)) (by decide +kernel))
set_option maxRecDepth 20000 in
theorem gX7_netAnew_X7_bankAt : GoodIn wsX7_netAnew (wsV RX7 224 RX7 yX7_bankAt wsX7_bankAt) := goodIn_app (goodIn_of _ (by decide +kernel)) ggX7_netAnew_X7_bankAt
set_option maxRecDepth 20000 in
theorem ggX7_netAnew_Jx4a65c_size_8abf5 : GoodIn wsX7_netAnew wsJx4a65c_size_8abf5 := goodIn_r _ [22, 23, 83, 84, 85] (by decide +kernel) (by decide +kernel)
set_option maxRecDepth 20000 in
theorem gX7_netAnew_Jx4a65c_size_8abf5_f94Jx4a65c : GoodIn wsX7_netAnew (va_wsF RX7 94 RJx4a65c ⟨"java/util/List", "size", "()I"⟩ yJx4a65c_size_8abf5 wsJx4a65c_size_8abf5) := goodIn_app (goodIn_of _ (by decide +kernel)) ggX7_netAnew_Jx4a65c_size_8abf5
set_option maxRecDepth 20000 in
theorem ggX7_netAnew_Jx4a65c_get_915e3 : GoodIn wsX7_netAnew wsJx4a65c_get_915e3 := goodIn_r _ [27, 23, 28, 29, 30, 31, 32, 33, 34, 35, 36, 37, 38, 21, 39, 40, 83, 84, 85] (by decide +kernel) (by decide +kernel)
set_option maxRecDepth 20000 in
theorem gX7_netAnew_Jx4a65c_get_915e3_f235Jx4a65c : GoodIn wsX7_netAnew (va_wsF RX7 235 RJx4a65c ⟨"java/util/List", "get", "(I)Ljava/lang/Object;"⟩ yJx4a65c_get_915e3 wsJx4a65c_get_915e3) := goodIn_app (goodIn_of _ (by decide +kernel)) ggX7_netAnew_Jx4a65c_get_915e3
set_option maxRecDepth 20000 in
theorem ggX7_netAnew_X1_shareOf : GoodIn wsX7_netAnew wsX1_shareOf := goodIn_r _ [45, 46, 47, 48, 44, 49, 50, 51, 52, 53, 54, 55, 56, 57, 58, 73, 74, 75, 76, 77, 86, 87, 88, 89, 90, 91, 92, 93, 94, 95, 96, 97] (by decide +kernel) (by decide +kernel)
set_option maxRecDepth 20000 in
theorem gX7_netAnew_X1_shareOf : GoodIn wsX7_netAnew (wsV RX7 239 RX1 yX1_shareOf wsX1_shareOf) := goodIn_app (goodIn_of _ (by decide +kernel)) ggX7_netAnew_X1_shareOf
set_option maxRecDepth 20000 in
theorem ggX7_netAnew_X3_isWithCard : GoodIn wsX7_netAnew wsX3_isWithCard := goodIn_r _ [63, 64, 78, 79, 80, 81, 82] (by decide +kernel) (by decide +kernel)
set_option maxRecDepth 20000 in
theorem gX7_netAnew_X3_isWithCard : GoodIn wsX7_netAnew (wsV RX7 243 RX3 yX3_isWithCard wsX3_isWithCard) := goodIn_app (goodIn_of _ (by decide +kernel)) ggX7_netAnew_X3_isWithCard
theorem dX7_netAnew_0 : decode cX7_netAnew 0 = .ok (.aload_n 0, 1) := by decide +kernel
theorem dX7_netAnew_1 : decode cX7_netAnew 1 = .ok (.iload_n 1, 1) := by decide +kernel
theorem dX7_netAnew_2 : decode cX7_netAnew 2 = .ok (.invokevirtual 224, 3) := by decide +kernel
theorem dX7_netAnew_5 : decode cX7_netAnew 5 = .ok (.astore_n 2, 1) := by decide +kernel
theorem dX7_netAnew_6 : decode cX7_netAnew 6 = .ok (.lconst 0, 1) := by decide +kernel
theorem dX7_netAnew_7 : decode cX7_netAnew 7 = .ok (.lstore_n 3, 1) := by decide +kernel
theorem dX7_netAnew_8 : decode cX7_netAnew 8 = .ok (.iconst 0, 1) := by decide +kernel
theorem dX7_netAnew_9 : decode cX7_netAnew 9 = .ok (.istore 5, 2) := by decide +kernel
theorem dX7_netAnew_11 : decode cX7_netAnew 11 = .ok (.iload 5, 2) := by decide +kernel
theorem dX7_netAnew_13 : decode cX7_netAnew 13 = .ok (.aload_n 0, 1) := by decide +kernel
theorem dX7_netAnew_14 : decode cX7_netAnew 14 = .ok (.getfield 40, 3) := by decide +kernel
theorem dX7_netAnew_17 : decode cX7_netAnew 17 = .ok (.invokeinterface 94 1, 5) := by decide +kernel
theorem dX7_netAnew_22 : decode cX7_netAnew 22 = .ok (.if_icmp .ge 52, 3) := by decide +kernel
theorem dX7_netAnew_25 : decode cX7_netAnew 25 = .ok (.aload_n 0, 1) := by decide +kernel
theorem dX7_netAnew_26 : decode cX7_netAnew 26 = .ok (.getfield 40, 3) := by decide +kernel
theorem dX7_netAnew_29 : decode cX7_netAnew 29 = .ok (.iload 5, 2) := by decide +kernel
theorem dX7_netAnew_31 : decode cX7_netAnew 31 = .ok (.invokeinterface 235 2, 5) := by decide +kernel
theorem dX7_netAnew_36 : decode cX7_netAnew 36 = .ok (.checkcast 129, 3) := by decide +kernel
theorem dX7_netAnew_39 : decode cX7_netAnew 39 = .ok (.astore 6, 2) := by decide +kernel
theorem dX7_netAnew_41 : decode cX7_netAnew 41 = .ok (.lload_n 3, 1) := by decide +kernel
theorem dX7_netAnew_42 : decode cX7_netAnew 42 = .ok (.aload 6, 2) := by decide +kernel
theorem dX7_netAnew_44 : decode cX7_netAnew 44 = .ok (.aload_n 2, 1) := by decide +kernel
theorem dX7_netAnew_45 : decode cX7_netAnew 45 = .ok (.aload 6, 2) := by decide +kernel
theorem dX7_netAnew_47 : decode cX7_netAnew 47 = .ok (.getfield 148, 3) := by decide +kernel
theorem dX7_netAnew_50 : decode cX7_netAnew 50 = .ok (.aload 6, 2) := by decide +kernel
theorem dX7_netAnew_52 : decode cX7_netAnew 52 = .ok (.getfield 151, 3) := by decide +kernel
theorem dX7_netAnew_55 : decode cX7_netAnew 55 = .ok (.isub, 1) := by decide +kernel
theorem dX7_netAnew_56 : decode cX7_netAnew 56 = .ok (.aload 6, 2) := by decide +kernel
theorem dX7_netAnew_58 : decode cX7_netAnew 58 = .ok (.getfield 171, 3) := by decide +kernel
theorem dX7_netAnew_61 : decode cX7_netAnew 61 = .ok (.isub, 1) := by decide +kernel
theorem dX7_netAnew_62 : decode cX7_netAnew 62 = .ok (.invokevirtual 239, 3) := by decide +kernel
theorem dX7_netAnew_65 : decode cX7_netAnew 65 = .ok (.i2l, 1) := by decide +kernel
theorem dX7_netAnew_66 : decode cX7_netAnew 66 = .ok (.ladd, 1) := by decide +kernel
theorem dX7_netAnew_67 : decode cX7_netAnew 67 = .ok (.lstore_n 3, 1) := by decide +kernel
theorem dX7_netAnew_68 : decode cX7_netAnew 68 = .ok (.iinc 5 1, 3) := by decide +kernel
theorem dX7_netAnew_71 : decode cX7_netAnew 71 = .ok (.goto (-60), 3) := by decide +kernel
theorem dX7_netAnew_74 : decode cX7_netAnew 74 = .ok (.iconst 0, 1) := by decide +kernel
theorem dX7_netAnew_75 : decode cX7_netAnew 75 = .ok (.istore 5, 2) := by decide +kernel
theorem dX7_netAnew_77 : decode cX7_netAnew 77 = .ok (.iload 5, 2) := by decide +kernel
theorem dX7_netAnew_79 : decode cX7_netAnew 79 = .ok (.aload_n 0, 1) := by decide +kernel
theorem dX7_netAnew_80 : decode cX7_netAnew 80 = .ok (.getfield 43, 3) := by decide +kernel
theorem dX7_netAnew_83 : decode cX7_netAnew 83 = .ok (.invokeinterface 94 1, 5) := by decide +kernel
theorem dX7_netAnew_88 : decode cX7_netAnew 88 = .ok (.if_icmp .ge 51, 3) := by decide +kernel
theorem dX7_netAnew_91 : decode cX7_netAnew 91 = .ok (.aload_n 0, 1) := by decide +kernel
theorem dX7_netAnew_92 : decode cX7_netAnew 92 = .ok (.getfield 43, 3) := by decide +kernel
theorem dX7_netAnew_95 : decode cX7_netAnew 95 = .ok (.iload 5, 2) := by decide +kernel
theorem dX7_netAnew_97 : decode cX7_netAnew 97 = .ok (.invokeinterface 235 2, 5) := by decide +kernel
theorem dX7_netAnew_102 : decode cX7_netAnew 102 = .ok (.checkcast 174, 3) := by decide +kernel
theorem dX7_netAnew_105 : decode cX7_netAnew 105 = .ok (.astore 6, 2) := by decide +kernel
theorem dX7_netAnew_107 : decode cX7_netAnew 107 = .ok (.aload 6, 2) := by decide +kernel
theorem dX7_netAnew_109 : decode cX7_netAnew 109 = .ok (.invokevirtual 243, 3) := by decide +kernel
theorem dX7_netAnew_112 : decode cX7_netAnew 112 = .ok (.ifCond .eq 21, 3) := by decide +kernel
theorem dX7_netAnew_115 : decode cX7_netAnew 115 = .ok (.lload_n 3, 1) := by decide +kernel
theorem dX7_netAnew_116 : decode cX7_netAnew 116 = .ok (.aload 6, 2) := by decide +kernel
theorem dX7_netAnew_118 : decode cX7_netAnew 118 = .ok (.getfield 194, 3) := by decide +kernel
theorem dX7_netAnew_121 : decode cX7_netAnew 121 = .ok (.aload_n 2, 1) := by decide +kernel
theorem dX7_netAnew_122 : decode cX7_netAnew 122 = .ok (.aload 6, 2) := by decide +kernel
theorem dX7_netAnew_124 : decode cX7_netAnew 124 = .ok (.getfield 198, 3) := by decide +kernel
theorem dX7_netAnew_127 : decode cX7_netAnew 127 = .ok (.invokevirtual 239, 3) := by decide +kernel
theorem dX7_netAnew_130 : decode cX7_netAnew 130 = .ok (.i2l, 1) := by decide +kernel
theorem dX7_netAnew_131 : decode cX7_netAnew 131 = .ok (.lsub, 1) := by decide +kernel
theorem dX7_netAnew_132 : decode cX7_netAnew 132 = .ok (.lstore_n 3, 1) := by decide +kernel
theorem dX7_netAnew_133 : decode cX7_netAnew 133 = .ok (.iinc 5 1, 3) := by decide +kernel
theorem dX7_netAnew_136 : decode cX7_netAnew 136 = .ok (.goto (-59), 3) := by decide +kernel
theorem dX7_netAnew_139 : decode cX7_netAnew 139 = .ok (.lload_n 3, 1) := by decide +kernel
theorem dX7_netAnew_140 : decode cX7_netAnew 140 = .ok (.lreturn, 1) := by decide +kernel
set_option maxRecDepth 20000 in
theorem ggX7_due_Jx4a65c_size_8abf5 : GoodIn wsX7_due wsJx4a65c_size_8abf5 := goodIn_r _ [9, 10, 60, 61, 62] (by decide +kernel) (by decide +kernel)
set_option maxRecDepth 20000 in
theorem gX7_due_Jx4a65c_size_8abf5_f94Jx4a65c : GoodIn wsX7_due (va_wsF RX7 94 RJx4a65c ⟨"java/util/List", "size", "()I"⟩ yJx4a65c_size_8abf5 wsJx4a65c_size_8abf5) := goodIn_app (goodIn_of _ (by decide +kernel)) ggX7_due_Jx4a65c_size_8abf5
set_option maxRecDepth 20000 in
theorem ggX7_due_X7_nextDueBehind : GoodIn wsX7_due wsX7_nextDueBehind := goodIn_r _ [15, 3, 16, 5, 6, 7, 8, 9, 10, 17, 18, 19, 20, 21, 22, 23, 24, 25, 26, 27, 28, 29, 30, 31, 32, 33, 34, 35, 36, 37, 38, 39, 40, 41, 42, 43, 44, 45, 46, 47, 48, 49, 50, 51, 52, 53, 54, 60, 61, 62, 55, 56, 57, 58, 59] (by decide +kernel) (by decide +kernel)
set_option maxRecDepth 20000 in
theorem gX7_due_X7_nextDueBehind : GoodIn wsX7_due (wsV RX7 252 RX7 yX7_nextDueBehind wsX7_nextDueBehind) := goodIn_app (goodIn_of _ (by decide +kernel)) ggX7_due_X7_nextDueBehind
theorem dX7_due_0 : decode cX7_due 0 = .ok (.iload_n 1, 1) := by decide +kernel
theorem dX7_due_1 : decode cX7_due 1 = .ok (.ifCond .ge 13, 3) := by decide +kernel
theorem dX7_due_4 : decode cX7_due 4 = .ok (.new 247, 3) := by decide +kernel
theorem dX7_due_7 : decode cX7_due 7 = .ok (.dup, 1) := by decide +kernel
theorem dX7_due_8 : decode cX7_due 8 = .ok (.ldc 249, 2) := by decide +kernel
theorem dX7_due_10 : decode cX7_due 10 = .ok (.invokespecial 251, 3) := by decide +kernel
theorem dX7_due_13 : decode cX7_due 13 = .ok (.athrow, 1) := by decide +kernel
theorem dX7_due_14 : decode cX7_due 14 = .ok (.aconst_null, 1) := by decide +kernel
theorem dX7_due_15 : decode cX7_due 15 = .ok (.astore_n 2, 1) := by decide +kernel
theorem dX7_due_16 : decode cX7_due 16 = .ok (.iconst 0, 1) := by decide +kernel
theorem dX7_due_17 : decode cX7_due 17 = .ok (.istore_n 3, 1) := by decide +kernel
theorem dX7_due_18 : decode cX7_due 18 = .ok (.iload_n 3, 1) := by decide +kernel
theorem dX7_due_19 : decode cX7_due 19 = .ok (.aload_n 0, 1) := by decide +kernel
theorem dX7_due_20 : decode cX7_due 20 = .ok (.getfield 43, 3) := by decide +kernel
theorem dX7_due_23 : decode cX7_due 23 = .ok (.invokeinterface 94 1, 5) := by decide +kernel
theorem dX7_due_28 : decode cX7_due 28 = .ok (.if_icmp .ge 31, 3) := by decide +kernel
theorem dX7_due_31 : decode cX7_due 31 = .ok (.aload_n 0, 1) := by decide +kernel
theorem dX7_due_32 : decode cX7_due 32 = .ok (.aload_n 2, 1) := by decide +kernel
theorem dX7_due_33 : decode cX7_due 33 = .ok (.invokevirtual 252, 3) := by decide +kernel
theorem dX7_due_36 : decode cX7_due 36 = .ok (.astore_n 2, 1) := by decide +kernel
theorem dX7_due_37 : decode cX7_due 37 = .ok (.aload_n 2, 1) := by decide +kernel
theorem dX7_due_38 : decode cX7_due 38 = .ok (.ifnonnull 5, 3) := by decide +kernel
theorem dX7_due_41 : decode cX7_due 41 = .ok (.iconst (-1), 1) := by decide +kernel
theorem dX7_due_42 : decode cX7_due 42 = .ok (.ireturn, 1) := by decide +kernel
theorem dX7_due_43 : decode cX7_due 43 = .ok (.iload_n 3, 1) := by decide +kernel
theorem dX7_due_44 : decode cX7_due 44 = .ok (.iload_n 1, 1) := by decide +kernel
theorem dX7_due_45 : decode cX7_due 45 = .ok (.if_icmp .ne 8, 3) := by decide +kernel
theorem dX7_due_48 : decode cX7_due 48 = .ok (.aload_n 2, 1) := by decide +kernel
theorem dX7_due_49 : decode cX7_due 49 = .ok (.getfield 179, 3) := by decide +kernel
theorem dX7_due_52 : decode cX7_due 52 = .ok (.ireturn, 1) := by decide +kernel
theorem dX7_due_53 : decode cX7_due 53 = .ok (.iinc 3 1, 3) := by decide +kernel
theorem dX7_due_56 : decode cX7_due 56 = .ok (.goto (-38), 3) := by decide +kernel
theorem dX7_due_59 : decode cX7_due 59 = .ok (.iconst (-1), 1) := by decide +kernel
theorem dX7_due_60 : decode cX7_due 60 = .ok (.ireturn, 1) := by decide +kernel
set_option maxRecDepth 20000 in
theorem ggX7_count_Jx4a65c_size_8abf5 : GoodIn wsX7_count wsJx4a65c_size_8abf5 := goodIn_r _ [11, 12, 45, 46, 47] (by decide +kernel) (by decide +kernel)
set_option maxRecDepth 20000 in
theorem gX7_count_Jx4a65c_size_8abf5_f94Jx4a65c : GoodIn wsX7_count (va_wsF RX7 94 RJx4a65c ⟨"java/util/List", "size", "()I"⟩ yJx4a65c_size_8abf5 wsJx4a65c_size_8abf5) := goodIn_app (goodIn_of _ (by decide +kernel)) ggX7_count_Jx4a65c_size_8abf5
set_option maxRecDepth 20000 in
theorem ggX7_count_X7_sumOfFees : GoodIn wsX7_count wsX7_sumOfFees := goodIn_r _ [17, 4, 18, 19, 7, 8, 9, 10, 11, 12, 20, 21, 22, 23, 24, 25, 26, 27, 28, 29, 30, 31, 32, 33, 34, 35, 36, 37, 38, 39, 40, 41, 42, 43, 44, 48, 49, 50, 51, 52, 45, 46, 47] (by decide +kernel) (by decide +kernel)
set_option maxRecDepth 20000 in
theorem gX7_count_X7_sumOfFees : GoodIn wsX7_count (wsV RX7 256 RX7 yX7_sumOfFees wsX7_sumOfFees) := goodIn_app (goodIn_of _ (by decide +kernel)) ggX7_count_X7_sumOfFees
theorem dX7_count_0 : decode cX7_count 0 = .ok (.iload_n 1, 1) := by decide +kernel
theorem dX7_count_1 : decode cX7_count 1 = .ok (.tableswitch 75 0 4 #[35, 45, 55, 65, 70], 35) := by decide +kernel
theorem dX7_count_36 : decode cX7_count 36 = .ok (.aload_n 0, 1) := by decide +kernel
theorem dX7_count_37 : decode cX7_count 37 = .ok (.getfield 36, 3) := by decide +kernel
theorem dX7_count_40 : decode cX7_count 40 = .ok (.invokeinterface 94 1, 5) := by decide +kernel
theorem dX7_count_45 : decode cX7_count 45 = .ok (.ireturn, 1) := by decide +kernel
theorem dX7_count_46 : decode cX7_count 46 = .ok (.aload_n 0, 1) := by decide +kernel
theorem dX7_count_47 : decode cX7_count 47 = .ok (.getfield 40, 3) := by decide +kernel
theorem dX7_count_50 : decode cX7_count 50 = .ok (.invokeinterface 94 1, 5) := by decide +kernel
theorem dX7_count_55 : decode cX7_count 55 = .ok (.ireturn, 1) := by decide +kernel
theorem dX7_count_56 : decode cX7_count 56 = .ok (.aload_n 0, 1) := by decide +kernel
theorem dX7_count_57 : decode cX7_count 57 = .ok (.getfield 43, 3) := by decide +kernel
theorem dX7_count_60 : decode cX7_count 60 = .ok (.invokeinterface 94 1, 5) := by decide +kernel
theorem dX7_count_65 : decode cX7_count 65 = .ok (.ireturn, 1) := by decide +kernel
theorem dX7_count_66 : decode cX7_count 66 = .ok (.aload_n 0, 1) := by decide +kernel
theorem dX7_count_67 : decode cX7_count 67 = .ok (.invokevirtual 256, 3) := by decide +kernel
theorem dX7_count_70 : decode cX7_count 70 = .ok (.ireturn, 1) := by decide +kernel
theorem dX7_count_71 : decode cX7_count 71 = .ok (.aload_n 0, 1) := by decide +kernel
theorem dX7_count_72 : decode cX7_count 72 = .ok (.getfield 46, 3) := by decide +kernel
theorem dX7_count_75 : decode cX7_count 75 = .ok (.ireturn, 1) := by decide +kernel
theorem dX7_count_76 : decode cX7_count 76 = .ok (.new 213, 3) := by decide +kernel
theorem dX7_count_79 : decode cX7_count 79 = .ok (.dup, 1) := by decide +kernel
theorem dX7_count_80 : decode cX7_count 80 = .ok (.ldc 215, 2) := by decide +kernel
theorem dX7_count_82 : decode cX7_count 82 = .ok (.invokespecial 217, 3) := by decide +kernel
theorem dX7_count_85 : decode cX7_count 85 = .ok (.athrow, 1) := by decide +kernel
theorem dX7_bankAt_0 : decode cX7_bankAt 0 = .ok (.iload_n 1, 1) := by decide +kernel
theorem dX7_bankAt_1 : decode cX7_bankAt 1 = .ok (.ifCond .lt 8, 3) := by decide +kernel
theorem dX7_bankAt_4 : decode cX7_bankAt 4 = .ok (.iload_n 1, 1) := by decide +kernel
theorem dX7_bankAt_5 : decode cX7_bankAt 5 = .ok (.iconst 4, 1) := by decide +kernel
theorem dX7_bankAt_6 : decode cX7_bankAt 6 = .ok (.if_icmp .lt 14, 3) := by decide +kernel
theorem dX7_bankAt_9 : decode cX7_bankAt 9 = .ok (.new 247, 3) := by decide +kernel
theorem dX7_bankAt_12 : decode cX7_bankAt 12 = .ok (.dup, 1) := by decide +kernel
theorem dX7_bankAt_13 : decode cX7_bankAt 13 = .ok (.ldc_w 259, 3) := by decide +kernel
theorem dX7_bankAt_16 : decode cX7_bankAt 16 = .ok (.invokespecial 251, 3) := by decide +kernel
theorem dX7_bankAt_19 : decode cX7_bankAt 19 = .ok (.athrow, 1) := by decide +kernel
theorem dX7_bankAt_20 : decode cX7_bankAt 20 = .ok (.aload_n 0, 1) := by decide +kernel
