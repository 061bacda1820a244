theorem dX8_misses_6 : decode cX8_misses 6 = .ok (.iconst 1, 1) := by decide +kernel
theorem dX8_misses_7 : decode cX8_misses 7 = .ok (.isub, 1) := by decide +kernel
theorem dX8_misses_8 : decode cX8_misses 8 = .ok (.invokestatic 74, 3) := by decide +kernel
theorem dX8_misses_11 : decode cX8_misses 11 = .ok (.ifCond .ne 7, 3) := by decide +kernel
theorem dX8_misses_14 : decode cX8_misses 14 = .ok (.iconst 1, 1) := by decide +kernel
theorem dX8_misses_15 : decode cX8_misses 15 = .ok (.goto 18, 3) := by decide +kernel
theorem dX8_misses_18 : decode cX8_misses 18 = .ok (.aload_n 0, 1) := by decide +kernel
theorem dX8_misses_19 : decode cX8_misses 19 = .ok (.getfield 50, 3) := by decide +kernel
theorem dX8_misses_22 : decode cX8_misses 22 = .ok (.iload_n 1, 1) := by decide +kernel
theorem dX8_misses_23 : decode cX8_misses 23 = .ok (.iaload, 1) := by decide +kernel
theorem dX8_misses_24 : decode cX8_misses 24 = .ok (.iload_n 2, 1) := by decide +kernel
theorem dX8_misses_25 : decode cX8_misses 25 = .ok (.if_icmp .eq 7, 3) := by decide +kernel
theorem dX8_misses_28 : decode cX8_misses 28 = .ok (.iconst 2, 1) := by decide +kernel
theorem dX8_misses_29 : decode cX8_misses 29 = .ok (.goto 4, 3) := by decide +kernel
theorem dX8_misses_32 : decode cX8_misses 32 = .ok (.iconst 0, 1) := by decide +kernel
theorem dX8_misses_33 : decode cX8_misses 33 = .ok (.ireturn, 1) := by decide +kernel
set_option maxRecDepth 20000 in
theorem ggX8_paysBack_X8_cardBank : GoodIn wsX8_paysBack wsX8_cardBank := goodIn_r _ [7, 8, 9, 21, 22, 23, 24, 25, 26, 27, 28, 29, 30, 31, 32, 33, 34, 35, 36, 37, 38, 39, 40, 41, 42, 43, 44, 45] (by decide +kernel) (by decide +kernel)
set_option maxRecDepth 20000 in
theorem gX8_paysBack_X8_cardBank : GoodIn wsX8_paysBack (wsV RX8 126 RX8 yX8_cardBank wsX8_cardBank) := goodIn_app (goodIn_of _ (by decide +kernel)) ggX8_paysBack_X8_cardBank
set_option maxRecDepth 20000 in
theorem ggX8_paysBack_X8_shopBank : GoodIn wsX8_paysBack wsX8_shopBank := goodIn_r _ [13, 14, 9, 21, 22, 23, 24, 25, 26, 27, 28, 29, 30, 31, 32, 33, 34, 35, 36, 37, 38, 39, 40, 41, 42, 43, 44, 45] (by decide +kernel) (by decide +kernel)
set_option maxRecDepth 20000 in
theorem gX8_paysBack_X8_shopBank : GoodIn wsX8_paysBack (wsV RX8 129 RX8 yX8_shopBank wsX8_shopBank) := goodIn_app (goodIn_of _ (by decide +kernel)) ggX8_paysBack_X8_shopBank
set_option maxRecDepth 20000 in
theorem ggX8_paysBack_X8_pays : GoodIn wsX8_paysBack wsX8_pays := goodIn_r _ [18, 19, 20, 21, 22, 23, 24, 25, 26, 27, 28, 29, 30, 31, 32, 33, 34, 35, 36, 37, 38, 39, 40, 41, 42, 43, 44, 45] (by decide +kernel) (by decide +kernel)
set_option maxRecDepth 20000 in
theorem gX8_paysBack_X8_pays : GoodIn wsX8_paysBack (wsV RX8 132 RX8 yX8_pays wsX8_pays) := goodIn_app (goodIn_of _ (by decide +kernel)) ggX8_paysBack_X8_pays
theorem dX8_paysBack_0 : decode cX8_paysBack 0 = .ok (.aload_n 0, 1) := by decide +kernel
theorem dX8_paysBack_1 : decode cX8_paysBack 1 = .ok (.aload_n 0, 1) := by decide +kernel
theorem dX8_paysBack_2 : decode cX8_paysBack 2 = .ok (.aload_n 0, 1) := by decide +kernel
theorem dX8_paysBack_3 : decode cX8_paysBack 3 = .ok (.getfield 53, 3) := by decide +kernel
theorem dX8_paysBack_6 : decode cX8_paysBack 6 = .ok (.iload_n 1, 1) := by decide +kernel
theorem dX8_paysBack_7 : decode cX8_paysBack 7 = .ok (.iaload, 1) := by decide +kernel
theorem dX8_paysBack_8 : decode cX8_paysBack 8 = .ok (.invokevirtual 126, 3) := by decide +kernel
theorem dX8_paysBack_11 : decode cX8_paysBack 11 = .ok (.aload_n 0, 1) := by decide +kernel
theorem dX8_paysBack_12 : decode cX8_paysBack 12 = .ok (.aload_n 0, 1) := by decide +kernel
theorem dX8_paysBack_13 : decode cX8_paysBack 13 = .ok (.getfield 53, 3) := by decide +kernel
theorem dX8_paysBack_16 : decode cX8_paysBack 16 = .ok (.iload_n 1, 1) := by decide +kernel
theorem dX8_paysBack_17 : decode cX8_paysBack 17 = .ok (.iaload, 1) := by decide +kernel
theorem dX8_paysBack_18 : decode cX8_paysBack 18 = .ok (.invokevirtual 129, 3) := by decide +kernel
theorem dX8_paysBack_21 : decode cX8_paysBack 21 = .ok (.aload_n 0, 1) := by decide +kernel
theorem dX8_paysBack_22 : decode cX8_paysBack 22 = .ok (.getfield 56, 3) := by decide +kernel
theorem dX8_paysBack_25 : decode cX8_paysBack 25 = .ok (.iload_n 1, 1) := by decide +kernel
theorem dX8_paysBack_26 : decode cX8_paysBack 26 = .ok (.iaload, 1) := by decide +kernel
theorem dX8_paysBack_27 : decode cX8_paysBack 27 = .ok (.invokevirtual 132, 3) := by decide +kernel
theorem dX8_paysBack_30 : decode cX8_paysBack 30 = .ok (.return_, 1) := by decide +kernel
set_option maxRecDepth 20000 in
theorem ggX8_answer_X8_misses : GoodIn wsX8_answer wsX8_misses := goodIn_r _ [8, 9, 1, 10, 11, 7, 12, 41, 42, 43, 44, 45, 46, 47, 48, 49, 50, 51, 52, 53, 54, 55, 56, 57, 58, 59, 60, 61, 62, 63, 64, 65] (by decide +kernel) (by decide +kernel)
set_option maxRecDepth 20000 in
theorem gX8_answer_X8_misses : GoodIn wsX8_answer (wsV RX8 149 RX8 yX8_misses wsX8_misses) := goodIn_app (goodIn_of _ (by decide +kernel)) ggX8_answer_X8_misses
set_option maxRecDepth 20000 in
theorem ggX8_answer_X8_fails : GoodIn wsX8_answer wsX8_fails := goodIn_r _ [16, 17, 41, 42, 43, 44, 45, 46, 47, 48, 49, 50, 51, 52, 53, 54, 55, 56, 57, 58, 59, 60, 61, 62, 63, 64, 65] (by decide +kernel) (by decide +kernel)
set_option maxRecDepth 20000 in
theorem gX8_answer_X8_fails : GoodIn wsX8_answer (wsV RX8 85 RX8 yX8_fails wsX8_fails) := goodIn_app (goodIn_of _ (by decide +kernel)) ggX8_answer_X8_fails
set_option maxRecDepth 20000 in
theorem ggX8_answer_X8_paysBack : GoodIn wsX8_answer wsX8_paysBack := goodIn_r _ [21, 22, 23, 24, 25, 26, 7, 27, 28, 29, 30, 31, 32, 33, 34, 35, 36, 37, 38, 39, 40, 41, 42, 43, 44, 45, 46, 47, 48, 49, 50, 51, 52, 53, 54, 55, 56, 57, 58, 59, 60, 61, 62, 63, 64, 65] (by decide +kernel) (by decide +kernel)
set_option maxRecDepth 20000 in
theorem gX8_answer_X8_paysBack : GoodIn wsX8_answer (wsV RX8 152 RX8 yX8_paysBack wsX8_paysBack) := goodIn_app (goodIn_of _ (by decide +kernel)) ggX8_answer_X8_paysBack
theorem dX8_answer_0 : decode cX8_answer 0 = .ok (.aload_n 0, 1) := by decide +kernel
theorem dX8_answer_1 : decode cX8_answer 1 = .ok (.aload_n 0, 1) := by decide +kernel
theorem dX8_answer_2 : decode cX8_answer 2 = .ok (.iload_n 1, 1) := by decide +kernel
theorem dX8_answer_3 : decode cX8_answer 3 = .ok (.iconst 0, 1) := by decide +kernel
theorem dX8_answer_4 : decode cX8_answer 4 = .ok (.invokevirtual 149, 3) := by decide +kernel
theorem dX8_answer_7 : decode cX8_answer 7 = .ok (.invokevirtual 85, 3) := by decide +kernel
theorem dX8_answer_10 : decode cX8_answer 10 = .ok (.ifCond .eq 5, 3) := by decide +kernel
theorem dX8_answer_13 : decode cX8_answer 13 = .ok (.iconst 0, 1) := by decide +kernel
theorem dX8_answer_14 : decode cX8_answer 14 = .ok (.ireturn, 1) := by decide +kernel
theorem dX8_answer_15 : decode cX8_answer 15 = .ok (.aload_n 0, 1) := by decide +kernel
theorem dX8_answer_16 : decode cX8_answer 16 = .ok (.getfield 50, 3) := by decide +kernel
theorem dX8_answer_19 : decode cX8_answer 19 = .ok (.iload_n 1, 1) := by decide +kernel
theorem dX8_answer_20 : decode cX8_answer 20 = .ok (.iconst 1, 1) := by decide +kernel
theorem dX8_answer_21 : decode cX8_answer 21 = .ok (.iastore, 1) := by decide +kernel
theorem dX8_answer_22 : decode cX8_answer 22 = .ok (.aload_n 0, 1) := by decide +kernel
theorem dX8_answer_23 : decode cX8_answer 23 = .ok (.getfield 59, 3) := by decide +kernel
theorem dX8_answer_26 : decode cX8_answer 26 = .ok (.iload_n 1, 1) := by decide +kernel
theorem dX8_answer_27 : decode cX8_answer 27 = .ok (.aload_n 0, 1) := by decide +kernel
theorem dX8_answer_28 : decode cX8_answer 28 = .ok (.getfield 114, 3) := by decide +kernel
theorem dX8_answer_31 : decode cX8_answer 31 = .ok (.bipush 10, 2) := by decide +kernel
theorem dX8_answer_33 : decode cX8_answer 33 = .ok (.iadd, 1) := by decide +kernel
theorem dX8_answer_34 : decode cX8_answer 34 = .ok (.iastore, 1) := by decide +kernel
theorem dX8_answer_35 : decode cX8_answer 35 = .ok (.aload_n 0, 1) := by decide +kernel
theorem dX8_answer_36 : decode cX8_answer 36 = .ok (.iload_n 1, 1) := by decide +kernel
theorem dX8_answer_37 : decode cX8_answer 37 = .ok (.invokevirtual 152, 3) := by decide +kernel
theorem dX8_answer_40 : decode cX8_answer 40 = .ok (.aload_n 0, 1) := by decide +kernel
theorem dX8_answer_41 : decode cX8_answer 41 = .ok (.getfield 59, 3) := by decide +kernel
theorem dX8_answer_44 : decode cX8_answer 44 = .ok (.iload_n 1, 1) := by decide +kernel
theorem dX8_answer_45 : decode cX8_answer 45 = .ok (.iaload, 1) := by decide +kernel
theorem dX8_answer_46 : decode cX8_answer 46 = .ok (.ireturn, 1) := by decide +kernel
set_option maxRecDepth 20000 in
theorem ggX8_press_X8_misses : GoodIn wsX8_press wsX8_misses := goodIn_r _ [9, 4, 1, 10, 11, 8, 12, 35, 36, 37, 38, 39, 40, 41, 42, 43, 44, 45, 46, 47, 48, 49, 50, 51, 52, 53, 54, 55, 56, 57, 58, 59] (by decide +kernel) (by decide +kernel)
set_option maxRecDepth 20000 in
theorem gX8_press_X8_misses : GoodIn wsX8_press (wsV RX8 149 RX8 yX8_misses wsX8_misses) := goodIn_app (goodIn_of _ (by decide +kernel)) ggX8_press_X8_misses
set_option maxRecDepth 20000 in
theorem ggX8_press_X8_fails : GoodIn wsX8_press wsX8_fails := goodIn_r _ [16, 17, 35, 36, 37, 38, 39, 40, 41, 42, 43, 44, 45, 46, 47, 48, 49, 50, 51, 52, 53, 54, 55, 56, 57, 58, 59] (by decide +kernel) (by decide +kernel)
set_option maxRecDepth 20000 in
theorem gX8_press_X8_fails : GoodIn wsX8_press (wsV RX8 85 RX8 yX8_fails wsX8_fails) := goodIn_app (goodIn_of _ (by decide +kernel)) ggX8_press_X8_fails
set_option maxRecDepth 20000 in
theorem ggX8_press_X8_shopBank : GoodIn wsX8_press wsX8_shopBank := goodIn_r _ [21, 22, 23, 35, 36, 37, 38, 39, 40, 41, 42, 43, 44, 45, 46, 47, 48, 49, 50, 51, 52, 53, 54, 55, 56, 57, 58, 59] (by decide +kernel) (by decide +kernel)
set_option maxRecDepth 20000 in
theorem gX8_press_X8_shopBank : GoodIn wsX8_press (wsV RX8 129 RX8 yX8_shopBank wsX8_shopBank) := goodIn_app (goodIn_of _ (by decide +kernel)) ggX8_press_X8_shopBank
set_option maxRecDepth 20000 in
theorem ggX8_press_X8_cardBank : GoodIn wsX8_press wsX8_cardBank := goodIn_r _ [27, 28, 23, 35, 36, 37, 38, 39, 40, 41, 42, 43, 44, 45, 46, 47, 48, 49, 50, 51, 52, 53, 54, 55, 56, 57, 58, 59] (by decide +kernel) (by decide +kernel)
set_option maxRecDepth 20000 in
theorem gX8_press_X8_cardBank : GoodIn wsX8_press (wsV RX8 126 RX8 yX8_cardBank wsX8_cardBank) := goodIn_app (goodIn_of _ (by decide +kernel)) ggX8_press_X8_cardBank
set_option maxRecDepth 20000 in
theorem ggX8_press_X8_pays : GoodIn wsX8_press wsX8_pays := goodIn_r _ [32, 33, 34, 35, 36, 37, 38, 39, 40, 41, 42, 43, 44, 45, 46, 47, 48, 49, 50, 51, 52, 53, 54, 55, 56, 57, 58, 59] (by decide +kernel) (by decide +kernel)
set_option maxRecDepth 20000 in
theorem gX8_press_X8_pays : GoodIn wsX8_press (wsV RX8 132 RX8 yX8_pays wsX8_pays) := goodIn_app (goodIn_of _ (by decide +kernel)) ggX8_press_X8_pays
theorem dX8_press_0 : decode cX8_press 0 = .ok (.aload_n 0, 1) := by decide +kernel
theorem dX8_press_1 : decode cX8_press 1 = .ok (.aload_n 0, 1) := by decide +kernel
theorem dX8_press_2 : decode cX8_press 2 = .ok (.iload_n 1, 1) := by decide +kernel
theorem dX8_press_3 : decode cX8_press 3 = .ok (.iconst 1, 1) := by decide +kernel
theorem dX8_press_4 : decode cX8_press 4 = .ok (.invokevirtual 149, 3) := by decide +kernel
theorem dX8_press_7 : decode cX8_press 7 = .ok (.invokevirtual 85, 3) := by decide +kernel
theorem dX8_press_10 : decode cX8_press 10 = .ok (.ifCond .eq 5, 3) := by decide +kernel
theorem dX8_press_13 : decode cX8_press 13 = .ok (.iconst 0, 1) := by decide +kernel
theorem dX8_press_14 : decode cX8_press 14 = .ok (.ireturn, 1) := by decide +kernel
theorem dX8_press_15 : decode cX8_press 15 = .ok (.aload_n 0, 1) := by decide +kernel
theorem dX8_press_16 : decode cX8_press 16 = .ok (.getfield 50, 3) := by decide +kernel
theorem dX8_press_19 : decode cX8_press 19 = .ok (.iload_n 1, 1) := by decide +kernel
theorem dX8_press_20 : decode cX8_press 20 = .ok (.iconst 2, 1) := by decide +kernel
theorem dX8_press_21 : decode cX8_press 21 = .ok (.iastore, 1) := by decide +kernel
theorem dX8_press_22 : decode cX8_press 22 = .ok (.aload_n 0, 1) := by decide +kernel
theorem dX8_press_23 : decode cX8_press 23 = .ok (.aload_n 0, 1) := by decide +kernel
theorem dX8_press_24 : decode cX8_press 24 = .ok (.aload_n 0, 1) := by decide +kernel
theorem dX8_press_25 : decode cX8_press 25 = .ok (.getfield 53, 3) := by decide +kernel
theorem dX8_press_28 : decode cX8_press 28 = .ok (.iload_n 1, 1) := by decide +kernel
theorem dX8_press_29 : decode cX8_press 29 = .ok (.iaload, 1) := by decide +kernel
theorem dX8_press_30 : decode cX8_press 30 = .ok (.invokevirtual 129, 3) := by decide +kernel
theorem dX8_press_33 : decode cX8_press 33 = .ok (.aload_n 0, 1) := by decide +kernel
theorem dX8_press_34 : decode cX8_press 34 = .ok (.aload_n 0, 1) := by decide +kernel
theorem dX8_press_35 : decode cX8_press 35 = .ok (.getfield 53, 3) := by decide +kernel
theorem dX8_press_38 : decode cX8_press 38 = .ok (.iload_n 1, 1) := by decide +kernel
theorem dX8_press_39 : decode cX8_press 39 = .ok (.iaload, 1) := by decide +kernel
theorem dX8_press_40 : decode cX8_press 40 = .ok (.invokevirtual 126, 3) := by decide +kernel
theorem dX8_press_43 : decode cX8_press 43 = .ok (.aload_n 0, 1) := by decide +kernel
theorem dX8_press_44 : decode cX8_press 44 = .ok (.getfield 56, 3) := by decide +kernel
theorem dX8_press_47 : decode cX8_press 47 = .ok (.iload_n 1, 1) := by decide +kernel
theorem dX8_press_48 : decode cX8_press 48 = .ok (.iaload, 1) := by decide +kernel
theorem dX8_press_49 : decode cX8_press 49 = .ok (.invokevirtual 132, 3) := by decide +kernel
theorem dX8_press_52 : decode cX8_press 52 = .ok (.iconst 0, 1) := by decide +kernel
theorem dX8_press_53 : decode cX8_press 53 = .ok (.istore_n 2, 1) := by decide +kernel
theorem dX8_press_54 : decode cX8_press 54 = .ok (.iconst 0, 1) := by decide +kernel
theorem dX8_press_55 : decode cX8_press 55 = .ok (.istore_n 3, 1) := by decide +kernel
theorem dX8_press_56 : decode cX8_press 56 = .ok (.iload_n 3, 1) := by decide +kernel
theorem dX8_press_57 : decode cX8_press 57 = .ok (.aload_n 0, 1) := by decide +kernel
theorem dX8_press_58 : decode cX8_press 58 = .ok (.getfield 136, 3) := by decide +kernel
theorem dX8_press_61 : decode cX8_press 61 = .ok (.if_icmp .ge 27, 3) := by decide +kernel
theorem dX8_press_64 : decode cX8_press 64 = .ok (.iload_n 2, 1) := by decide +kernel
theorem dX8_press_65 : decode cX8_press 65 = .ok (.aload_n 0, 1) := by decide +kernel
theorem dX8_press_66 : decode cX8_press 66 = .ok (.getfield 50, 3) := by decide +kernel
theorem dX8_press_69 : decode cX8_press 69 = .ok (.iload_n 3, 1) := by decide +kernel
theorem dX8_press_70 : decode cX8_press 70 = .ok (.iaload, 1) := by decide +kernel
theorem dX8_press_71 : decode cX8_press 71 = .ok (.iconst 2, 1) := by decide +kernel
theorem dX8_press_72 : decode cX8_press 72 = .ok (.if_icmp .ne 7, 3) := by decide +kernel
theorem dX8_press_75 : decode cX8_press 75 = .ok (.iconst 1, 1) := by decide +kernel
theorem dX8_press_76 : decode cX8_press 76 = .ok (.goto 4, 3) := by decide +kernel
theorem dX8_press_79 : decode cX8_press 79 = .ok (.iconst 0, 1) := by decide +kernel
theorem dX8_press_80 : decode cX8_press 80 = .ok (.iadd, 1) := by decide +kernel
theorem dX8_press_81 : decode cX8_press 81 = .ok (.istore_n 2, 1) := by decide +kernel
theorem dX8_press_82 : decode cX8_press 82 = .ok (.iinc 3 1, 3) := by decide +kernel
theorem dX8_press_85 : decode cX8_press 85 = .ok (.goto (-29), 3) := by decide +kernel
theorem dX8_press_88 : decode cX8_press 88 = .ok (.iload_n 2, 1) := by decide +kernel
theorem dX8_press_89 : decode cX8_press 89 = .ok (.ireturn, 1) := by decide +kernel
set_option maxRecDepth 20000 in
theorem ggX8_rule_X8_misses : GoodIn wsX8_rule wsX8_misses := goodIn_r _ [6, 7, 1, 8, 9, 5, 10, 39, 40, 41, 42, 43, 44, 45, 46, 47, 48, 49, 50, 51, 52, 53, 54, 55, 56, 57, 58, 59, 60, 61, 62, 63] (by decide +kernel) (by decide +kernel)
set_option maxRecDepth 20000 in
theorem gX8_rule_X8_misses : GoodIn wsX8_rule (wsV RX8 149 RX8 yX8_misses wsX8_misses) := goodIn_app (goodIn_of _ (by decide +kernel)) ggX8_rule_X8_misses
set_option maxRecDepth 20000 in
theorem ggX8_rule_X8_fails : GoodIn wsX8_rule wsX8_fails := goodIn_r _ [14, 15, 39, 40, 41, 42, 43, 44, 45, 46, 47, 48, 49, 50, 51, 52, 53, 54, 55, 56, 57, 58, 59, 60, 61, 62, 63] (by decide +kernel) (by decide +kernel)
set_option maxRecDepth 20000 in
theorem gX8_rule_X8_fails : GoodIn wsX8_rule (wsV RX8 85 RX8 yX8_fails wsX8_fails) := goodIn_app (goodIn_of _ (by decide +kernel)) ggX8_rule_X8_fails
set_option maxRecDepth 20000 in
theorem ggX8_rule_X8_paysBack : GoodIn wsX8_rule wsX8_paysBack := goodIn_r _ [19, 20, 21, 22, 23, 24, 5, 25, 26, 27, 28, 29, 30, 31, 32, 33, 34, 35, 36, 37, 38, 39, 40, 41, 42, 43, 44, 45, 46, 47, 48, 49, 50, 51, 52, 53, 54, 55, 56, 57, 58, 59, 60, 61, 62, 63] (by decide +kernel) (by decide +kernel)
set_option maxRecDepth 20000 in
theorem gX8_rule_X8_paysBack : GoodIn wsX8_rule (wsV RX8 152 RX8 yX8_paysBack wsX8_paysBack) := goodIn_app (goodIn_of _ (by decide +kernel)) ggX8_rule_X8_paysBack
theorem dX8_rule_0 : decode cX8_rule 0 = .ok (.aload_n 0, 1) := by decide +kernel
theorem dX8_rule_1 : decode cX8_rule 1 = .ok (.aload_n 0, 1) := by decide +kernel
theorem dX8_rule_2 : decode cX8_rule 2 = .ok (.iload_n 1, 1) := by decide +kernel
theorem dX8_rule_3 : decode cX8_rule 3 = .ok (.iconst 2, 1) := by decide +kernel
theorem dX8_rule_4 : decode cX8_rule 4 = .ok (.invokevirtual 149, 3) := by decide +kernel
theorem dX8_rule_7 : decode cX8_rule 7 = .ok (.invokevirtual 85, 3) := by decide +kernel
theorem dX8_rule_10 : decode cX8_rule 10 = .ok (.ifCond .eq 5, 3) := by decide +kernel
theorem dX8_rule_13 : decode cX8_rule 13 = .ok (.iconst 0, 1) := by decide +kernel
theorem dX8_rule_14 : decode cX8_rule 14 = .ok (.ireturn, 1) := by decide +kernel
theorem dX8_rule_15 : decode cX8_rule 15 = .ok (.aload_n 0, 1) := by decide +kernel
theorem dX8_rule_16 : decode cX8_rule 16 = .ok (.getfield 50, 3) := by decide +kernel
theorem dX8_rule_19 : decode cX8_rule 19 = .ok (.iload_n 1, 1) := by decide +kernel
theorem dX8_rule_20 : decode cX8_rule 20 = .ok (.iload_n 2, 1) := by decide +kernel
theorem dX8_rule_21 : decode cX8_rule 21 = .ok (.ifCond .eq 7, 3) := by decide +kernel
theorem dX8_rule_24 : decode cX8_rule 24 = .ok (.iconst 3, 1) := by decide +kernel
theorem dX8_rule_25 : decode cX8_rule 25 = .ok (.goto 4, 3) := by decide +kernel
theorem dX8_rule_28 : decode cX8_rule 28 = .ok (.iconst 4, 1) := by decide +kernel
theorem dX8_rule_29 : decode cX8_rule 29 = .ok (.iastore, 1) := by decide +kernel
theorem dX8_rule_30 : decode cX8_rule 30 = .ok (.iload_n 2, 1) := by decide +kernel
theorem dX8_rule_31 : decode cX8_rule 31 = .ok (.ifCond .ne 8, 3) := by decide +kernel
theorem dX8_rule_34 : decode cX8_rule 34 = .ok (.aload_n 0, 1) := by decide +kernel
theorem dX8_rule_35 : decode cX8_rule 35 = .ok (.iload_n 1, 1) := by decide +kernel
theorem dX8_rule_36 : decode cX8_rule 36 = .ok (.invokevirtual 152, 3) := by decide +kernel
theorem dX8_rule_39 : decode cX8_rule 39 = .ok (.aload_n 0, 1) := by decide +kernel
theorem dX8_rule_40 : decode cX8_rule 40 = .ok (.getfield 50, 3) := by decide +kernel
theorem dX8_rule_43 : decode cX8_rule 43 = .ok (.iload_n 1, 1) := by decide +kernel
theorem dX8_rule_44 : decode cX8_rule 44 = .ok (.iaload, 1) := by decide +kernel
theorem dX8_rule_45 : decode cX8_rule 45 = .ok (.ireturn, 1) := by decide +kernel
set_option maxRecDepth 20000 in
theorem ggX8_pass_X8_isIn : GoodIn wsX8_pass wsX8_isIn := goodIn_r _ [9] (by decide +kernel) (by decide +kernel)
set_option maxRecDepth 20000 in
theorem gX8_pass_X8_isIn : GoodIn wsX8_pass (va_wsS RX8 74 yX8_isIn wsX8_isIn) := goodIn_app (goodIn_of _ (by decide +kernel)) ggX8_pass_X8_isIn
set_option maxRecDepth 20000 in
theorem ggX8_pass_X8_fails : GoodIn wsX8_pass wsX8_fails := goodIn_r _ [13, 14, 15, 16, 17, 18, 19, 20, 21, 22, 23, 24, 25, 26, 27, 28, 29, 30, 31, 32, 33, 34, 35, 36, 37, 38, 39] (by decide +kernel) (by decide +kernel)
set_option maxRecDepth 20000 in
theorem gX8_pass_X8_fails : GoodIn wsX8_pass (wsV RX8 85 RX8 yX8_fails wsX8_fails) := goodIn_app (goodIn_of _ (by decide +kernel)) ggX8_pass_X8_fails
theorem dX8_pass_0 : decode cX8_pass 0 = .ok (.aload_n 0, 1) := by decide +kernel
theorem dX8_pass_1 : decode cX8_pass 1 = .ok (.iload_n 1, 1) := by decide +kernel
theorem dX8_pass_2 : decode cX8_pass 2 = .ok (.iconst 1, 1) := by decide +kernel
theorem dX8_pass_3 : decode cX8_pass 3 = .ok (.bipush 100, 2) := by decide +kernel
theorem dX8_pass_5 : decode cX8_pass 5 = .ok (.invokestatic 74, 3) := by decide +kernel
theorem dX8_pass_8 : decode cX8_pass 8 = .ok (.ifCond .eq 7, 3) := by decide +kernel
theorem dX8_pass_11 : decode cX8_pass 11 = .ok (.iconst 0, 1) := by decide +kernel
theorem dX8_pass_12 : decode cX8_pass 12 = .ok (.goto 4, 3) := by decide +kernel
theorem dX8_pass_15 : decode cX8_pass 15 = .ok (.iconst 1, 1) := by decide +kernel
theorem dX8_pass_16 : decode cX8_pass 16 = .ok (.invokevirtual 85, 3) := by decide +kernel
theorem dX8_pass_19 : decode cX8_pass 19 = .ok (.ifCond .eq 5, 3) := by decide +kernel
theorem dX8_pass_22 : decode cX8_pass 22 = .ok (.iconst 0, 1) := by decide +kernel
theorem dX8_pass_23 : decode cX8_pass 23 = .ok (.ireturn, 1) := by decide +kernel
theorem dX8_pass_24 : decode cX8_pass 24 = .ok (.aload_n 0, 1) := by decide +kernel
theorem dX8_pass_25 : decode cX8_pass 25 = .ok (.dup, 1) := by decide +kernel
theorem dX8_pass_26 : decode cX8_pass 26 = .ok (.getfield 114, 3) := by decide +kernel
theorem dX8_pass_29 : decode cX8_pass 29 = .ok (.iload_n 1, 1) := by decide +kernel
theorem dX8_pass_30 : decode cX8_pass 30 = .ok (.iadd, 1) := by decide +kernel
theorem dX8_pass_31 : decode cX8_pass 31 = .ok (.putfield 114, 3) := by decide +kernel
theorem dX8_pass_34 : decode cX8_pass 34 = .ok (.iconst 0, 1) := by decide +kernel
theorem dX8_pass_35 : decode cX8_pass 35 = .ok (.istore_n 2, 1) := by decide +kernel
theorem dX8_pass_36 : decode cX8_pass 36 = .ok (.iload_n 2, 1) := by decide +kernel
theorem dX8_pass_37 : decode cX8_pass 37 = .ok (.iconst 4, 1) := by decide +kernel
theorem dX8_pass_38 : decode cX8_pass 38 = .ok (.if_icmp .ge 16, 3) := by decide +kernel
theorem dX8_pass_41 : decode cX8_pass 41 = .ok (.aload_n 0, 1) := by decide +kernel
theorem dX8_pass_42 : decode cX8_pass 42 = .ok (.getfield 66, 3) := by decide +kernel
theorem dX8_pass_45 : decode cX8_pass 45 = .ok (.iload_n 2, 1) := by decide +kernel
theorem dX8_pass_46 : decode cX8_pass 46 = .ok (.lconst 0, 1) := by decide +kernel
theorem dX8_pass_47 : decode cX8_pass 47 = .ok (.lastore, 1) := by decide +kernel
theorem dX8_pass_48 : decode cX8_pass 48 = .ok (.iinc 2 1, 3) := by decide +kernel
theorem dX8_pass_51 : decode cX8_pass 51 = .ok (.goto (-15), 3) := by decide +kernel
theorem dX8_pass_54 : decode cX8_pass 54 = .ok (.iconst 0, 1) := by decide +kernel
theorem dX8_pass_55 : decode cX8_pass 55 = .ok (.istore_n 2, 1) := by decide +kernel
theorem dX8_pass_56 : decode cX8_pass 56 = .ok (.iload_n 2, 1) := by decide +kernel
theorem dX8_pass_57 : decode cX8_pass 57 = .ok (.aload_n 0, 1) := by decide +kernel
theorem dX8_pass_58 : decode cX8_pass 58 = .ok (.getfield 136, 3) := by decide +kernel
theorem dX8_pass_61 : decode cX8_pass 61 = .ok (.if_icmp .ge 75, 3) := by decide +kernel
theorem dX8_pass_64 : decode cX8_pass 64 = .ok (.aload_n 0, 1) := by decide +kernel
theorem dX8_pass_65 : decode cX8_pass 65 = .ok (.getfield 59, 3) := by decide +kernel
theorem dX8_pass_68 : decode cX8_pass 68 = .ok (.iload_n 2, 1) := by decide +kernel
theorem dX8_pass_69 : decode cX8_pass 69 = .ok (.iaload, 1) := by decide +kernel
theorem dX8_pass_70 : decode cX8_pass 70 = .ok (.aload_n 0, 1) := by decide +kernel
theorem dX8_pass_71 : decode cX8_pass 71 = .ok (.getfield 114, 3) := by decide +kernel
theorem dX8_pass_74 : decode cX8_pass 74 = .ok (.if_icmp .ge 7, 3) := by decide +kernel
theorem dX8_pass_77 : decode cX8_pass 77 = .ok (.iconst 1, 1) := by decide +kernel
theorem dX8_pass_78 : decode cX8_pass 78 = .ok (.goto 4, 3) := by decide +kernel
theorem dX8_pass_81 : decode cX8_pass 81 = .ok (.iconst 0, 1) := by decide +kernel
theorem dX8_pass_82 : decode cX8_pass 82 = .ok (.istore_n 3, 1) := by decide +kernel
theorem dX8_pass_83 : decode cX8_pass 83 = .ok (.aload_n 0, 1) := by decide +kernel
theorem dX8_pass_84 : decode cX8_pass 84 = .ok (.getfield 50, 3) := by decide +kernel
theorem dX8_pass_87 : decode cX8_pass 87 = .ok (.iload_n 2, 1) := by decide +kernel
theorem dX8_pass_88 : decode cX8_pass 88 = .ok (.iload_n 3, 1) := by decide +kernel
theorem dX8_pass_89 : decode cX8_pass 89 = .ok (.ifCond .eq 16, 3) := by decide +kernel
theorem dX8_pass_92 : decode cX8_pass 92 = .ok (.aload_n 0, 1) := by decide +kernel
theorem dX8_pass_93 : decode cX8_pass 93 = .ok (.getfield 50, 3) := by decide +kernel
theorem dX8_pass_96 : decode cX8_pass 96 = .ok (.iload_n 2, 1) := by decide +kernel
theorem dX8_pass_97 : decode cX8_pass 97 = .ok (.iaload, 1) := by decide +kernel
theorem dX8_pass_98 : decode cX8_pass 98 = .ok (.ifCond .ne 7, 3) := by decide +kernel
theorem dX8_pass_101 : decode cX8_pass 101 = .ok (.iconst 3, 1) := by decide +kernel
theorem dX8_pass_102 : decode cX8_pass 102 = .ok (.goto 27, 3) := by decide +kernel
theorem dX8_pass_105 : decode cX8_pass 105 = .ok (.iload_n 3, 1) := by decide +kernel
theorem dX8_pass_106 : decode cX8_pass 106 = .ok (.ifCond .eq 17, 3) := by decide +kernel
theorem dX8_pass_109 : decode cX8_pass 109 = .ok (.aload_n 0, 1) := by decide +kernel
theorem dX8_pass_110 : decode cX8_pass 110 = .ok (.getfield 50, 3) := by decide +kernel
theorem dX8_pass_113 : decode cX8_pass 113 = .ok (.iload_n 2, 1) := by decide +kernel
theorem dX8_pass_114 : decode cX8_pass 114 = .ok (.iaload, 1) := by decide +kernel
theorem dX8_pass_115 : decode cX8_pass 115 = .ok (.iconst 1, 1) := by decide +kernel
theorem dX8_pass_116 : decode cX8_pass 116 = .ok (.if_icmp .ne 7, 3) := by decide +kernel
theorem dX8_pass_119 : decode cX8_pass 119 = .ok (.iconst 4, 1) := by decide +kernel
theorem dX8_pass_120 : decode cX8_pass 120 = .ok (.goto 9, 3) := by decide +kernel
theorem dX8_pass_123 : decode cX8_pass 123 = .ok (.aload_n 0, 1) := by decide +kernel
theorem dX8_pass_124 : decode cX8_pass 124 = .ok (.getfield 50, 3) := by decide +kernel
theorem dX8_pass_127 : decode cX8_pass 127 = .ok (.iload_n 2, 1) := by decide +kernel
theorem dX8_pass_128 : decode cX8_pass 128 = .ok (.iaload, 1) := by decide +kernel
theorem dX8_pass_129 : decode cX8_pass 129 = .ok (.iastore, 1) := by decide +kernel
theorem dX8_pass_130 : decode cX8_pass 130 = .ok (.iinc 2 1, 3) := by decide +kernel
theorem dX8_pass_133 : decode cX8_pass 133 = .ok (.goto (-77), 3) := by decide +kernel
theorem dX8_pass_136 : decode cX8_pass 136 = .ok (.aload_n 0, 1) := by decide +kernel
theorem dX8_pass_137 : decode cX8_pass 137 = .ok (.getfield 114, 3) := by decide +kernel
theorem dX8_pass_140 : decode cX8_pass 140 = .ok (.ireturn, 1) := by decide +kernel
set_option maxRecDepth 20000 in
theorem ggX8_paymentOf_X8_isPayment : GoodIn wsX8_paymentOf wsX8_isPayment := goodIn_r _ [10, 11, 12, 13, 9, 14, 26, 27, 28, 29, 30, 31, 32, 33, 34, 35, 36, 37, 38, 39, 40, 41, 42, 43, 44, 45, 46, 47, 48, 49, 50] (by decide +kernel) (by decide +kernel)
set_option maxRecDepth 20000 in
theorem gX8_paymentOf_X8_isPayment : GoodIn wsX8_paymentOf (wsV RX8 117 RX8 yX8_isPayment wsX8_isPayment) := goodIn_app (goodIn_of _ (by decide +kernel)) ggX8_paymentOf_X8_isPayment
set_option maxRecDepth 20000 in
theorem ggX8_paymentOf_X8_isIn : GoodIn wsX8_paymentOf wsX8_isIn := goodIn_r _ [14] (by decide +kernel) (by decide +kernel)
set_option maxRecDepth 20000 in
theorem gX8_paymentOf_X8_isIn : GoodIn wsX8_paymentOf (va_wsS RX8 74 yX8_isIn wsX8_isIn) := goodIn_app (goodIn_of _ (by decide +kernel)) ggX8_paymentOf_X8_isIn
set_option maxRecDepth 20000 in
theorem ggX8_paymentOf_X8_fails : GoodIn wsX8_paymentOf wsX8_fails := goodIn_r _ [18, 19, 26, 27, 28, 29, 30, 31, 32, 33, 34, 35, 36, 37, 38, 39, 40, 41, 42, 43, 44, 45, 46, 47, 48, 49, 50] (by decide +kernel) (by decide +kernel)
set_option maxRecDepth 20000 in
theorem gX8_paymentOf_X8_fails : GoodIn wsX8_paymentOf (wsV RX8 85 RX8 yX8_fails wsX8_fails) := goodIn_app (goodIn_of _ (by decide +kernel)) ggX8_paymentOf_X8_fails
set_option maxRecDepth 20000 in
theorem ggX8_paymentOf_X8_isOpen : GoodIn wsX8_paymentOf wsX8_isOpen := goodIn_r _ [23, 24, 25, 5, 26, 27, 28, 29, 30, 31, 32, 33, 34, 35, 36, 37, 38, 39, 40, 41, 42, 43, 44, 45, 46, 47, 48, 49, 50] (by decide +kernel) (by decide +kernel)
set_option maxRecDepth 20000 in
theorem gX8_paymentOf_X8_isOpen : GoodIn wsX8_paymentOf (wsV RX8 120 RX8 yX8_isOpen wsX8_isOpen) := goodIn_app (goodIn_of _ (by decide +kernel)) ggX8_paymentOf_X8_isOpen
theorem dX8_paymentOf_0 : decode cX8_paymentOf 0 = .ok (.aload_n 0, 1) := by decide +kernel
theorem dX8_paymentOf_1 : decode cX8_paymentOf 1 = .ok (.aload_n 0, 1) := by decide +kernel
theorem dX8_paymentOf_2 : decode cX8_paymentOf 2 = .ok (.iload_n 1, 1) := by decide +kernel
theorem dX8_paymentOf_3 : decode cX8_paymentOf 3 = .ok (.invokevirtual 117, 3) := by decide +kernel
theorem dX8_paymentOf_6 : decode cX8_paymentOf 6 = .ok (.ifCond .ne 7, 3) := by decide +kernel
theorem dX8_paymentOf_9 : decode cX8_paymentOf 9 = .ok (.iconst 1, 1) := by decide +kernel
theorem dX8_paymentOf_10 : decode cX8_paymentOf 10 = .ok (.goto 17, 3) := by decide +kernel
theorem dX8_paymentOf_13 : decode cX8_paymentOf 13 = .ok (.iload_n 2, 1) := by decide +kernel
theorem dX8_paymentOf_14 : decode cX8_paymentOf 14 = .ok (.iconst 0, 1) := by decide +kernel
theorem dX8_paymentOf_15 : decode cX8_paymentOf 15 = .ok (.iconst 5, 1) := by decide +kernel
theorem dX8_paymentOf_16 : decode cX8_paymentOf 16 = .ok (.invokestatic 74, 3) := by decide +kernel
theorem dX8_paymentOf_19 : decode cX8_paymentOf 19 = .ok (.ifCond .eq 7, 3) := by decide +kernel
theorem dX8_paymentOf_22 : decode cX8_paymentOf 22 = .ok (.iconst 0, 1) := by decide +kernel
theorem dX8_paymentOf_23 : decode cX8_paymentOf 23 = .ok (.goto 4, 3) := by decide +kernel
theorem dX8_paymentOf_26 : decode cX8_paymentOf 26 = .ok (.iconst 2, 1) := by decide +kernel
theorem dX8_paymentOf_27 : decode cX8_paymentOf 27 = .ok (.invokevirtual 85, 3) := by decide +kernel
theorem dX8_paymentOf_30 : decode cX8_paymentOf 30 = .ok (.ifCond .eq 5, 3) := by decide +kernel
theorem dX8_paymentOf_33 : decode cX8_paymentOf 33 = .ok (.iconst 0, 1) := by decide +kernel
theorem dX8_paymentOf_34 : decode cX8_paymentOf 34 = .ok (.ireturn, 1) := by decide +kernel
theorem dX8_paymentOf_35 : decode cX8_paymentOf 35 = .ok (.iload_n 2, 1) := by decide +kernel
theorem dX8_paymentOf_36 : decode cX8_paymentOf 36 = .ok (.tableswitch 71 0 4 #[36, 43, 50, 57, 64], 36) := by decide +kernel
theorem dX8_paymentOf_72 : decode cX8_paymentOf 72 = .ok (.aload_n 0, 1) := by decide +kernel
theorem dX8_paymentOf_73 : decode cX8_paymentOf 73 = .ok (.getfield 19, 3) := by decide +kernel
theorem dX8_paymentOf_76 : decode cX8_paymentOf 76 = .ok (.iload_n 1, 1) := by decide +kernel
theorem dX8_paymentOf_77 : decode cX8_paymentOf 77 = .ok (.iaload, 1) := by decide +kernel
theorem dX8_paymentOf_78 : decode cX8_paymentOf 78 = .ok (.ireturn, 1) := by decide +kernel
theorem dX8_paymentOf_79 : decode cX8_paymentOf 79 = .ok (.aload_n 0, 1) := by decide +kernel
theorem dX8_paymentOf_80 : decode cX8_paymentOf 80 = .ok (.getfield 22, 3) := by decide +kernel
theorem dX8_paymentOf_83 : decode cX8_paymentOf 83 = .ok (.iload_n 1, 1) := by decide +kernel
theorem dX8_paymentOf_84 : decode cX8_paymentOf 84 = .ok (.iaload, 1) := by decide +kernel
theorem dX8_paymentOf_85 : decode cX8_paymentOf 85 = .ok (.ireturn, 1) := by decide +kernel
theorem dX8_paymentOf_86 : decode cX8_paymentOf 86 = .ok (.aload_n 0, 1) := by decide +kernel
theorem dX8_paymentOf_87 : decode cX8_paymentOf 87 = .ok (.getfield 25, 3) := by decide +kernel
theorem dX8_paymentOf_90 : decode cX8_paymentOf 90 = .ok (.iload_n 1, 1) := by decide +kernel
theorem dX8_paymentOf_91 : decode cX8_paymentOf 91 = .ok (.iaload, 1) := by decide +kernel
theorem dX8_paymentOf_92 : decode cX8_paymentOf 92 = .ok (.ireturn, 1) := by decide +kernel
theorem dX8_paymentOf_93 : decode cX8_paymentOf 93 = .ok (.aload_n 0, 1) := by decide +kernel
theorem dX8_paymentOf_94 : decode cX8_paymentOf 94 = .ok (.getfield 28, 3) := by decide +kernel
theorem dX8_paymentOf_97 : decode cX8_paymentOf 97 = .ok (.iload_n 1, 1) := by decide +kernel
theorem dX8_paymentOf_98 : decode cX8_paymentOf 98 = .ok (.iaload, 1) := by decide +kernel
theorem dX8_paymentOf_99 : decode cX8_paymentOf 99 = .ok (.ireturn, 1) := by decide +kernel
theorem dX8_paymentOf_100 : decode cX8_paymentOf 100 = .ok (.aload_n 0, 1) := by decide +kernel
theorem dX8_paymentOf_101 : decode cX8_paymentOf 101 = .ok (.getfield 31, 3) := by decide +kernel
theorem dX8_paymentOf_104 : decode cX8_paymentOf 104 = .ok (.iload_n 1, 1) := by decide +kernel
theorem dX8_paymentOf_105 : decode cX8_paymentOf 105 = .ok (.iaload, 1) := by decide +kernel
theorem dX8_paymentOf_106 : decode cX8_paymentOf 106 = .ok (.ireturn, 1) := by decide +kernel
theorem dX8_paymentOf_107 : decode cX8_paymentOf 107 = .ok (.aload_n 0, 1) := by decide +kernel
theorem dX8_paymentOf_108 : decode cX8_paymentOf 108 = .ok (.iload_n 1, 1) := by decide +kernel
theorem dX8_paymentOf_109 : decode cX8_paymentOf 109 = .ok (.invokevirtual 120, 3) := by decide +kernel
theorem dX8_paymentOf_112 : decode cX8_paymentOf 112 = .ok (.ifCond .eq 22, 3) := by decide +kernel
theorem dX8_paymentOf_115 : decode cX8_paymentOf 115 = .ok (.aload_n 0, 1) := by decide +kernel
theorem dX8_paymentOf_116 : decode cX8_paymentOf 116 = .ok (.getfield 28, 3) := by decide +kernel
theorem dX8_paymentOf_119 : decode cX8_paymentOf 119 = .ok (.iload_n 1, 1) := by decide +kernel
theorem dX8_paymentOf_120 : decode cX8_paymentOf 120 = .ok (.iaload, 1) := by decide +kernel
theorem dX8_paymentOf_121 : decode cX8_paymentOf 121 = .ok (.aload_n 0, 1) := by decide +kernel
theorem dX8_paymentOf_122 : decode cX8_paymentOf 122 = .ok (.getfield 25, 3) := by decide +kernel
theorem dX8_paymentOf_125 : decode cX8_paymentOf 125 = .ok (.iload_n 1, 1) := by decide +kernel
theorem dX8_paymentOf_126 : decode cX8_paymentOf 126 = .ok (.iaload, 1) := by decide +kernel
theorem dX8_paymentOf_127 : decode cX8_paymentOf 127 = .ok (.if_icmp .ge 7, 3) := by decide +kernel
theorem dX8_paymentOf_130 : decode cX8_paymentOf 130 = .ok (.iconst 1, 1) := by decide +kernel
theorem dX8_paymentOf_131 : decode cX8_paymentOf 131 = .ok (.goto 4, 3) := by decide +kernel
theorem dX8_paymentOf_134 : decode cX8_paymentOf 134 = .ok (.iconst 0, 1) := by decide +kernel
theorem dX8_paymentOf_135 : decode cX8_paymentOf 135 = .ok (.ireturn, 1) := by decide +kernel
set_option maxRecDepth 20000 in
theorem ggX8_captureOf_X8_isCapture : GoodIn wsX8_captureOf wsX8_isCapture := goodIn_r _ [9, 10, 11, 12, 8, 13, 27, 28, 29, 30, 31, 32, 33, 34, 35, 36, 37, 38, 39, 40, 41, 42, 43, 44, 45, 46, 47, 48, 49, 50, 51] (by decide +kernel) (by decide +kernel)
set_option maxRecDepth 20000 in
theorem gX8_captureOf_X8_isCapture : GoodIn wsX8_captureOf (wsV RX8 139 RX8 yX8_isCapture wsX8_isCapture) := goodIn_app (goodIn_of _ (by decide +kernel)) ggX8_captureOf_X8_isCapture
set_option maxRecDepth 20000 in
theorem ggX8_captureOf_X8_isIn : GoodIn wsX8_captureOf wsX8_isIn := goodIn_r _ [13] (by decide +kernel) (by decide +kernel)
set_option maxRecDepth 20000 in
theorem gX8_captureOf_X8_isIn : GoodIn wsX8_captureOf (va_wsS RX8 74 yX8_isIn wsX8_isIn) := goodIn_app (goodIn_of _ (by decide +kernel)) ggX8_captureOf_X8_isIn
set_option maxRecDepth 20000 in
theorem ggX8_captureOf_X8_fails : GoodIn wsX8_captureOf wsX8_fails := goodIn_r _ [17, 18, 27, 28, 29, 30, 31, 32, 33, 34, 35, 36, 37, 38, 39, 40, 41, 42, 43, 44, 45, 46, 47, 48, 49, 50, 51] (by decide +kernel) (by decide +kernel)
set_option maxRecDepth 20000 in
theorem gX8_captureOf_X8_fails : GoodIn wsX8_captureOf (wsV RX8 85 RX8 yX8_fails wsX8_fails) := goodIn_app (goodIn_of _ (by decide +kernel)) ggX8_captureOf_X8_fails
set_option maxRecDepth 20000 in
theorem ggX8_captureOf_X8_givenBack : GoodIn wsX8_captureOf wsX8_givenBack := goodIn_r _ [22, 4, 23, 24, 25, 26, 27, 28, 29, 30, 31, 32, 33, 34, 35, 36, 37, 38, 39, 40, 41, 42, 43, 44, 45, 46, 47, 48, 49, 50, 51] (by decide +kernel) (by decide +kernel)
set_option maxRecDepth 20000 in
theorem gX8_captureOf_X8_givenBack : GoodIn wsX8_captureOf (wsV RX8 142 RX8 yX8_givenBack wsX8_givenBack) := goodIn_app (goodIn_of _ (by decide +kernel)) ggX8_captureOf_X8_givenBack
theorem dX8_captureOf_0 : decode cX8_captureOf 0 = .ok (.aload_n 0, 1) := by decide +kernel
theorem dX8_captureOf_1 : decode cX8_captureOf 1 = .ok (.aload_n 0, 1) := by decide +kernel
theorem dX8_captureOf_2 : decode cX8_captureOf 2 = .ok (.iload_n 1, 1) := by decide +kernel
theorem dX8_captureOf_3 : decode cX8_captureOf 3 = .ok (.invokevirtual 139, 3) := by decide +kernel
theorem dX8_captureOf_6 : decode cX8_captureOf 6 = .ok (.ifCond .ne 7, 3) := by decide +kernel
theorem dX8_captureOf_9 : decode cX8_captureOf 9 = .ok (.iconst 1, 1) := by decide +kernel
theorem dX8_captureOf_10 : decode cX8_captureOf 10 = .ok (.goto 17, 3) := by decide +kernel
theorem dX8_captureOf_13 : decode cX8_captureOf 13 = .ok (.iload_n 2, 1) := by decide +kernel
theorem dX8_captureOf_14 : decode cX8_captureOf 14 = .ok (.iconst 0, 1) := by decide +kernel
theorem dX8_captureOf_15 : decode cX8_captureOf 15 = .ok (.iconst 4, 1) := by decide +kernel
theorem dX8_captureOf_16 : decode cX8_captureOf 16 = .ok (.invokestatic 74, 3) := by decide +kernel
theorem dX8_captureOf_19 : decode cX8_captureOf 19 = .ok (.ifCond .eq 7, 3) := by decide +kernel
theorem dX8_captureOf_22 : decode cX8_captureOf 22 = .ok (.iconst 0, 1) := by decide +kernel
theorem dX8_captureOf_23 : decode cX8_captureOf 23 = .ok (.goto 4, 3) := by decide +kernel
theorem dX8_captureOf_26 : decode cX8_captureOf 26 = .ok (.iconst 2, 1) := by decide +kernel
theorem dX8_captureOf_27 : decode cX8_captureOf 27 = .ok (.invokevirtual 85, 3) := by decide +kernel
theorem dX8_captureOf_30 : decode cX8_captureOf 30 = .ok (.ifCond .eq 5, 3) := by decide +kernel
theorem dX8_captureOf_33 : decode cX8_captureOf 33 = .ok (.iconst 0, 1) := by decide +kernel
theorem dX8_captureOf_34 : decode cX8_captureOf 34 = .ok (.ireturn, 1) := by decide +kernel
theorem dX8_captureOf_35 : decode cX8_captureOf 35 = .ok (.iload_n 2, 1) := by decide +kernel
theorem dX8_captureOf_36 : decode cX8_captureOf 36 = .ok (.ifCond .ne 12, 3) := by decide +kernel
theorem dX8_captureOf_39 : decode cX8_captureOf 39 = .ok (.aload_n 0, 1) := by decide +kernel
theorem dX8_captureOf_40 : decode cX8_captureOf 40 = .ok (.getfield 38, 3) := by decide +kernel
theorem dX8_captureOf_43 : decode cX8_captureOf 43 = .ok (.iload_n 1, 1) := by decide +kernel
theorem dX8_captureOf_44 : decode cX8_captureOf 44 = .ok (.iaload, 1) := by decide +kernel
theorem dX8_captureOf_45 : decode cX8_captureOf 45 = .ok (.goto 50, 3) := by decide +kernel
theorem dX8_captureOf_48 : decode cX8_captureOf 48 = .ok (.iload_n 2, 1) := by decide +kernel
theorem dX8_captureOf_49 : decode cX8_captureOf 49 = .ok (.iconst 1, 1) := by decide +kernel
theorem dX8_captureOf_50 : decode cX8_captureOf 50 = .ok (.if_icmp .ne 12, 3) := by decide +kernel
theorem dX8_captureOf_53 : decode cX8_captureOf 53 = .ok (.aload_n 0, 1) := by decide +kernel
theorem dX8_captureOf_54 : decode cX8_captureOf 54 = .ok (.getfield 41, 3) := by decide +kernel
theorem dX8_captureOf_57 : decode cX8_captureOf 57 = .ok (.iload_n 1, 1) := by decide +kernel
theorem dX8_captureOf_58 : decode cX8_captureOf 58 = .ok (.iaload, 1) := by decide +kernel
theorem dX8_captureOf_59 : decode cX8_captureOf 59 = .ok (.goto 36, 3) := by decide +kernel
theorem dX8_captureOf_62 : decode cX8_captureOf 62 = .ok (.iload_n 2, 1) := by decide +kernel
theorem dX8_captureOf_63 : decode cX8_captureOf 63 = .ok (.iconst 2, 1) := by decide +kernel
theorem dX8_captureOf_64 : decode cX8_captureOf 64 = .ok (.if_icmp .ne 12, 3) := by decide +kernel
theorem dX8_captureOf_67 : decode cX8_captureOf 67 = .ok (.aload_n 0, 1) := by decide +kernel
theorem dX8_captureOf_68 : decode cX8_captureOf 68 = .ok (.getfield 44, 3) := by decide +kernel
theorem dX8_captureOf_71 : decode cX8_captureOf 71 = .ok (.iload_n 1, 1) := by decide +kernel
theorem dX8_captureOf_72 : decode cX8_captureOf 72 = .ok (.iaload, 1) := by decide +kernel
theorem dX8_captureOf_73 : decode cX8_captureOf 73 = .ok (.goto 22, 3) := by decide +kernel
theorem dX8_captureOf_76 : decode cX8_captureOf 76 = .ok (.iload_n 2, 1) := by decide +kernel
theorem dX8_captureOf_77 : decode cX8_captureOf 77 = .ok (.iconst 3, 1) := by decide +kernel
theorem dX8_captureOf_78 : decode cX8_captureOf 78 = .ok (.if_icmp .ne 12, 3) := by decide +kernel
theorem dX8_captureOf_81 : decode cX8_captureOf 81 = .ok (.aload_n 0, 1) := by decide +kernel
theorem dX8_captureOf_82 : decode cX8_captureOf 82 = .ok (.getfield 47, 3) := by decide +kernel
theorem dX8_captureOf_85 : decode cX8_captureOf 85 = .ok (.iload_n 1, 1) := by decide +kernel
theorem dX8_captureOf_86 : decode cX8_captureOf 86 = .ok (.iaload, 1) := by decide +kernel
theorem dX8_captureOf_87 : decode cX8_captureOf 87 = .ok (.goto 8, 3) := by decide +kernel
theorem dX8_captureOf_90 : decode cX8_captureOf 90 = .ok (.aload_n 0, 1) := by decide +kernel
theorem dX8_captureOf_91 : decode cX8_captureOf 91 = .ok (.iload_n 1, 1) := by decide +kernel
theorem dX8_captureOf_92 : decode cX8_captureOf 92 = .ok (.invokevirtual 142, 3) := by decide +kernel
theorem dX8_captureOf_95 : decode cX8_captureOf 95 = .ok (.ireturn, 1) := by decide +kernel
theorem dX8_isDue_0 : decode cX8_isDue 0 = .ok (.aload_n 0, 1) := by decide +kernel
theorem dX8_isDue_1 : decode cX8_isDue 1 = .ok (.getfield 50, 3) := by decide +kernel
theorem dX8_isDue_4 : decode cX8_isDue 4 = .ok (.iload_n 1, 1) := by decide +kernel
theorem dX8_isDue_5 : decode cX8_isDue 5 = .ok (.iaload, 1) := by decide +kernel
theorem dX8_isDue_6 : decode cX8_isDue 6 = .ok (.ifCond .eq 13, 3) := by decide +kernel
theorem dX8_isDue_9 : decode cX8_isDue 9 = .ok (.aload_n 0, 1) := by decide +kernel
theorem dX8_isDue_10 : decode cX8_isDue 10 = .ok (.getfield 50, 3) := by decide +kernel
theorem dX8_isDue_13 : decode cX8_isDue 13 = .ok (.iload_n 1, 1) := by decide +kernel
theorem dX8_isDue_14 : decode cX8_isDue 14 = .ok (.iaload, 1) := by decide +kernel
theorem dX8_isDue_15 : decode cX8_isDue 15 = .ok (.iconst 1, 1) := by decide +kernel
theorem dX8_isDue_16 : decode cX8_isDue 16 = .ok (.if_icmp .ne 7, 3) := by decide +kernel
theorem dX8_isDue_19 : decode cX8_isDue 19 = .ok (.iconst 1, 1) := by decide +kernel
theorem dX8_isDue_20 : decode cX8_isDue 20 = .ok (.goto 4, 3) := by decide +kernel
theorem dX8_isDue_23 : decode cX8_isDue 23 = .ok (.iconst 0, 1) := by decide +kernel
theorem dX8_isDue_24 : decode cX8_isDue 24 = .ok (.ireturn, 1) := by decide +kernel
set_option maxRecDepth 20000 in
theorem ggX8_chargebackOf_X8_isIn : GoodIn wsX8_chargebackOf wsX8_isIn := goodIn_r _ [9] (by decide +kernel) (by decide +kernel)
set_option maxRecDepth 20000 in
theorem gX8_chargebackOf_X8_isIn : GoodIn wsX8_chargebackOf (va_wsS RX8 74 yX8_isIn wsX8_isIn) := goodIn_app (goodIn_of _ (by decide +kernel)) ggX8_chargebackOf_X8_isIn
set_option maxRecDepth 20000 in
theorem ggX8_chargebackOf_X8_fails : GoodIn wsX8_chargebackOf wsX8_fails := goodIn_r _ [13, 14, 19, 20, 21, 22, 23, 24, 25, 26, 27, 28, 29, 30, 31, 32, 33, 34, 35, 36, 37, 38, 39, 40, 41, 42, 43] (by decide +kernel) (by decide +kernel)
set_option maxRecDepth 20000 in
theorem gX8_chargebackOf_X8_fails : GoodIn wsX8_chargebackOf (wsV RX8 85 RX8 yX8_fails wsX8_fails) := goodIn_app (goodIn_of _ (by decide +kernel)) ggX8_chargebackOf_X8_fails
set_option maxRecDepth 20000 in
theorem ggX8_chargebackOf_X8_isDue : GoodIn wsX8_chargebackOf wsX8_isDue := goodIn_r _ [18, 2, 19, 20, 21, 22, 23, 24, 25, 26, 27, 28, 29, 30, 31, 32, 33, 34, 35, 36, 37, 38, 39, 40, 41, 42, 43] (by decide +kernel) (by decide +kernel)
set_option maxRecDepth 20000 in
theorem gX8_chargebackOf_X8_isDue : GoodIn wsX8_chargebackOf (wsV RX8 156 RX8 yX8_isDue wsX8_isDue) := goodIn_app (goodIn_of _ (by decide +kernel)) ggX8_chargebackOf_X8_isDue
theorem dX8_chargebackOf_0 : decode cX8_chargebackOf 0 = .ok (.aload_n 0, 1) := by decide +kernel
theorem dX8_chargebackOf_1 : decode cX8_chargebackOf 1 = .ok (.iload_n 1, 1) := by decide +kernel
theorem dX8_chargebackOf_2 : decode cX8_chargebackOf 2 = .ok (.iconst 0, 1) := by decide +kernel
theorem dX8_chargebackOf_3 : decode cX8_chargebackOf 3 = .ok (.aload_n 0, 1) := by decide +kernel
theorem dX8_chargebackOf_4 : decode cX8_chargebackOf 4 = .ok (.getfield 136, 3) := by decide +kernel
theorem dX8_chargebackOf_7 : decode cX8_chargebackOf 7 = .ok (.iconst 1, 1) := by decide +kernel
theorem dX8_chargebackOf_8 : decode cX8_chargebackOf 8 = .ok (.isub, 1) := by decide +kernel
theorem dX8_chargebackOf_9 : decode cX8_chargebackOf 9 = .ok (.invokestatic 74, 3) := by decide +kernel
theorem dX8_chargebackOf_12 : decode cX8_chargebackOf 12 = .ok (.ifCond .ne 7, 3) := by decide +kernel
theorem dX8_chargebackOf_15 : decode cX8_chargebackOf 15 = .ok (.iconst 1, 1) := by decide +kernel
theorem dX8_chargebackOf_16 : decode cX8_chargebackOf 16 = .ok (.goto 17, 3) := by decide +kernel
theorem dX8_chargebackOf_19 : decode cX8_chargebackOf 19 = .ok (.iload_n 2, 1) := by decide +kernel
theorem dX8_chargebackOf_20 : decode cX8_chargebackOf 20 = .ok (.iconst 0, 1) := by decide +kernel
theorem dX8_chargebackOf_21 : decode cX8_chargebackOf 21 = .ok (.iconst 3, 1) := by decide +kernel
theorem dX8_chargebackOf_22 : decode cX8_chargebackOf 22 = .ok (.invokestatic 74, 3) := by decide +kernel
theorem dX8_chargebackOf_25 : decode cX8_chargebackOf 25 = .ok (.ifCond .eq 7, 3) := by decide +kernel
theorem dX8_chargebackOf_28 : decode cX8_chargebackOf 28 = .ok (.iconst 0, 1) := by decide +kernel
theorem dX8_chargebackOf_29 : decode cX8_chargebackOf 29 = .ok (.goto 4, 3) := by decide +kernel
theorem dX8_chargebackOf_32 : decode cX8_chargebackOf 32 = .ok (.iconst 2, 1) := by decide +kernel
theorem dX8_chargebackOf_33 : decode cX8_chargebackOf 33 = .ok (.invokevirtual 85, 3) := by decide +kernel
theorem dX8_chargebackOf_36 : decode cX8_chargebackOf 36 = .ok (.ifCond .eq 5, 3) := by decide +kernel
theorem dX8_chargebackOf_39 : decode cX8_chargebackOf 39 = .ok (.iconst 0, 1) := by decide +kernel
theorem dX8_chargebackOf_40 : decode cX8_chargebackOf 40 = .ok (.ireturn, 1) := by decide +kernel
theorem dX8_chargebackOf_41 : decode cX8_chargebackOf 41 = .ok (.iload_n 2, 1) := by decide +kernel
theorem dX8_chargebackOf_42 : decode cX8_chargebackOf 42 = .ok (.ifCond .ne 12, 3) := by decide +kernel
theorem dX8_chargebackOf_45 : decode cX8_chargebackOf 45 = .ok (.aload_n 0, 1) := by decide +kernel
theorem dX8_chargebackOf_46 : decode cX8_chargebackOf 46 = .ok (.getfield 50, 3) := by decide +kernel
theorem dX8_chargebackOf_49 : decode cX8_chargebackOf 49 = .ok (.iload_n 1, 1) := by decide +kernel
theorem dX8_chargebackOf_50 : decode cX8_chargebackOf 50 = .ok (.iaload, 1) := by decide +kernel
theorem dX8_chargebackOf_51 : decode cX8_chargebackOf 51 = .ok (.goto 49, 3) := by decide +kernel
theorem dX8_chargebackOf_54 : decode cX8_chargebackOf 54 = .ok (.iload_n 2, 1) := by decide +kernel
theorem dX8_chargebackOf_55 : decode cX8_chargebackOf 55 = .ok (.iconst 1, 1) := by decide +kernel
theorem dX8_chargebackOf_56 : decode cX8_chargebackOf 56 = .ok (.if_icmp .ne 12, 3) := by decide +kernel
theorem dX8_chargebackOf_59 : decode cX8_chargebackOf 59 = .ok (.aload_n 0, 1) := by decide +kernel
theorem dX8_chargebackOf_60 : decode cX8_chargebackOf 60 = .ok (.getfield 53, 3) := by decide +kernel
theorem dX8_chargebackOf_63 : decode cX8_chargebackOf 63 = .ok (.iload_n 1, 1) := by decide +kernel
theorem dX8_chargebackOf_64 : decode cX8_chargebackOf 64 = .ok (.iaload, 1) := by decide +kernel
theorem dX8_chargebackOf_65 : decode cX8_chargebackOf 65 = .ok (.goto 35, 3) := by decide +kernel
theorem dX8_chargebackOf_68 : decode cX8_chargebackOf 68 = .ok (.iload_n 2, 1) := by decide +kernel
theorem dX8_chargebackOf_69 : decode cX8_chargebackOf 69 = .ok (.iconst 2, 1) := by decide +kernel
theorem dX8_chargebackOf_70 : decode cX8_chargebackOf 70 = .ok (.if_icmp .ne 12, 3) := by decide +kernel
theorem dX8_chargebackOf_73 : decode cX8_chargebackOf 73 = .ok (.aload_n 0, 1) := by decide +kernel
theorem dX8_chargebackOf_74 : decode cX8_chargebackOf 74 = .ok (.getfield 56, 3) := by decide +kernel
theorem dX8_chargebackOf_77 : decode cX8_chargebackOf 77 = .ok (.iload_n 1, 1) := by decide +kernel
theorem dX8_chargebackOf_78 : decode cX8_chargebackOf 78 = .ok (.iaload, 1) := by decide +kernel
theorem dX8_chargebackOf_79 : decode cX8_chargebackOf 79 = .ok (.goto 21, 3) := by decide +kernel
theorem dX8_chargebackOf_82 : decode cX8_chargebackOf 82 = .ok (.aload_n 0, 1) := by decide +kernel
theorem dX8_chargebackOf_83 : decode cX8_chargebackOf 83 = .ok (.iload_n 1, 1) := by decide +kernel
theorem dX8_chargebackOf_84 : decode cX8_chargebackOf 84 = .ok (.invokevirtual 156, 3) := by decide +kernel
theorem dX8_chargebackOf_87 : decode cX8_chargebackOf 87 = .ok (.ifCond .eq 12, 3) := by decide +kernel
theorem dX8_chargebackOf_90 : decode cX8_chargebackOf 90 = .ok (.aload_n 0, 1) := by decide +kernel
theorem dX8_chargebackOf_91 : decode cX8_chargebackOf 91 = .ok (.getfield 59, 3) := by decide +kernel
theorem dX8_chargebackOf_94 : decode cX8_chargebackOf 94 = .ok (.iload_n 1, 1) := by decide +kernel
theorem dX8_chargebackOf_95 : decode cX8_chargebackOf 95 = .ok (.iaload, 1) := by decide +kernel
theorem dX8_chargebackOf_96 : decode cX8_chargebackOf 96 = .ok (.goto 4, 3) := by decide +kernel
theorem dX8_chargebackOf_99 : decode cX8_chargebackOf 99 = .ok (.iconst (-1), 1) := by decide +kernel
theorem dX8_chargebackOf_100 : decode cX8_chargebackOf 100 = .ok (.ireturn, 1) := by decide +kernel
set_option maxRecDepth 20000 in
theorem ggX8_limit_X8_isCard : GoodIn wsX8_limit wsX8_isCard := goodIn_r _ [4, 5, 6, 3, 7] (by decide +kernel) (by decide +kernel)
set_option maxRecDepth 20000 in
theorem gX8_limit_X8_isCard : GoodIn wsX8_limit (va_wsS RX8 101 yX8_isCard wsX8_isCard) := goodIn_app (goodIn_of _ (by decide +kernel)) ggX8_limit_X8_isCard
set_option maxRecDepth 20000 in
theorem ggX8_limit_X8_fails : GoodIn wsX8_limit wsX8_fails := goodIn_r _ [11, 12, 23, 24, 25, 26, 27, 28, 29, 30, 31, 32, 33, 34, 35, 36, 37, 38, 39, 40, 41, 42, 43, 44, 45, 46, 47] (by decide +kernel) (by decide +kernel)
set_option maxRecDepth 20000 in
theorem gX8_limit_X8_fails : GoodIn wsX8_limit (wsV RX8 85 RX8 yX8_fails wsX8_fails) := goodIn_app (goodIn_of _ (by decide +kernel)) ggX8_limit_X8_fails
set_option maxRecDepth 20000 in
theorem ggX8_limit_X8_limitOf : GoodIn wsX8_limit wsX8_limitOf := goodIn_r _ [16, 17, 18, 19, 20, 21, 22, 23, 24, 25, 26, 27, 28, 29, 30, 31, 32, 33, 34, 35, 36, 37, 38, 39, 40, 41, 42, 43, 44, 45, 46, 47] (by decide +kernel) (by decide +kernel)
set_option maxRecDepth 20000 in
theorem gX8_limit_X8_limitOf : GoodIn wsX8_limit (wsV RX8 110 RX8 yX8_limitOf wsX8_limitOf) := goodIn_app (goodIn_of _ (by decide +kernel)) ggX8_limit_X8_limitOf
theorem dX8_limit_0 : decode cX8_limit 0 = .ok (.aload_n 0, 1) := by decide +kernel
theorem dX8_limit_1 : decode cX8_limit 1 = .ok (.iload_n 1, 1) := by decide +kernel
theorem dX8_limit_2 : decode cX8_limit 2 = .ok (.invokestatic 101, 3) := by decide +kernel
theorem dX8_limit_5 : decode cX8_limit 5 = .ok (.ifCond .eq 7, 3) := by decide +kernel
theorem dX8_limit_8 : decode cX8_limit 8 = .ok (.iconst 0, 1) := by decide +kernel
theorem dX8_limit_9 : decode cX8_limit 9 = .ok (.goto 4, 3) := by decide +kernel
theorem dX8_limit_12 : decode cX8_limit 12 = .ok (.iconst 1, 1) := by decide +kernel
theorem dX8_limit_13 : decode cX8_limit 13 = .ok (.invokevirtual 85, 3) := by decide +kernel
theorem dX8_limit_16 : decode cX8_limit 16 = .ok (.ifCond .eq 7, 3) := by decide +kernel
theorem dX8_limit_19 : decode cX8_limit 19 = .ok (.iconst 0, 1) := by decide +kernel
theorem dX8_limit_20 : decode cX8_limit 20 = .ok (.goto 8, 3) := by decide +kernel
theorem dX8_limit_23 : decode cX8_limit 23 = .ok (.aload_n 0, 1) := by decide +kernel
theorem dX8_limit_24 : decode cX8_limit 24 = .ok (.iload_n 1, 1) := by decide +kernel
theorem dX8_limit_25 : decode cX8_limit 25 = .ok (.invokevirtual 110, 3) := by decide +kernel
theorem dX8_limit_28 : decode cX8_limit 28 = .ok (.ireturn, 1) := by decide +kernel
set_option maxRecDepth 20000 in
theorem ggX8_isBank_X8_isIn : GoodIn wsX8_isBank wsX8_isIn := goodIn_r _ [4] (by decide +kernel) (by decide +kernel)
set_option maxRecDepth 20000 in
theorem gX8_isBank_X8_isIn : GoodIn wsX8_isBank (va_wsS RX8 74 yX8_isIn wsX8_isIn) := goodIn_app (goodIn_of _ (by decide +kernel)) ggX8_isBank_X8_isIn
theorem dX8_isBank_0 : decode cX8_isBank 0 = .ok (.iload_n 0, 1) := by decide +kernel
theorem dX8_isBank_1 : decode cX8_isBank 1 = .ok (.iconst 0, 1) := by decide +kernel
theorem dX8_isBank_2 : decode cX8_isBank 2 = .ok (.iconst 3, 1) := by decide +kernel
theorem dX8_isBank_3 : decode cX8_isBank 3 = .ok (.invokestatic 74, 3) := by decide +kernel
theorem dX8_isBank_6 : decode cX8_isBank 6 = .ok (.ireturn, 1) := by decide +kernel
set_option maxRecDepth 20000 in
theorem ggX8_net_X8_isBank : GoodIn wsX8_net wsX8_isBank := goodIn_r _ [6, 7, 8, 5, 9] (by decide +kernel) (by decide +kernel)
set_option maxRecDepth 20000 in
theorem gX8_net_X8_isBank : GoodIn wsX8_net (va_wsS RX8 159 yX8_isBank wsX8_isBank) := goodIn_app (goodIn_of _ (by decide +kernel)) ggX8_net_X8_isBank
set_option maxRecDepth 20000 in
theorem ggX8_net_X8_fails : GoodIn wsX8_net wsX8_fails := goodIn_r _ [13, 14, 15, 16, 17, 18, 19, 20, 21, 22, 23, 24, 25, 26, 27, 28, 29, 30, 31, 32, 33, 34, 35, 36, 37, 38, 39] (by decide +kernel) (by decide +kernel)
set_option maxRecDepth 20000 in
theorem gX8_net_X8_fails : GoodIn wsX8_net (wsV RX8 85 RX8 yX8_fails wsX8_fails) := goodIn_app (goodIn_of _ (by decide +kernel)) ggX8_net_X8_fails
theorem dX8_net_0 : decode cX8_net 0 = .ok (.aload_n 0, 1) := by decide +kernel
theorem dX8_net_1 : decode cX8_net 1 = .ok (.iload_n 1, 1) := by decide +kernel
theorem dX8_net_2 : decode cX8_net 2 = .ok (.invokestatic 159, 3) := by decide +kernel
theorem dX8_net_5 : decode cX8_net 5 = .ok (.ifCond .eq 7, 3) := by decide +kernel
theorem dX8_net_8 : decode cX8_net 8 = .ok (.iconst 0, 1) := by decide +kernel
theorem dX8_net_9 : decode cX8_net 9 = .ok (.goto 4, 3) := by decide +kernel
theorem dX8_net_12 : decode cX8_net 12 = .ok (.iconst 1, 1) := by decide +kernel
theorem dX8_net_13 : decode cX8_net 13 = .ok (.invokevirtual 85, 3) := by decide +kernel
theorem dX8_net_16 : decode cX8_net 16 = .ok (.ifCond .eq 7, 3) := by decide +kernel
theorem dX8_net_19 : decode cX8_net 19 = .ok (.lconst 0, 1) := by decide +kernel
theorem dX8_net_20 : decode cX8_net 20 = .ok (.goto 22, 3) := by decide +kernel
theorem dX8_net_23 : decode cX8_net 23 = .ok (.iload_n 2, 1) := by decide +kernel
theorem dX8_net_24 : decode cX8_net 24 = .ok (.ifCond .eq 12, 3) := by decide +kernel
theorem dX8_net_27 : decode cX8_net 27 = .ok (.aload_n 0, 1) := by decide +kernel
theorem dX8_net_28 : decode cX8_net 28 = .ok (.getfield 62, 3) := by decide +kernel
theorem dX8_net_31 : decode cX8_net 31 = .ok (.iload_n 1, 1) := by decide +kernel
theorem dX8_net_32 : decode cX8_net 32 = .ok (.laload, 1) := by decide +kernel
theorem dX8_net_33 : decode cX8_net 33 = .ok (.goto 9, 3) := by decide +kernel
theorem dX8_net_36 : decode cX8_net 36 = .ok (.aload_n 0, 1) := by decide +kernel
theorem dX8_net_37 : decode cX8_net 37 = .ok (.getfield 66, 3) := by decide +kernel
theorem dX8_net_40 : decode cX8_net 40 = .ok (.iload_n 1, 1) := by decide +kernel
theorem dX8_net_41 : decode cX8_net 41 = .ok (.laload, 1) := by decide +kernel
theorem dX8_net_42 : decode cX8_net 42 = .ok (.lreturn, 1) := by decide +kernel
set_option maxRecDepth 20000 in
theorem ggX8_netAnew_X8_isBank : GoodIn wsX8_netAnew wsX8_isBank := goodIn_r _ [5, 6, 7, 4, 8] (by decide +kernel) (by decide +kernel)
set_option maxRecDepth 20000 in
theorem gX8_netAnew_X8_isBank : GoodIn wsX8_netAnew (va_wsS RX8 159 yX8_isBank wsX8_isBank) := goodIn_app (goodIn_of _ (by decide +kernel)) ggX8_netAnew_X8_isBank
set_option maxRecDepth 20000 in
theorem ggX8_netAnew_X8_fails : GoodIn wsX8_netAnew wsX8_fails := goodIn_r _ [12, 13, 14, 15, 16, 17, 18, 19, 20, 21, 22, 23, 24, 25, 26, 27, 28, 29, 30, 31, 32, 33, 34, 35, 36, 37, 38] (by decide +kernel) (by decide +kernel)
set_option maxRecDepth 20000 in
theorem gX8_netAnew_X8_fails : GoodIn wsX8_netAnew (wsV RX8 85 RX8 yX8_fails wsX8_fails) := goodIn_app (goodIn_of _ (by decide +kernel)) ggX8_netAnew_X8_fails
theorem dX8_netAnew_0 : decode cX8_netAnew 0 = .ok (.aload_n 0, 1) := by decide +kernel
theorem dX8_netAnew_1 : decode cX8_netAnew 1 = .ok (.iload_n 1, 1) := by decide +kernel
theorem dX8_netAnew_2 : decode cX8_netAnew 2 = .ok (.invokestatic 159, 3) := by decide +kernel
theorem dX8_netAnew_5 : decode cX8_netAnew 5 = .ok (.ifCond .eq 7, 3) := by decide +kernel
theorem dX8_netAnew_8 : decode cX8_netAnew 8 = .ok (.iconst 0, 1) := by decide +kernel
theorem dX8_netAnew_9 : decode cX8_netAnew 9 = .ok (.goto 4, 3) := by decide +kernel
theorem dX8_netAnew_12 : decode cX8_netAnew 12 = .ok (.iconst 1, 1) := by decide +kernel
theorem dX8_netAnew_13 : decode cX8_netAnew 13 = .ok (.invokevirtual 85, 3) := by decide +kernel
theorem dX8_netAnew_16 : decode cX8_netAnew 16 = .ok (.ifCond .eq 7, 3) := by decide +kernel
theorem dX8_netAnew_19 : decode cX8_netAnew 19 = .ok (.lconst 0, 1) := by decide +kernel
theorem dX8_netAnew_20 : decode cX8_netAnew 20 = .ok (.goto 9, 3) := by decide +kernel
theorem dX8_netAnew_23 : decode cX8_netAnew 23 = .ok (.aload_n 0, 1) := by decide +kernel
theorem dX8_netAnew_24 : decode cX8_netAnew 24 = .ok (.getfield 62, 3) := by decide +kernel
theorem dX8_netAnew_27 : decode cX8_netAnew 27 = .ok (.iload_n 1, 1) := by decide +kernel
theorem dX8_netAnew_28 : decode cX8_netAnew 28 = .ok (.laload, 1) := by decide +kernel
theorem dX8_netAnew_29 : decode cX8_netAnew 29 = .ok (.lreturn, 1) := by decide +kernel
theorem dX8_isAhead_0 : decode cX8_isAhead 0 = .ok (.aload_n 0, 1) := by decide +kernel
theorem dX8_isAhead_1 : decode cX8_isAhead 1 = .ok (.getfield 59, 3) := by decide +kernel
theorem dX8_isAhead_4 : decode cX8_isAhead 4 = .ok (.iload_n 1, 1) := by decide +kernel
theorem dX8_isAhead_5 : decode cX8_isAhead 5 = .ok (.iaload, 1) := by decide +kernel
theorem dX8_isAhead_6 : decode cX8_isAhead 6 = .ok (.aload_n 0, 1) := by decide +kernel
theorem dX8_isAhead_7 : decode cX8_isAhead 7 = .ok (.getfield 59, 3) := by decide +kernel
theorem dX8_isAhead_10 : decode cX8_isAhead 10 = .ok (.iload_n 2, 1) := by decide +kernel
theorem dX8_isAhead_11 : decode cX8_isAhead 11 = .ok (.iaload, 1) := by decide +kernel
theorem dX8_isAhead_12 : decode cX8_isAhead 12 = .ok (.if_icmp .eq 24, 3) := by decide +kernel
theorem dX8_isAhead_15 : decode cX8_isAhead 15 = .ok (.aload_n 0, 1) := by decide +kernel
theorem dX8_isAhead_16 : decode cX8_isAhead 16 = .ok (.getfield 59, 3) := by decide +kernel
theorem dX8_isAhead_19 : decode cX8_isAhead 19 = .ok (.iload_n 1, 1) := by decide +kernel
theorem dX8_isAhead_20 : decode cX8_isAhead 20 = .ok (.iaload, 1) := by decide +kernel
theorem dX8_isAhead_21 : decode cX8_isAhead 21 = .ok (.aload_n 0, 1) := by decide +kernel
theorem dX8_isAhead_22 : decode cX8_isAhead 22 = .ok (.getfield 59, 3) := by decide +kernel
theorem dX8_isAhead_25 : decode cX8_isAhead 25 = .ok (.iload_n 2, 1) := by decide +kernel
theorem dX8_isAhead_26 : decode cX8_isAhead 26 = .ok (.iaload, 1) := by decide +kernel
theorem dX8_isAhead_27 : decode cX8_isAhead 27 = .ok (.if_icmp .ge 7, 3) := by decide +kernel
theorem dX8_isAhead_30 : decode cX8_isAhead 30 = .ok (.iconst 1, 1) := by decide +kernel
theorem dX8_isAhead_31 : decode cX8_isAhead 31 = .ok (.goto 4, 3) := by decide +kernel
theorem dX8_isAhead_34 : decode cX8_isAhead 34 = .ok (.iconst 0, 1) := by decide +kernel
theorem dX8_isAhead_35 : decode cX8_isAhead 35 = .ok (.ireturn, 1) := by decide +kernel
theorem dX8_isAhead_36 : decode cX8_isAhead 36 = .ok (.aload_n 0, 1) := by decide +kernel
theorem dX8_isAhead_37 : decode cX8_isAhead 37 = .ok (.getfield 56, 3) := by decide +kernel
theorem dX8_isAhead_40 : decode cX8_isAhead 40 = .ok (.iload_n 1, 1) := by decide +kernel
theorem dX8_isAhead_41 : decode cX8_isAhead 41 = .ok (.iaload, 1) := by decide +kernel
theorem dX8_isAhead_42 : decode cX8_isAhead 42 = .ok (.aload_n 0, 1) := by decide +kernel
theorem dX8_isAhead_43 : decode cX8_isAhead 43 = .ok (.getfield 56, 3) := by decide +kernel
theorem dX8_isAhead_46 : decode cX8_isAhead 46 = .ok (.iload_n 2, 1) := by decide +kernel
theorem dX8_isAhead_47 : decode cX8_isAhead 47 = .ok (.iaload, 1) := by decide +kernel
theorem dX8_isAhead_48 : decode cX8_isAhead 48 = .ok (.if_icmp .gt 23, 3) := by decide +kernel
theorem dX8_isAhead_51 : decode cX8_isAhead 51 = .ok (.aload_n 0, 1) := by decide +kernel
theorem dX8_isAhead_52 : decode cX8_isAhead 52 = .ok (.getfield 56, 3) := by decide +kernel
theorem dX8_isAhead_55 : decode cX8_isAhead 55 = .ok (.iload_n 1, 1) := by decide +kernel
theorem dX8_isAhead_56 : decode cX8_isAhead 56 = .ok (.iaload, 1) := by decide +kernel
theorem dX8_isAhead_57 : decode cX8_isAhead 57 = .ok (.aload_n 0, 1) := by decide +kernel
theorem dX8_isAhead_58 : decode cX8_isAhead 58 = .ok (.getfield 56, 3) := by decide +kernel
theorem dX8_isAhead_61 : decode cX8_isAhead 61 = .ok (.iload_n 2, 1) := by decide +kernel
theorem dX8_isAhead_62 : decode cX8_isAhead 62 = .ok (.iaload, 1) := by decide +kernel
theorem dX8_isAhead_63 : decode cX8_isAhead 63 = .ok (.if_icmp .ne 12, 3) := by decide +kernel
theorem dX8_isAhead_66 : decode cX8_isAhead 66 = .ok (.iload_n 1, 1) := by decide +kernel
theorem dX8_isAhead_67 : decode cX8_isAhead 67 = .ok (.iload_n 2, 1) := by decide +kernel
theorem dX8_isAhead_68 : decode cX8_isAhead 68 = .ok (.if_icmp .ge 7, 3) := by decide +kernel
theorem dX8_isAhead_71 : decode cX8_isAhead 71 = .ok (.iconst 1, 1) := by decide +kernel
theorem dX8_isAhead_72 : decode cX8_isAhead 72 = .ok (.goto 4, 3) := by decide +kernel
theorem dX8_isAhead_75 : decode cX8_isAhead 75 = .ok (.iconst 0, 1) := by decide +kernel
theorem dX8_isAhead_76 : decode cX8_isAhead 76 = .ok (.ireturn, 1) := by decide +kernel
set_option maxRecDepth 20000 in
theorem ggX8_due_X8_fails : GoodIn wsX8_due wsX8_fails := goodIn_r _ [6, 7, 19, 20, 21, 22, 23, 24, 25, 26, 27, 28, 29, 30, 31, 32, 33, 34, 35, 36, 37, 38, 39, 40, 41, 42, 43] (by decide +kernel) (by decide +kernel)
set_option maxRecDepth 20000 in
theorem gX8_due_X8_fails : GoodIn wsX8_due (wsV RX8 85 RX8 yX8_fails wsX8_fails) := goodIn_app (goodIn_of _ (by decide +kernel)) ggX8_due_X8_fails
set_option maxRecDepth 20000 in
theorem ggX8_due_X8_isDue : GoodIn wsX8_due wsX8_isDue := goodIn_r _ [11, 12, 19, 20, 21, 22, 23, 24, 25, 26, 27, 28, 29, 30, 31, 32, 33, 34, 35, 36, 37, 38, 39, 40, 41, 42, 43] (by decide +kernel) (by decide +kernel)
set_option maxRecDepth 20000 in
theorem gX8_due_X8_isDue : GoodIn wsX8_due (wsV RX8 156 RX8 yX8_isDue wsX8_isDue) := goodIn_app (goodIn_of _ (by decide +kernel)) ggX8_due_X8_isDue
set_option maxRecDepth 20000 in
theorem ggX8_due_X8_isAhead : GoodIn wsX8_due wsX8_isAhead := goodIn_r _ [16, 17, 18, 19, 20, 21, 22, 23, 24, 25, 26, 27, 28, 29, 30, 31, 32, 33, 34, 35, 36, 37, 38, 39, 40, 41, 42, 43] (by decide +kernel) (by decide +kernel)
set_option maxRecDepth 20000 in
theorem gX8_due_X8_isAhead : GoodIn wsX8_due (wsV RX8 162 RX8 yX8_isAhead wsX8_isAhead) := goodIn_app (goodIn_of _ (by decide +kernel)) ggX8_due_X8_isAhead
theorem dX8_due_0 : decode cX8_due 0 = .ok (.aload_n 0, 1) := by decide +kernel
theorem dX8_due_1 : decode cX8_due 1 = .ok (.iload_n 1, 1) := by decide +kernel
theorem dX8_due_2 : decode cX8_due 2 = .ok (.ifCond .ge 7, 3) := by decide +kernel
theorem dX8_due_5 : decode cX8_due 5 = .ok (.iconst 1, 1) := by decide +kernel
theorem dX8_due_6 : decode cX8_due 6 = .ok (.goto 4, 3) := by decide +kernel
theorem dX8_due_9 : decode cX8_due 9 = .ok (.iconst 0, 1) := by decide +kernel
theorem dX8_due_10 : decode cX8_due 10 = .ok (.invokevirtual 85, 3) := by decide +kernel
theorem dX8_due_13 : decode cX8_due 13 = .ok (.ifCond .eq 5, 3) := by decide +kernel
theorem dX8_due_16 : decode cX8_due 16 = .ok (.iconst 0, 1) := by decide +kernel
theorem dX8_due_17 : decode cX8_due 17 = .ok (.ireturn, 1) := by decide +kernel
theorem dX8_due_18 : decode cX8_due 18 = .ok (.iconst (-1), 1) := by decide +kernel
theorem dX8_due_19 : decode cX8_due 19 = .ok (.istore_n 2, 1) := by decide +kernel
theorem dX8_due_20 : decode cX8_due 20 = .ok (.iconst 0, 1) := by decide +kernel
theorem dX8_due_21 : decode cX8_due 21 = .ok (.istore_n 3, 1) := by decide +kernel
theorem dX8_due_22 : decode cX8_due 22 = .ok (.iload_n 3, 1) := by decide +kernel
theorem dX8_due_23 : decode cX8_due 23 = .ok (.aload_n 0, 1) := by decide +kernel
theorem dX8_due_24 : decode cX8_due 24 = .ok (.getfield 136, 3) := by decide +kernel
theorem dX8_due_27 : decode cX8_due 27 = .ok (.if_icmp .ge 85, 3) := by decide +kernel
theorem dX8_due_30 : decode cX8_due 30 = .ok (.iconst 0, 1) := by decide +kernel
theorem dX8_due_31 : decode cX8_due 31 = .ok (.istore 4, 2) := by decide +kernel
theorem dX8_due_33 : decode cX8_due 33 = .ok (.iconst 0, 1) := by decide +kernel
theorem dX8_due_34 : decode cX8_due 34 = .ok (.istore 5, 2) := by decide +kernel
theorem dX8_due_36 : decode cX8_due 36 = .ok (.iload 5, 2) := by decide +kernel
theorem dX8_due_38 : decode cX8_due 38 = .ok (.aload_n 0, 1) := by decide +kernel
theorem dX8_due_39 : decode cX8_due 39 = .ok (.getfield 136, 3) := by decide +kernel
theorem dX8_due_42 : decode cX8_due 42 = .ok (.if_icmp .ge 44, 3) := by decide +kernel
theorem dX8_due_45 : decode cX8_due 45 = .ok (.iload 4, 2) := by decide +kernel
theorem dX8_due_47 : decode cX8_due 47 = .ok (.iload 5, 2) := by decide +kernel
theorem dX8_due_49 : decode cX8_due 49 = .ok (.iload_n 3, 1) := by decide +kernel
theorem dX8_due_50 : decode cX8_due 50 = .ok (.if_icmp .eq 26, 3) := by decide +kernel
theorem dX8_due_53 : decode cX8_due 53 = .ok (.aload_n 0, 1) := by decide +kernel
theorem dX8_due_54 : decode cX8_due 54 = .ok (.iload 5, 2) := by decide +kernel
theorem dX8_due_56 : decode cX8_due 56 = .ok (.invokevirtual 156, 3) := by decide +kernel
theorem dX8_due_59 : decode cX8_due 59 = .ok (.ifCond .eq 17, 3) := by decide +kernel
theorem dX8_due_62 : decode cX8_due 62 = .ok (.aload_n 0, 1) := by decide +kernel
theorem dX8_due_63 : decode cX8_due 63 = .ok (.iload 5, 2) := by decide +kernel
theorem dX8_due_65 : decode cX8_due 65 = .ok (.iload_n 3, 1) := by decide +kernel
theorem dX8_due_66 : decode cX8_due 66 = .ok (.invokevirtual 162, 3) := by decide +kernel
theorem dX8_due_69 : decode cX8_due 69 = .ok (.ifCond .eq 7, 3) := by decide +kernel
theorem dX8_due_72 : decode cX8_due 72 = .ok (.iconst 1, 1) := by decide +kernel
theorem dX8_due_73 : decode cX8_due 73 = .ok (.goto 4, 3) := by decide +kernel
theorem dX8_due_76 : decode cX8_due 76 = .ok (.iconst 0, 1) := by decide +kernel
theorem dX8_due_77 : decode cX8_due 77 = .ok (.iadd, 1) := by decide +kernel
theorem dX8_due_78 : decode cX8_due 78 = .ok (.istore 4, 2) := by decide +kernel
theorem dX8_due_80 : decode cX8_due 80 = .ok (.iinc 5 1, 3) := by decide +kernel
theorem dX8_due_83 : decode cX8_due 83 = .ok (.goto (-47), 3) := by decide +kernel
theorem dX8_due_86 : decode cX8_due 86 = .ok (.aload_n 0, 1) := by decide +kernel
theorem dX8_due_87 : decode cX8_due 87 = .ok (.iload_n 3, 1) := by decide +kernel
theorem dX8_due_88 : decode cX8_due 88 = .ok (.invokevirtual 156, 3) := by decide +kernel
theorem dX8_due_91 : decode cX8_due 91 = .ok (.ifCond .eq 13, 3) := by decide +kernel
theorem dX8_due_94 : decode cX8_due 94 = .ok (.iload 4, 2) := by decide +kernel
theorem dX8_due_96 : decode cX8_due 96 = .ok (.iload_n 1, 1) := by decide +kernel
theorem dX8_due_97 : decode cX8_due 97 = .ok (.if_icmp .ne 7, 3) := by decide +kernel
theorem dX8_due_100 : decode cX8_due 100 = .ok (.iload_n 3, 1) := by decide +kernel
theorem dX8_due_101 : decode cX8_due 101 = .ok (.goto 4, 3) := by decide +kernel
theorem dX8_due_104 : decode cX8_due 104 = .ok (.iload_n 2, 1) := by decide +kernel
theorem dX8_due_105 : decode cX8_due 105 = .ok (.istore_n 2, 1) := by decide +kernel
theorem dX8_due_106 : decode cX8_due 106 = .ok (.iinc 3 1, 3) := by decide +kernel
theorem dX8_due_109 : decode cX8_due 109 = .ok (.goto (-87), 3) := by decide +kernel
theorem dX8_due_112 : decode cX8_due 112 = .ok (.iload_n 2, 1) := by decide +kernel
theorem dX8_due_113 : decode cX8_due 113 = .ok (.ireturn, 1) := by decide +kernel
set_option maxRecDepth 20000 in
theorem ggX8_count_X8_isIn : GoodIn wsX8_count wsX8_isIn := goodIn_r _ [9] (by decide +kernel) (by decide +kernel)
set_option maxRecDepth 20000 in
theorem gX8_count_X8_isIn : GoodIn wsX8_count (va_wsS RX8 74 yX8_isIn wsX8_isIn) := goodIn_app (goodIn_of _ (by decide +kernel)) ggX8_count_X8_isIn
set_option maxRecDepth 20000 in
theorem ggX8_count_X8_fails : GoodIn wsX8_count wsX8_fails := goodIn_r _ [13, 14, 15, 16, 17, 18, 19, 20, 21, 22, 23, 24, 25, 26, 27, 28, 29, 30, 31, 32, 33, 34, 35, 36, 37, 38, 39] (by decide +kernel) (by decide +kernel)
set_option maxRecDepth 20000 in
theorem gX8_count_X8_fails : GoodIn wsX8_count (wsV RX8 85 RX8 yX8_fails wsX8_fails) := goodIn_app (goodIn_of _ (by decide +kernel)) ggX8_count_X8_fails
theorem dX8_count_0 : decode cX8_count 0 = .ok (.aload_n 0, 1) := by decide +kernel
theorem dX8_count_1 : decode cX8_count 1 = .ok (.iload_n 1, 1) := by decide +kernel
theorem dX8_count_2 : decode cX8_count 2 = .ok (.iconst 0, 1) := by decide +kernel
theorem dX8_count_3 : decode cX8_count 3 = .ok (.iconst 4, 1) := by decide +kernel
theorem dX8_count_4 : decode cX8_count 4 = .ok (.invokestatic 74, 3) := by decide +kernel
theorem dX8_count_7 : decode cX8_count 7 = .ok (.ifCond .eq 7, 3) := by decide +kernel
theorem dX8_count_10 : decode cX8_count 10 = .ok (.iconst 0, 1) := by decide +kernel
theorem dX8_count_11 : decode cX8_count 11 = .ok (.goto 4, 3) := by decide +kernel
theorem dX8_count_14 : decode cX8_count 14 = .ok (.iconst 1, 1) := by decide +kernel
theorem dX8_count_15 : decode cX8_count 15 = .ok (.invokevirtual 85, 3) := by decide +kernel
theorem dX8_count_18 : decode cX8_count 18 = .ok (.ifCond .eq 5, 3) := by decide +kernel
theorem dX8_count_21 : decode cX8_count 21 = .ok (.iconst 0, 1) := by decide +kernel
theorem dX8_count_22 : decode cX8_count 22 = .ok (.ireturn, 1) := by decide +kernel
theorem dX8_count_23 : decode cX8_count 23 = .ok (.iload_n 1, 1) := by decide +kernel
theorem dX8_count_24 : decode cX8_count 24 = .ok (.ifCond .ne 10, 3) := by decide +kernel
theorem dX8_count_27 : decode cX8_count 27 = .ok (.aload_n 0, 1) := by decide +kernel
theorem dX8_count_28 : decode cX8_count 28 = .ok (.getfield 107, 3) := by decide +kernel
theorem dX8_count_31 : decode cX8_count 31 = .ok (.goto 43, 3) := by decide +kernel
theorem dX8_count_34 : decode cX8_count 34 = .ok (.iload_n 1, 1) := by decide +kernel
theorem dX8_count_35 : decode cX8_count 35 = .ok (.iconst 1, 1) := by decide +kernel
theorem dX8_count_36 : decode cX8_count 36 = .ok (.if_icmp .ne 10, 3) := by decide +kernel
theorem dX8_count_39 : decode cX8_count 39 = .ok (.aload_n 0, 1) := by decide +kernel
theorem dX8_count_40 : decode cX8_count 40 = .ok (.getfield 94, 3) := by decide +kernel
theorem dX8_count_43 : decode cX8_count 43 = .ok (.goto 31, 3) := by decide +kernel
theorem dX8_count_46 : decode cX8_count 46 = .ok (.iload_n 1, 1) := by decide +kernel
theorem dX8_count_47 : decode cX8_count 47 = .ok (.iconst 2, 1) := by decide +kernel
theorem dX8_count_48 : decode cX8_count 48 = .ok (.if_icmp .ne 10, 3) := by decide +kernel
theorem dX8_count_51 : decode cX8_count 51 = .ok (.aload_n 0, 1) := by decide +kernel
theorem dX8_count_52 : decode cX8_count 52 = .ok (.getfield 136, 3) := by decide +kernel
theorem dX8_count_55 : decode cX8_count 55 = .ok (.goto 19, 3) := by decide +kernel
theorem dX8_count_58 : decode cX8_count 58 = .ok (.iload_n 1, 1) := by decide +kernel
theorem dX8_count_59 : decode cX8_count 59 = .ok (.iconst 3, 1) := by decide +kernel
theorem dX8_count_60 : decode cX8_count 60 = .ok (.if_icmp .ne 10, 3) := by decide +kernel
theorem dX8_count_63 : decode cX8_count 63 = .ok (.aload_n 0, 1) := by decide +kernel
theorem dX8_count_64 : decode cX8_count 64 = .ok (.getfield 123, 3) := by decide +kernel
theorem dX8_count_67 : decode cX8_count 67 = .ok (.goto 7, 3) := by decide +kernel
theorem dX8_count_70 : decode cX8_count 70 = .ok (.aload_n 0, 1) := by decide +kernel
theorem dX8_count_71 : decode cX8_count 71 = .ok (.getfield 114, 3) := by decide +kernel
theorem dX8_count_74 : decode cX8_count 74 = .ok (.ireturn, 1) := by decide +kernel
theorem dJ9_max_7cf53_0 : decode cJ9_max_7cf53 0 = .ok (.iload_n 0, 1) := by decide +kernel
theorem dJ9_max_7cf53_1 : decode cJ9_max_7cf53 1 = .ok (.iload_n 1, 1) := by decide +kernel
theorem dJ9_max_7cf53_2 : decode cJ9_max_7cf53 2 = .ok (.if_icmp .lt 7, 3) := by decide +kernel
theorem dJ9_max_7cf53_5 : decode cJ9_max_7cf53 5 = .ok (.iload_n 0, 1) := by decide +kernel
theorem dJ9_max_7cf53_6 : decode cJ9_max_7cf53 6 = .ok (.goto 4, 3) := by decide +kernel
theorem dJ9_max_7cf53_9 : decode cJ9_max_7cf53 9 = .ok (.iload_n 1, 1) := by decide +kernel
theorem dJ9_max_7cf53_10 : decode cJ9_max_7cf53 10 = .ok (.ireturn, 1) := by decide +kernel
theorem dJ9_min_7cf53_0 : decode cJ9_min_7cf53 0 = .ok (.iload_n 0, 1) := by decide +kernel
theorem dJ9_min_7cf53_1 : decode cJ9_min_7cf53 1 = .ok (.iload_n 1, 1) := by decide +kernel
theorem dJ9_min_7cf53_2 : decode cJ9_min_7cf53 2 = .ok (.if_icmp .gt 7, 3) := by decide +kernel
theorem dJ9_min_7cf53_5 : decode cJ9_min_7cf53 5 = .ok (.iload_n 0, 1) := by decide +kernel
theorem dJ9_min_7cf53_6 : decode cJ9_min_7cf53 6 = .ok (.goto 4, 3) := by decide +kernel
theorem dJ9_min_7cf53_9 : decode cJ9_min_7cf53 9 = .ok (.iload_n 1, 1) := by decide +kernel
theorem dJ9_min_7cf53_10 : decode cJ9_min_7cf53 10 = .ok (.ireturn, 1) := by decide +kernel
theorem dJxa1e45_init_da8c8_0 : decode cJxa1e45_init_da8c8 0 = .ok (.aload_n 0, 1) := by decide +kernel
theorem dJxa1e45_init_da8c8_1 : decode cJxa1e45_init_da8c8 1 = .ok (.invokespecial 1, 3) := by decide +kernel
theorem dJxa1e45_init_da8c8_4 : decode cJxa1e45_init_da8c8 4 = .ok (.return_, 1) := by decide +kernel
set_option maxRecDepth 20000 in
theorem ggJxc12de_init_da8c8_Jxa1e45_init_da8c8 : GoodIn wsJxc12de_init_da8c8 wsJxa1e45_init_da8c8 := goodIn_r _ [5, 6, 7, 8] (by decide +kernel) (by decide +kernel)
set_option maxRecDepth 20000 in
theorem gJxc12de_init_da8c8_Jxa1e45_init_da8c8 : GoodIn wsJxc12de_init_da8c8 (wsJxa1e45_init_da8c8) := ggJxc12de_init_da8c8_Jxa1e45_init_da8c8
theorem dJxc12de_init_da8c8_0 : decode cJxc12de_init_da8c8 0 = .ok (.aload_n 0, 1) := by decide +kernel
theorem dJxc12de_init_da8c8_1 : decode cJxc12de_init_da8c8 1 = .ok (.invokespecial 1, 3) := by decide +kernel
theorem dJxc12de_init_da8c8_4 : decode cJxc12de_init_da8c8 4 = .ok (.aload_n 0, 1) := by decide +kernel
theorem dJxc12de_init_da8c8_5 : decode cJxc12de_init_da8c8 5 = .ok (.iconst 0, 1) := by decide +kernel
theorem dJxc12de_init_da8c8_6 : decode cJxc12de_init_da8c8 6 = .ok (.putfield 7, 3) := by decide +kernel
theorem dJxc12de_init_da8c8_9 : decode cJxc12de_init_da8c8 9 = .ok (.return_, 1) := by decide +kernel
set_option maxRecDepth 20000 in
theorem ggJx4a65c_init_da8c8_Jxc12de_init_da8c8 : GoodIn wsJx4a65c_init_da8c8 wsJxc12de_init_da8c8 := goodIn_r _ [6, 7, 8, 9, 10, 11, 12, 13, 14, 15, 16, 17] (by decide +kernel) (by decide +kernel)
set_option maxRecDepth 20000 in
theorem gJx4a65c_init_da8c8_Jxc12de_init_da8c8 : GoodIn wsJx4a65c_init_da8c8 (wsJxc12de_init_da8c8) := ggJx4a65c_init_da8c8_Jxc12de_init_da8c8
theorem dJx4a65c_init_da8c8_0 : decode cJx4a65c_init_da8c8 0 = .ok (.aload_n 0, 1) := by decide +kernel
theorem dJx4a65c_init_da8c8_1 : decode cJx4a65c_init_da8c8 1 = .ok (.invokespecial 1, 3) := by decide +kernel
theorem dJx4a65c_init_da8c8_4 : decode cJx4a65c_init_da8c8 4 = .ok (.aload_n 0, 1) := by decide +kernel
theorem dJx4a65c_init_da8c8_5 : decode cJx4a65c_init_da8c8 5 = .ok (.getstatic 39, 3) := by decide +kernel
theorem dJx4a65c_init_da8c8_8 : decode cJx4a65c_init_da8c8 8 = .ok (.putfield 9, 3) := by decide +kernel
theorem dJx4a65c_init_da8c8_11 : decode cJx4a65c_init_da8c8 11 = .ok (.return_, 1) := by decide +kernel
set_option maxRecDepth 20000 in
theorem ggJx4a65c_grow_92f84_J8_newLength_cabcc : GoodIn wsJx4a65c_grow_92f84 wsJ8_newLength_cabcc := goodIn_r _ [11, 12, 4, 5, 6, 13, 14, 15, 10, 16] (by decide +kernel) (by decide +kernel)
set_option maxRecDepth 20000 in
theorem gJx4a65c_grow_92f84_J8_newLength_cabcc : GoodIn wsJx4a65c_grow_92f84 (va_wsS RJx4a65c 73 yJ8_newLength_cabcc wsJ8_newLength_cabcc) := goodIn_app (goodIn_of _ (by decide +kernel)) ggJx4a65c_grow_92f84_J8_newLength_cabcc
set_option maxRecDepth 20000 in
theorem ggJx4a65c_grow_92f84_J7_copyOf_1904c : GoodIn wsJx4a65c_grow_92f84 wsJ7_copyOf_1904c := goodIn_r _ [20, 21, 22, 23, 24, 25, 26, 19, 27, 28, 29, 30, 31, 5, 32, 33, 34, 35, 36] (by decide +kernel) (by decide +kernel)
set_option maxRecDepth 20000 in
theorem gJx4a65c_grow_92f84_J7_copyOf_1904c : GoodIn wsJx4a65c_grow_92f84 (va_wsS RJx4a65c 66 yJ7_copyOf_1904c wsJ7_copyOf_1904c) := goodIn_app (goodIn_of _ (by decide +kernel)) ggJx4a65c_grow_92f84_J7_copyOf_1904c
theorem dJx4a65c_grow_92f84_0 : decode cJx4a65c_grow_92f84 0 = .ok (.aload_n 0, 1) := by decide +kernel
theorem dJx4a65c_grow_92f84_1 : decode cJx4a65c_grow_92f84 1 = .ok (.getfield 9, 3) := by decide +kernel
theorem dJx4a65c_grow_92f84_4 : decode cJx4a65c_grow_92f84 4 = .ok (.arraylength, 1) := by decide +kernel
theorem dJx4a65c_grow_92f84_5 : decode cJx4a65c_grow_92f84 5 = .ok (.istore_n 2, 1) := by decide +kernel
theorem dJx4a65c_grow_92f84_6 : decode cJx4a65c_grow_92f84 6 = .ok (.iload_n 2, 1) := by decide +kernel
theorem dJx4a65c_grow_92f84_7 : decode cJx4a65c_grow_92f84 7 = .ok (.ifCond .gt 13, 3) := by decide +kernel
theorem dJx4a65c_grow_92f84_10 : decode cJx4a65c_grow_92f84 10 = .ok (.aload_n 0, 1) := by decide +kernel
theorem dJx4a65c_grow_92f84_11 : decode cJx4a65c_grow_92f84 11 = .ok (.getfield 9, 3) := by decide +kernel
theorem dJx4a65c_grow_92f84_14 : decode cJx4a65c_grow_92f84 14 = .ok (.getstatic 39, 3) := by decide +kernel
theorem dJx4a65c_grow_92f84_17 : decode cJx4a65c_grow_92f84 17 = .ok (.if_acmp .eq 28, 3) := by decide +kernel
theorem dJx4a65c_grow_92f84_20 : decode cJx4a65c_grow_92f84 20 = .ok (.iload_n 2, 1) := by decide +kernel
theorem dJx4a65c_grow_92f84_21 : decode cJx4a65c_grow_92f84 21 = .ok (.iload_n 1, 1) := by decide +kernel
theorem dJx4a65c_grow_92f84_22 : decode cJx4a65c_grow_92f84 22 = .ok (.iload_n 2, 1) := by decide +kernel
theorem dJx4a65c_grow_92f84_23 : decode cJx4a65c_grow_92f84 23 = .ok (.isub, 1) := by decide +kernel
theorem dJx4a65c_grow_92f84_24 : decode cJx4a65c_grow_92f84 24 = .ok (.iload_n 2, 1) := by decide +kernel
theorem dJx4a65c_grow_92f84_25 : decode cJx4a65c_grow_92f84 25 = .ok (.iconst 1, 1) := by decide +kernel
theorem dJx4a65c_grow_92f84_26 : decode cJx4a65c_grow_92f84 26 = .ok (.ishr, 1) := by decide +kernel
theorem dJx4a65c_grow_92f84_27 : decode cJx4a65c_grow_92f84 27 = .ok (.invokestatic 73, 3) := by decide +kernel
theorem dJx4a65c_grow_92f84_30 : decode cJx4a65c_grow_92f84 30 = .ok (.istore_n 3, 1) := by decide +kernel
theorem dJx4a65c_grow_92f84_31 : decode cJx4a65c_grow_92f84 31 = .ok (.aload_n 0, 1) := by decide +kernel
theorem dJx4a65c_grow_92f84_32 : decode cJx4a65c_grow_92f84 32 = .ok (.aload_n 0, 1) := by decide +kernel
theorem dJx4a65c_grow_92f84_33 : decode cJx4a65c_grow_92f84 33 = .ok (.getfield 9, 3) := by decide +kernel
theorem dJx4a65c_grow_92f84_36 : decode cJx4a65c_grow_92f84 36 = .ok (.iload_n 3, 1) := by decide +kernel
theorem dJx4a65c_grow_92f84_37 : decode cJx4a65c_grow_92f84 37 = .ok (.invokestatic 66, 3) := by decide +kernel
theorem dJx4a65c_grow_92f84_40 : decode cJx4a65c_grow_92f84 40 = .ok (.dup_x1, 1) := by decide +kernel
theorem dJx4a65c_grow_92f84_41 : decode cJx4a65c_grow_92f84 41 = .ok (.putfield 9, 3) := by decide +kernel
theorem dJx4a65c_grow_92f84_44 : decode cJx4a65c_grow_92f84 44 = .ok (.areturn, 1) := by decide +kernel
theorem dJx4a65c_grow_92f84_45 : decode cJx4a65c_grow_92f84 45 = .ok (.aload_n 0, 1) := by decide +kernel
theorem dJx4a65c_grow_92f84_46 : decode cJx4a65c_grow_92f84 46 = .ok (.bipush 10, 2) := by decide +kernel
theorem dJx4a65c_grow_92f84_48 : decode cJx4a65c_grow_92f84 48 = .ok (.iload_n 1, 1) := by decide +kernel
theorem dJx4a65c_grow_92f84_49 : decode cJx4a65c_grow_92f84 49 = .ok (.invokestatic 79, 3) := by decide +kernel
theorem dJx4a65c_grow_92f84_52 : decode cJx4a65c_grow_92f84 52 = .ok (.anewarray 7, 3) := by decide +kernel
theorem dJx4a65c_grow_92f84_55 : decode cJx4a65c_grow_92f84 55 = .ok (.dup_x1, 1) := by decide +kernel
theorem dJx4a65c_grow_92f84_56 : decode cJx4a65c_grow_92f84 56 = .ok (.putfield 9, 3) := by decide +kernel
theorem dJx4a65c_grow_92f84_59 : decode cJx4a65c_grow_92f84 59 = .ok (.areturn, 1) := by decide +kernel
set_option maxRecDepth 20000 in
theorem ggJx4a65c_grow_d5877_Jx4a65c_grow_92f84 : GoodIn wsJx4a65c_grow_d5877 wsJx4a65c_grow_92f84 := goodIn_r _ [6, 7, 8, 9, 10, 11, 12, 13, 14, 15, 16, 17, 18, 19, 20, 21, 22, 23, 24, 25, 26, 27, 28, 29, 30, 31, 32, 33, 34, 35, 36, 37, 38, 39, 40, 41, 42, 43, 44, 45] (by decide +kernel) (by decide +kernel)
set_option maxRecDepth 20000 in
theorem gJx4a65c_grow_d5877_Jx4a65c_grow_92f84 : GoodIn wsJx4a65c_grow_d5877 (wsV RJx4a65c 69 RJx4a65c yJx4a65c_grow_92f84 wsJx4a65c_grow_92f84) := goodIn_app (goodIn_of _ (by decide +kernel)) ggJx4a65c_grow_d5877_Jx4a65c_grow_92f84
theorem dJx4a65c_grow_d5877_0 : decode cJx4a65c_grow_d5877 0 = .ok (.aload_n 0, 1) := by decide +kernel
theorem dJx4a65c_grow_d5877_1 : decode cJx4a65c_grow_d5877 1 = .ok (.aload_n 0, 1) := by decide +kernel
theorem dJx4a65c_grow_d5877_2 : decode cJx4a65c_grow_d5877 2 = .ok (.getfield 48, 3) := by decide +kernel
theorem dJx4a65c_grow_d5877_5 : decode cJx4a65c_grow_d5877 5 = .ok (.iconst 1, 1) := by decide +kernel
theorem dJx4a65c_grow_d5877_6 : decode cJx4a65c_grow_d5877 6 = .ok (.iadd, 1) := by decide +kernel
theorem dJx4a65c_grow_d5877_7 : decode cJx4a65c_grow_d5877 7 = .ok (.invokevirtual 69, 3) := by decide +kernel
theorem dJx4a65c_grow_d5877_10 : decode cJx4a65c_grow_d5877 10 = .ok (.areturn, 1) := by decide +kernel
theorem dJx4a65c_size_8abf5_0 : decode cJx4a65c_size_8abf5 0 = .ok (.aload_n 0, 1) := by decide +kernel
theorem dJx4a65c_size_8abf5_1 : decode cJx4a65c_size_8abf5 1 = .ok (.getfield 48, 3) := by decide +kernel
theorem dJx4a65c_size_8abf5_4 : decode cJx4a65c_size_8abf5 4 = .ok (.ireturn, 1) := by decide +kernel
theorem dJx4a65c_elementData_915e3_0 : decode cJx4a65c_elementData_915e3 0 = .ok (.aload_n 0, 1) := by decide +kernel
theorem dJx4a65c_elementData_915e3_1 : decode cJx4a65c_elementData_915e3 1 = .ok (.getfield 9, 3) := by decide +kernel
theorem dJx4a65c_elementData_915e3_4 : decode cJx4a65c_elementData_915e3 4 = .ok (.iload_n 1, 1) := by decide +kernel
theorem dJx4a65c_elementData_915e3_5 : decode cJx4a65c_elementData_915e3 5 = .ok (.aaload, 1) := by decide +kernel
theorem dJx4a65c_elementData_915e3_6 : decode cJx4a65c_elementData_915e3 6 = .ok (.areturn, 1) := by decide +kernel
set_option maxRecDepth 20000 in
theorem ggJx4a65c_get_915e3_J15_checkIndex_7cf53 : GoodIn wsJx4a65c_get_915e3 wsJ15_checkIndex_7cf53 := goodIn_r _ [5, 6, 7, 8, 9] (by decide +kernel) (by decide +kernel)
set_option maxRecDepth 20000 in
theorem gJx4a65c_get_915e3_J15_checkIndex_7cf53 : GoodIn wsJx4a65c_get_915e3 (va_wsS RJx4a65c 118 yJ15_checkIndex_7cf53 wsJ15_checkIndex_7cf53) := goodIn_app (goodIn_of _ (by decide +kernel)) ggJx4a65c_get_915e3_J15_checkIndex_7cf53
set_option maxRecDepth 20000 in
theorem ggJx4a65c_get_915e3_Jx4a65c_elementData_915e3 : GoodIn wsJx4a65c_get_915e3 wsJx4a65c_elementData_915e3 := goodIn_r _ [14, 15, 16, 17, 18] (by decide +kernel) (by decide +kernel)
set_option maxRecDepth 20000 in
theorem gJx4a65c_get_915e3_Jx4a65c_elementData_915e3 : GoodIn wsJx4a65c_get_915e3 (wsV RJx4a65c 123 RJx4a65c yJx4a65c_elementData_915e3 wsJx4a65c_elementData_915e3) := goodIn_app (goodIn_of _ (by decide +kernel)) ggJx4a65c_get_915e3_Jx4a65c_elementData_915e3
theorem dJx4a65c_get_915e3_0 : decode cJx4a65c_get_915e3 0 = .ok (.iload_n 1, 1) := by decide +kernel
theorem dJx4a65c_get_915e3_1 : decode cJx4a65c_get_915e3 1 = .ok (.aload_n 0, 1) := by decide +kernel
theorem dJx4a65c_get_915e3_2 : decode cJx4a65c_get_915e3 2 = .ok (.getfield 48, 3) := by decide +kernel
theorem dJx4a65c_get_915e3_5 : decode cJx4a65c_get_915e3 5 = .ok (.invokestatic 118, 3) := by decide +kernel
theorem dJx4a65c_get_915e3_8 : decode cJx4a65c_get_915e3 8 = .ok (.pop, 1) := by decide +kernel
theorem dJx4a65c_get_915e3_9 : decode cJx4a65c_get_915e3 9 = .ok (.aload_n 0, 1) := by decide +kernel
theorem dJx4a65c_get_915e3_10 : decode cJx4a65c_get_915e3 10 = .ok (.iload_n 1, 1) := by decide +kernel
theorem dJx4a65c_get_915e3_11 : decode cJx4a65c_get_915e3 11 = .ok (.invokevirtual 123, 3) := by decide +kernel
theorem dJx4a65c_get_915e3_14 : decode cJx4a65c_get_915e3 14 = .ok (.areturn, 1) := by decide +kernel
set_option maxRecDepth 20000 in
theorem ggJx4a65c_add_72be8_Jx4a65c_grow_d5877 : GoodIn wsJx4a65c_add_72be8 wsJx4a65c_grow_d5877 := goodIn_r _ [6, 1, 7, 8, 9, 5, 10, 11, 12, 13, 14, 15, 16, 17, 18, 19, 20, 21, 22, 23, 24, 25, 26, 27, 28, 29, 30, 31, 32, 33, 34, 35, 36, 37, 38, 39, 40, 41, 42, 43, 44, 45, 46, 47, 48, 49] (by decide +kernel) (by decide +kernel)
set_option maxRecDepth 20000 in
theorem gJx4a65c_add_72be8_Jx4a65c_grow_d5877 : GoodIn wsJx4a65c_add_72be8 (wsV RJx4a65c 129 RJx4a65c yJx4a65c_grow_d5877 wsJx4a65c_grow_d5877) := goodIn_app (goodIn_of _ (by decide +kernel)) ggJx4a65c_add_72be8_Jx4a65c_grow_d5877
theorem dJx4a65c_add_72be8_0 : decode cJx4a65c_add_72be8 0 = .ok (.iload_n 3, 1) := by decide +kernel
theorem dJx4a65c_add_72be8_1 : decode cJx4a65c_add_72be8 1 = .ok (.aload_n 2, 1) := by decide +kernel
theorem dJx4a65c_add_72be8_2 : decode cJx4a65c_add_72be8 2 = .ok (.arraylength, 1) := by decide +kernel
theorem dJx4a65c_add_72be8_3 : decode cJx4a65c_add_72be8 3 = .ok (.if_icmp .ne 8, 3) := by decide +kernel
theorem dJx4a65c_add_72be8_6 : decode cJx4a65c_add_72be8 6 = .ok (.aload_n 0, 1) := by decide +kernel
theorem dJx4a65c_add_72be8_7 : decode cJx4a65c_add_72be8 7 = .ok (.invokevirtual 129, 3) := by decide +kernel
theorem dJx4a65c_add_72be8_10 : decode cJx4a65c_add_72be8 10 = .ok (.astore_n 2, 1) := by decide +kernel
theorem dJx4a65c_add_72be8_11 : decode cJx4a65c_add_72be8 11 = .ok (.aload_n 2, 1) := by decide +kernel
theorem dJx4a65c_add_72be8_12 : decode cJx4a65c_add_72be8 12 = .ok (.iload_n 3, 1) := by decide +kernel
theorem dJx4a65c_add_72be8_13 : decode cJx4a65c_add_72be8 13 = .ok (.aload_n 1, 1) := by decide +kernel
theorem dJx4a65c_add_72be8_14 : decode cJx4a65c_add_72be8 14 = .ok (.aastore, 1) := by decide +kernel
theorem dJx4a65c_add_72be8_15 : decode cJx4a65c_add_72be8 15 = .ok (.aload_n 0, 1) := by decide +kernel
theorem dJx4a65c_add_72be8_16 : decode cJx4a65c_add_72be8 16 = .ok (.iload_n 3, 1) := by decide +kernel
theorem dJx4a65c_add_72be8_17 : decode cJx4a65c_add_72be8 17 = .ok (.iconst 1, 1) := by decide +kernel
theorem dJx4a65c_add_72be8_18 : decode cJx4a65c_add_72be8 18 = .ok (.iadd, 1) := by decide +kernel
theorem dJx4a65c_add_72be8_19 : decode cJx4a65c_add_72be8 19 = .ok (.putfield 48, 3) := by decide +kernel
theorem dJx4a65c_add_72be8_22 : decode cJx4a65c_add_72be8 22 = .ok (.return_, 1) := by decide +kernel
set_option maxRecDepth 20000 in
theorem ggJx4a65c_add_9ea2d_Jx4a65c_add_72be8 : GoodIn wsJx4a65c_add_9ea2d wsJx4a65c_add_72be8 := goodIn_r _ [9, 4, 10, 11, 12, 8, 13, 14, 15, 16, 17, 3, 18, 19, 20, 21, 22, 23, 24, 25, 26, 27, 28, 29, 30, 31, 32, 33, 34, 35, 36, 37, 38, 39, 40, 41, 42, 43, 44, 45, 46, 47, 48, 49, 50, 51, 52, 53, 54, 55] (by decide +kernel) (by decide +kernel)
set_option maxRecDepth 20000 in
theorem gJx4a65c_add_9ea2d_Jx4a65c_add_72be8 : GoodIn wsJx4a65c_add_9ea2d (wsV RJx4a65c 131 RJx4a65c yJx4a65c_add_72be8 wsJx4a65c_add_72be8) := goodIn_app (goodIn_of _ (by decide +kernel)) ggJx4a65c_add_9ea2d_Jx4a65c_add_72be8
theorem dJx4a65c_add_9ea2d_0 : decode cJx4a65c_add_9ea2d 0 = .ok (.aload_n 0, 1) := by decide +kernel
theorem dJx4a65c_add_9ea2d_1 : decode cJx4a65c_add_9ea2d 1 = .ok (.dup, 1) := by decide +kernel
theorem dJx4a65c_add_9ea2d_2 : decode cJx4a65c_add_9ea2d 2 = .ok (.getfield 63, 3) := by decide +kernel
theorem dJx4a65c_add_9ea2d_5 : decode cJx4a65c_add_9ea2d 5 = .ok (.iconst 1, 1) := by decide +kernel
theorem dJx4a65c_add_9ea2d_6 : decode cJx4a65c_add_9ea2d 6 = .ok (.iadd, 1) := by decide +kernel
theorem dJx4a65c_add_9ea2d_7 : decode cJx4a65c_add_9ea2d 7 = .ok (.putfield 63, 3) := by decide +kernel
theorem dJx4a65c_add_9ea2d_10 : decode cJx4a65c_add_9ea2d 10 = .ok (.aload_n 0, 1) := by decide +kernel
theorem dJx4a65c_add_9ea2d_11 : decode cJx4a65c_add_9ea2d 11 = .ok (.aload_n 1, 1) := by decide +kernel
theorem dJx4a65c_add_9ea2d_12 : decode cJx4a65c_add_9ea2d 12 = .ok (.aload_n 0, 1) := by decide +kernel
theorem dJx4a65c_add_9ea2d_13 : decode cJx4a65c_add_9ea2d 13 = .ok (.getfield 9, 3) := by decide +kernel
theorem dJx4a65c_add_9ea2d_16 : decode cJx4a65c_add_9ea2d 16 = .ok (.aload_n 0, 1) := by decide +kernel
theorem dJx4a65c_add_9ea2d_17 : decode cJx4a65c_add_9ea2d 17 = .ok (.getfield 48, 3) := by decide +kernel
theorem dJx4a65c_add_9ea2d_20 : decode cJx4a65c_add_9ea2d 20 = .ok (.invokevirtual 131, 3) := by decide +kernel
theorem dJx4a65c_add_9ea2d_23 : decode cJx4a65c_add_9ea2d 23 = .ok (.iconst 1, 1) := by decide +kernel
theorem dJx4a65c_add_9ea2d_24 : decode cJx4a65c_add_9ea2d 24 = .ok (.ireturn, 1) := by decide +kernel
set_option maxRecDepth 20000 in
theorem ggJ7_copyOf_1904c_J7_copyOf_6403c : GoodIn wsJ7_copyOf_1904c wsJ7_copyOf_6403c := goodIn_r _ [8, 9, 10, 11, 12, 13, 14, 15, 16, 17, 18] (by decide +kernel) (by decide +kernel)
set_option maxRecDepth 20000 in
theorem gJ7_copyOf_1904c_J7_copyOf_6403c : GoodIn wsJ7_copyOf_1904c (va_wsS RJ7 300 yJ7_copyOf_6403c wsJ7_copyOf_6403c) := goodIn_app (goodIn_of _ (by decide +kernel)) ggJ7_copyOf_1904c_J7_copyOf_6403c
theorem dJ7_copyOf_1904c_0 : decode cJ7_copyOf_1904c 0 = .ok (.aload_n 0, 1) := by decide +kernel
theorem dJ7_copyOf_1904c_1 : decode cJ7_copyOf_1904c 1 = .ok (.iload_n 1, 1) := by decide +kernel
theorem dJ7_copyOf_1904c_2 : decode cJ7_copyOf_1904c 2 = .ok (.aload_n 0, 1) := by decide +kernel
theorem dJ7_copyOf_1904c_3 : decode cJ7_copyOf_1904c 3 = .ok (.invokevirtual 86, 3) := by decide +kernel
theorem dJ7_copyOf_1904c_6 : decode cJ7_copyOf_1904c 6 = .ok (.invokestatic 300, 3) := by decide +kernel
theorem dJ7_copyOf_1904c_9 : decode cJ7_copyOf_1904c 9 = .ok (.areturn, 1) := by decide +kernel
theorem dJ7_copyOf_6403c_0 : decode cJ7_copyOf_6403c 0 = .ok (.aload_n 2, 1) := by decide +kernel
theorem dJ7_copyOf_6403c_1 : decode cJ7_copyOf_6403c 1 = .ok (.ldc 110, 2) := by decide +kernel
theorem dJ7_copyOf_6403c_3 : decode cJ7_copyOf_6403c 3 = .ok (.if_acmp .ne 10, 3) := by decide +kernel
theorem dJ7_copyOf_6403c_6 : decode cJ7_copyOf_6403c 6 = .ok (.iload_n 1, 1) := by decide +kernel
theorem dJ7_copyOf_6403c_7 : decode cJ7_copyOf_6403c 7 = .ok (.anewarray 2, 3) := by decide +kernel
theorem dJ7_copyOf_6403c_10 : decode cJ7_copyOf_6403c 10 = .ok (.goto 14, 3) := by decide +kernel
theorem dJ7_copyOf_6403c_13 : decode cJ7_copyOf_6403c 13 = .ok (.aload_n 2, 1) := by decide +kernel
theorem dJ7_copyOf_6403c_14 : decode cJ7_copyOf_6403c 14 = .ok (.invokevirtual 90, 3) := by decide +kernel
theorem dJ7_copyOf_6403c_17 : decode cJ7_copyOf_6403c 17 = .ok (.iload_n 1, 1) := by decide +kernel
theorem dJ7_copyOf_6403c_18 : decode cJ7_copyOf_6403c 18 = .ok (.invokestatic 95, 3) := by decide +kernel
theorem dJ7_copyOf_6403c_21 : decode cJ7_copyOf_6403c 21 = .ok (.checkcast 110, 3) := by decide +kernel
theorem dJ7_copyOf_6403c_24 : decode cJ7_copyOf_6403c 24 = .ok (.astore_n 3, 1) := by decide +kernel
theorem dJ7_copyOf_6403c_25 : decode cJ7_copyOf_6403c 25 = .ok (.aload_n 0, 1) := by decide +kernel
theorem dJ7_copyOf_6403c_26 : decode cJ7_copyOf_6403c 26 = .ok (.iconst 0, 1) := by decide +kernel
theorem dJ7_copyOf_6403c_27 : decode cJ7_copyOf_6403c 27 = .ok (.aload_n 3, 1) := by decide +kernel
theorem dJ7_copyOf_6403c_28 : decode cJ7_copyOf_6403c 28 = .ok (.iconst 0, 1) := by decide +kernel
theorem dJ7_copyOf_6403c_29 : decode cJ7_copyOf_6403c 29 = .ok (.aload_n 0, 1) := by decide +kernel
theorem dJ7_copyOf_6403c_30 : decode cJ7_copyOf_6403c 30 = .ok (.arraylength, 1) := by decide +kernel
theorem dJ7_copyOf_6403c_31 : decode cJ7_copyOf_6403c 31 = .ok (.iload_n 1, 1) := by decide +kernel
theorem dJ7_copyOf_6403c_32 : decode cJ7_copyOf_6403c 32 = .ok (.invokestatic 304, 3) := by decide +kernel
theorem dJ7_copyOf_6403c_35 : decode cJ7_copyOf_6403c 35 = .ok (.invokestatic 150, 3) := by decide +kernel
theorem dJ7_copyOf_6403c_38 : decode cJ7_copyOf_6403c 38 = .ok (.aload_n 3, 1) := by decide +kernel
theorem dJ7_copyOf_6403c_39 : decode cJ7_copyOf_6403c 39 = .ok (.areturn, 1) := by decide +kernel
set_option maxRecDepth 20000 in
theorem ggJ15_checkIndex_7cf53_J3_checkIndex_8e157 : GoodIn wsJ15_checkIndex_7cf53 wsJ3_checkIndex_8e157 := goodIn_r _ [4] (by decide +kernel) (by decide +kernel)
set_option maxRecDepth 20000 in
theorem gJ15_checkIndex_7cf53_J3_checkIndex_8e157 : GoodIn wsJ15_checkIndex_7cf53 (va_wsS RJ15 105 yJ3_checkIndex_8e157 wsJ3_checkIndex_8e157) := goodIn_app (goodIn_of _ (by decide +kernel)) ggJ15_checkIndex_7cf53_J3_checkIndex_8e157
theorem dJ15_checkIndex_7cf53_0 : decode cJ15_checkIndex_7cf53 0 = .ok (.iload_n 0, 1) := by decide +kernel
theorem dJ15_checkIndex_7cf53_1 : decode cJ15_checkIndex_7cf53 1 = .ok (.iload_n 1, 1) := by decide +kernel
theorem dJ15_checkIndex_7cf53_2 : decode cJ15_checkIndex_7cf53 2 = .ok (.aconst_null, 1) := by decide +kernel
theorem dJ15_checkIndex_7cf53_3 : decode cJ15_checkIndex_7cf53 3 = .ok (.invokestatic 105, 3) := by decide +kernel
theorem dJ15_checkIndex_7cf53_6 : decode cJ15_checkIndex_7cf53 6 = .ok (.ireturn, 1) := by decide +kernel
set_option maxRecDepth 20000 in
theorem ggJ8_newLength_cabcc_J8_hugeLength_7cf53 : GoodIn wsJ8_newLength_cabcc wsJ8_hugeLength_7cf53 := goodIn_r _ [9, 5] (by decide +kernel) (by decide +kernel)
set_option maxRecDepth 20000 in
theorem gJ8_newLength_cabcc_J8_hugeLength_7cf53 : GoodIn wsJ8_newLength_cabcc (va_wsS RJ8 201 yJ8_hugeLength_7cf53 wsJ8_hugeLength_7cf53) := goodIn_app (goodIn_of _ (by decide +kernel)) ggJ8_newLength_cabcc_J8_hugeLength_7cf53
theorem dJ8_newLength_cabcc_0 : decode cJ8_newLength_cabcc 0 = .ok (.iload_n 0, 1) := by decide +kernel
theorem dJ8_newLength_cabcc_1 : decode cJ8_newLength_cabcc 1 = .ok (.iload_n 1, 1) := by decide +kernel
theorem dJ8_newLength_cabcc_2 : decode cJ8_newLength_cabcc 2 = .ok (.iload_n 2, 1) := by decide +kernel
theorem dJ8_newLength_cabcc_3 : decode cJ8_newLength_cabcc 3 = .ok (.invokestatic 194, 3) := by decide +kernel
theorem dJ8_newLength_cabcc_6 : decode cJ8_newLength_cabcc 6 = .ok (.iadd, 1) := by decide +kernel
theorem dJ8_newLength_cabcc_7 : decode cJ8_newLength_cabcc 7 = .ok (.istore_n 3, 1) := by decide +kernel
theorem dJ8_newLength_cabcc_8 : decode cJ8_newLength_cabcc 8 = .ok (.iconst 0, 1) := by decide +kernel
theorem dJ8_newLength_cabcc_9 : decode cJ8_newLength_cabcc 9 = .ok (.iload_n 3, 1) := by decide +kernel
theorem dJ8_newLength_cabcc_10 : decode cJ8_newLength_cabcc 10 = .ok (.if_icmp .ge 11, 3) := by decide +kernel
theorem dJ8_newLength_cabcc_13 : decode cJ8_newLength_cabcc 13 = .ok (.iload_n 3, 1) := by decide +kernel
theorem dJ8_newLength_cabcc_14 : decode cJ8_newLength_cabcc 14 = .ok (.ldc 200, 2) := by decide +kernel
theorem dJ8_newLength_cabcc_16 : decode cJ8_newLength_cabcc 16 = .ok (.if_icmp .gt 5, 3) := by decide +kernel
theorem dJ8_newLength_cabcc_19 : decode cJ8_newLength_cabcc 19 = .ok (.iload_n 3, 1) := by decide +kernel
theorem dJ8_newLength_cabcc_20 : decode cJ8_newLength_cabcc 20 = .ok (.ireturn, 1) := by decide +kernel
theorem dJ8_newLength_cabcc_21 : decode cJ8_newLength_cabcc 21 = .ok (.iload_n 0, 1) := by decide +kernel
theorem dJ8_newLength_cabcc_22 : decode cJ8_newLength_cabcc 22 = .ok (.iload_n 1, 1) := by decide +kernel
theorem dJ8_newLength_cabcc_23 : decode cJ8_newLength_cabcc 23 = .ok (.invokestatic 201, 3) := by decide +kernel
theorem dJ8_newLength_cabcc_26 : decode cJ8_newLength_cabcc 26 = .ok (.ireturn, 1) := by decide +kernel
theorem dJ8_hugeLength_7cf53_0 : decode cJ8_hugeLength_7cf53 0 = .ok (.iload_n 0, 1) := by decide +kernel
theorem dJ8_hugeLength_7cf53_1 : decode cJ8_hugeLength_7cf53 1 = .ok (.iload_n 1, 1) := by decide +kernel
theorem dJ8_hugeLength_7cf53_2 : decode cJ8_hugeLength_7cf53 2 = .ok (.iadd, 1) := by decide +kernel
theorem dJ8_hugeLength_7cf53_3 : decode cJ8_hugeLength_7cf53 3 = .ok (.istore_n 2, 1) := by decide +kernel
theorem dJ8_hugeLength_7cf53_4 : decode cJ8_hugeLength_7cf53 4 = .ok (.iload_n 2, 1) := by decide +kernel
theorem dJ8_hugeLength_7cf53_5 : decode cJ8_hugeLength_7cf53 5 = .ok (.ifCond .ge 44, 3) := by decide +kernel
theorem dJ8_hugeLength_7cf53_8 : decode cJ8_hugeLength_7cf53 8 = .ok (.new 204, 3) := by decide +kernel
theorem dJ8_hugeLength_7cf53_11 : decode cJ8_hugeLength_7cf53 11 = .ok (.dup, 1) := by decide +kernel
theorem dJ8_hugeLength_7cf53_12 : decode cJ8_hugeLength_7cf53 12 = .ok (.new 89, 3) := by decide +kernel
theorem dJ8_hugeLength_7cf53_15 : decode cJ8_hugeLength_7cf53 15 = .ok (.dup, 1) := by decide +kernel
theorem dJ8_hugeLength_7cf53_16 : decode cJ8_hugeLength_7cf53 16 = .ok (.invokespecial 91, 3) := by decide +kernel
theorem dJ8_hugeLength_7cf53_19 : decode cJ8_hugeLength_7cf53 19 = .ok (.ldc 206, 2) := by decide +kernel
theorem dJ8_hugeLength_7cf53_21 : decode cJ8_hugeLength_7cf53 21 = .ok (.invokevirtual 94, 3) := by decide +kernel
theorem dJ8_hugeLength_7cf53_24 : decode cJ8_hugeLength_7cf53 24 = .ok (.iload_n 0, 1) := by decide +kernel
theorem dJ8_hugeLength_7cf53_25 : decode cJ8_hugeLength_7cf53 25 = .ok (.invokevirtual 98, 3) := by decide +kernel
theorem dJ8_hugeLength_7cf53_28 : decode cJ8_hugeLength_7cf53 28 = .ok (.ldc 208, 2) := by decide +kernel
theorem dJ8_hugeLength_7cf53_30 : decode cJ8_hugeLength_7cf53 30 = .ok (.invokevirtual 94, 3) := by decide +kernel
theorem dJ8_hugeLength_7cf53_33 : decode cJ8_hugeLength_7cf53 33 = .ok (.iload_n 1, 1) := by decide +kernel
theorem dJ8_hugeLength_7cf53_34 : decode cJ8_hugeLength_7cf53 34 = .ok (.invokevirtual 98, 3) := by decide +kernel
theorem dJ8_hugeLength_7cf53_37 : decode cJ8_hugeLength_7cf53 37 = .ok (.ldc 210, 2) := by decide +kernel
theorem dJ8_hugeLength_7cf53_39 : decode cJ8_hugeLength_7cf53 39 = .ok (.invokevirtual 94, 3) := by decide +kernel
theorem dJ8_hugeLength_7cf53_42 : decode cJ8_hugeLength_7cf53 42 = .ok (.invokevirtual 101, 3) := by decide +kernel
theorem dJ8_hugeLength_7cf53_45 : decode cJ8_hugeLength_7cf53 45 = .ok (.invokespecial 212, 3) := by decide +kernel
theorem dJ8_hugeLength_7cf53_48 : decode cJ8_hugeLength_7cf53 48 = .ok (.athrow, 1) := by decide +kernel
theorem dJ8_hugeLength_7cf53_49 : decode cJ8_hugeLength_7cf53 49 = .ok (.iload_n 2, 1) := by decide +kernel
theorem dJ8_hugeLength_7cf53_50 : decode cJ8_hugeLength_7cf53 50 = .ok (.ldc 200, 2) := by decide +kernel
theorem dJ8_hugeLength_7cf53_52 : decode cJ8_hugeLength_7cf53 52 = .ok (.if_icmp .gt 6, 3) := by decide +kernel
theorem dJ8_hugeLength_7cf53_55 : decode cJ8_hugeLength_7cf53 55 = .ok (.ldc 200, 2) := by decide +kernel
theorem dJ8_hugeLength_7cf53_57 : decode cJ8_hugeLength_7cf53 57 = .ok (.ireturn, 1) := by decide +kernel
theorem dJ8_hugeLength_7cf53_58 : decode cJ8_hugeLength_7cf53 58 = .ok (.iload_n 2, 1) := by decide +kernel
theorem dJ8_hugeLength_7cf53_59 : decode cJ8_hugeLength_7cf53 59 = .ok (.ireturn, 1) := by decide +kernel
theorem dJ3_checkIndex_8e157_0 : decode cJ3_checkIndex_8e157 0 = .ok (.iload_n 0, 1) := by decide +kernel
theorem dJ3_checkIndex_8e157_1 : decode cJ3_checkIndex_8e157 1 = .ok (.ifCond .lt 8, 3) := by decide +kernel
theorem dJ3_checkIndex_8e157_4 : decode cJ3_checkIndex_8e157 4 = .ok (.iload_n 0, 1) := by decide +kernel
theorem dJ3_checkIndex_8e157_5 : decode cJ3_checkIndex_8e157 5 = .ok (.iload_n 1, 1) := by decide +kernel
theorem dJ3_checkIndex_8e157_6 : decode cJ3_checkIndex_8e157 6 = .ok (.if_icmp .lt 10, 3) := by decide +kernel
theorem dJ3_checkIndex_8e157_9 : decode cJ3_checkIndex_8e157 9 = .ok (.aload_n 2, 1) := by decide +kernel
theorem dJ3_checkIndex_8e157_10 : decode cJ3_checkIndex_8e157 10 = .ok (.iload_n 0, 1) := by decide +kernel
theorem dJ3_checkIndex_8e157_11 : decode cJ3_checkIndex_8e157 11 = .ok (.iload_n 1, 1) := by decide +kernel
theorem dJ3_checkIndex_8e157_12 : decode cJ3_checkIndex_8e157 12 = .ok (.invokestatic 95, 3) := by decide +kernel
theorem dJ3_checkIndex_8e157_15 : decode cJ3_checkIndex_8e157 15 = .ok (.athrow, 1) := by decide +kernel
theorem dJ3_checkIndex_8e157_16 : decode cJ3_checkIndex_8e157 16 = .ok (.iload_n 0, 1) := by decide +kernel
theorem dJ3_checkIndex_8e157_17 : decode cJ3_checkIndex_8e157 17 = .ok (.ireturn, 1) := by decide +kernel
set_option maxRecDepth 20000 in
theorem ggL_shop_X7_shop : GoodIn wsL_shop wsX7_shop := goodIn_ca (goodIn_r _ [6, 7, 8, 9, 10, 11, 5, 12, 13, 14, 15, 16, 17, 18, 19, 20, 21, 22, 23, 24, 25, 26, 27, 28, 29, 30, 31, 32, 33, 34] (by decide +kernel) (by decide +kernel)) (goodIn_sub (fun _ h => List.mem_cons_of_mem _ (List.mem_append_right _ h)) (by decide +kernel))
set_option maxRecDepth 20000 in
theorem gL_shop_X7_shop : GoodIn wsL_shop (wsV RL 7 RX7 yX7_shop wsX7_shop) := goodIn_app (goodIn_of _ (by decide +kernel)) ggL_shop_X7_shop
theorem dL_shop_0 : decode cL_shop 0 = .ok (.aload_n 3, 1) := by decide +kernel
theorem dL_shop_1 : decode cL_shop 1 = .ok (.iconst 0, 1) := by decide +kernel
theorem dL_shop_2 : decode cL_shop 2 = .ok (.aload_n 0, 1) := by decide +kernel
theorem dL_shop_3 : decode cL_shop 3 = .ok (.iload_n 1, 1) := by decide +kernel
theorem dL_shop_4 : decode cL_shop 4 = .ok (.iload_n 2, 1) := by decide +kernel
theorem dL_shop_5 : decode cL_shop 5 = .ok (.invokevirtual 7, 3) := by decide +kernel
theorem dL_shop_8 : decode cL_shop 8 = .ok (.i2l, 1) := by decide +kernel
theorem dL_shop_9 : decode cL_shop 9 = .ok (.lastore, 1) := by decide +kernel
theorem dL_shop_10 : decode cL_shop 10 = .ok (.goto 7, 3) := by decide +kernel
theorem dL_shop_13 : decode cL_shop 13 = .ok (.astore 4, 2) := by decide +kernel
theorem dL_shop_15 : decode cL_shop 15 = .ok (.iconst 1, 1) := by decide +kernel
theorem dL_shop_16 : decode cL_shop 16 = .ok (.ireturn, 1) := by decide +kernel
theorem dL_shop_17 : decode cL_shop 17 = .ok (.iconst 0, 1) := by decide +kernel
theorem dL_shop_18 : decode cL_shop 18 = .ok (.ireturn, 1) := by decide +kernel
set_option maxRecDepth 20000 in
theorem ggL_kind_X7_kind : GoodIn wsL_kind wsX7_kind := goodIn_ca (goodIn_ca (goodIn_r _ [7, 8, 9, 10, 11, 12, 6, 13, 14, 15, 16, 17, 18, 19, 20, 21, 22, 23, 24, 25, 26, 27, 28, 29, 30, 31, 32, 33, 34, 35, 36, 37, 38, 39, 40, 41, 42, 43] (by decide +kernel) (by decide +kernel)) (goodIn_sub (fun _ h => List.mem_cons_of_mem _ (List.mem_append_left _ (List.mem_append_right _ h))) (by decide +kernel))) (goodIn_sub (fun _ h => List.mem_cons_of_mem _ (List.mem_append_right _ h)) (by decide +kernel))
set_option maxRecDepth 20000 in
theorem gL_kind_X7_kind : GoodIn wsL_kind (wsV RL 15 RX7 yX7_kind wsX7_kind) := goodIn_app (goodIn_of _ (by decide +kernel)) ggL_kind_X7_kind
theorem dL_kind_0 : decode cL_kind 0 = .ok (.aload 4, 2) := by decide +kernel
theorem dL_kind_2 : decode cL_kind 2 = .ok (.iconst 0, 1) := by decide +kernel
theorem dL_kind_3 : decode cL_kind 3 = .ok (.aload_n 0, 1) := by decide +kernel
theorem dL_kind_4 : decode cL_kind 4 = .ok (.iload_n 1, 1) := by decide +kernel
theorem dL_kind_5 : decode cL_kind 5 = .ok (.iload_n 2, 1) := by decide +kernel
theorem dL_kind_6 : decode cL_kind 6 = .ok (.iload_n 3, 1) := by decide +kernel
theorem dL_kind_7 : decode cL_kind 7 = .ok (.invokevirtual 15, 3) := by decide +kernel
theorem dL_kind_10 : decode cL_kind 10 = .ok (.i2l, 1) := by decide +kernel
theorem dL_kind_11 : decode cL_kind 11 = .ok (.lastore, 1) := by decide +kernel
theorem dL_kind_12 : decode cL_kind 12 = .ok (.goto 11, 3) := by decide +kernel
theorem dL_kind_15 : decode cL_kind 15 = .ok (.astore 5, 2) := by decide +kernel
theorem dL_kind_17 : decode cL_kind 17 = .ok (.iconst 1, 1) := by decide +kernel
theorem dL_kind_18 : decode cL_kind 18 = .ok (.ireturn, 1) := by decide +kernel
theorem dL_kind_19 : decode cL_kind 19 = .ok (.astore 5, 2) := by decide +kernel
theorem dL_kind_21 : decode cL_kind 21 = .ok (.iconst 2, 1) := by decide +kernel
theorem dL_kind_22 : decode cL_kind 22 = .ok (.ireturn, 1) := by decide +kernel
theorem dL_kind_23 : decode cL_kind 23 = .ok (.iconst 0, 1) := by decide +kernel
theorem dL_kind_24 : decode cL_kind 24 = .ok (.ireturn, 1) := by decide +kernel
set_option maxRecDepth 20000 in
theorem ggL_authorise_X7_authorise : GoodIn wsL_authorise wsX7_authorise := goodIn_ca (goodIn_ca (goodIn_ca (goodIn_r _ [8, 9, 10, 11, 12, 13, 14, 15, 16, 17, 18, 7, 19, 20, 21, 22, 23, 24, 25, 26, 27, 28, 29, 30, 31, 32, 33, 34, 35, 36, 37, 38, 39, 40, 41, 42, 43, 44, 45, 46, 47, 48, 49, 50, 51, 52, 53, 54, 55, 56, 57, 58, 59, 60, 61, 62, 63, 64, 65, 66, 67, 68, 69, 70, 71, 72, 73, 74, 75, 76, 77, 78, 79, 80, 81, 82, 83, 84, 85, 86, 87, 88, 89, 90, 91, 92, 93, 94, 95, 96, 97, 98, 99, 100, 101, 102, 103, 104, 105, 106, 107, 108, 109, 110, 111, 112, 113, 114, 115, 116, 117, 118, 119, 120, 121, 122, 123, 124, 125, 126, 127, 128, 129, 130, 131, 132, 133, 134, 135, 136, 137, 138, 139, 140, 141, 142, 143, 144, 145, 146, 147, 148, 149, 150, 151, 152, 153, 154, 155, 156, 157, 158, 159] (by decide +kernel) (by decide +kernel)) (goodIn_sub (fun _ h => List.mem_cons_of_mem _ (List.mem_append_left _ (List.mem_append_left _ (List.mem_append_right _ h)))) (by decide +kernel))) (goodIn_sub (fun _ h => List.mem_cons_of_mem _ (List.mem_append_left _ (List.mem_append_right _ h))) (by decide +kernel))) (goodIn_sub (fun _ h => List.mem_cons_of_mem _ (List.mem_append_right _ h)) (by decide +kernel))
set_option maxRecDepth 20000 in
theorem gL_authorise_X7_authorise : GoodIn wsL_authorise (wsV RL 21 RX7 yX7_authorise wsX7_authorise) := goodIn_app (goodIn_of _ (by decide +kernel)) ggL_authorise_X7_authorise
theorem dL_authorise_0 : decode cL_authorise 0 = .ok (.aload 4, 2) := by decide +kernel
theorem dL_authorise_2 : decode cL_authorise 2 = .ok (.iconst 0, 1) := by decide +kernel
theorem dL_authorise_3 : decode cL_authorise 3 = .ok (.aload_n 0, 1) := by decide +kernel
theorem dL_authorise_4 : decode cL_authorise 4 = .ok (.iload_n 1, 1) := by decide +kernel
theorem dL_authorise_5 : decode cL_authorise 5 = .ok (.iload_n 2, 1) := by decide +kernel
theorem dL_authorise_6 : decode cL_authorise 6 = .ok (.iload_n 3, 1) := by decide +kernel
theorem dL_authorise_7 : decode cL_authorise 7 = .ok (.invokevirtual 21, 3) := by decide +kernel
theorem dL_authorise_10 : decode cL_authorise 10 = .ok (.i2l, 1) := by decide +kernel
theorem dL_authorise_11 : decode cL_authorise 11 = .ok (.lastore, 1) := by decide +kernel
theorem dL_authorise_12 : decode cL_authorise 12 = .ok (.goto 15, 3) := by decide +kernel
theorem dL_authorise_15 : decode cL_authorise 15 = .ok (.astore 5, 2) := by decide +kernel
theorem dL_authorise_17 : decode cL_authorise 17 = .ok (.iconst 1, 1) := by decide +kernel
theorem dL_authorise_18 : decode cL_authorise 18 = .ok (.ireturn, 1) := by decide +kernel
theorem dL_authorise_19 : decode cL_authorise 19 = .ok (.astore 5, 2) := by decide +kernel
theorem dL_authorise_21 : decode cL_authorise 21 = .ok (.iconst 2, 1) := by decide +kernel
theorem dL_authorise_22 : decode cL_authorise 22 = .ok (.ireturn, 1) := by decide +kernel
theorem dL_authorise_23 : decode cL_authorise 23 = .ok (.astore 5, 2) := by decide +kernel
theorem dL_authorise_25 : decode cL_authorise 25 = .ok (.iconst 3, 1) := by decide +kernel
theorem dL_authorise_26 : decode cL_authorise 26 = .ok (.ireturn, 1) := by decide +kernel
theorem dL_authorise_27 : decode cL_authorise 27 = .ok (.iconst 0, 1) := by decide +kernel
theorem dL_authorise_28 : decode cL_authorise 28 = .ok (.ireturn, 1) := by decide +kernel
set_option maxRecDepth 20000 in
theorem ggL_capture_X7_capture : GoodIn wsL_capture wsX7_capture := goodIn_ca (goodIn_ca (goodIn_ca (goodIn_r _ [8, 9, 10, 11, 12, 13, 14, 15, 16, 17, 18, 19, 20, 21, 22, 23, 7, 24, 25, 26, 27, 28, 29, 30, 31, 32, 33, 34, 35, 36, 37, 38, 39, 40, 41, 42, 43, 44, 45, 46, 47, 48, 49, 50, 51, 52, 53, 54, 55, 56, 57, 58, 59, 60, 61, 62, 63, 64, 65, 66, 67, 68, 69, 70, 71, 72, 73, 74, 75, 76, 77, 78, 79, 80, 81, 82, 83, 84, 85, 86, 87, 88, 89, 90, 91, 92, 93, 94, 95, 96, 97, 98, 99, 100, 101, 102, 103, 104, 105, 106, 107, 108, 109, 110, 111, 112, 113, 114, 115, 116, 117, 118, 119, 120, 121, 122, 123, 124, 125, 126, 127, 128, 129, 130, 131, 132, 133, 134, 135, 136, 137, 138, 139, 140, 141, 142, 143, 144, 145, 146, 147, 148, 149, 150, 151, 152, 153, 154, 155, 156, 157, 158, 159, 160, 161, 162, 163, 164, 165, 166, 167, 168, 169, 170, 171, 172, 173, 174, 175, 176, 177, 178, 179, 180, 181, 182, 183, 184, 185, 186, 187, 188, 189, 190, 191, 192, 193, 194, 195, 196, 197, 198, 199, 200, 201, 202] (by decide +kernel) (by decide +kernel)) (goodIn_sub (fun _ h => List.mem_cons_of_mem _ (List.mem_append_left _ (List.mem_append_left _ (List.mem_append_right _ h)))) (by decide +kernel))) (goodIn_sub (fun _ h => List.mem_cons_of_mem _ (List.mem_append_left _ (List.mem_append_right _ h))) (by decide +kernel))) (goodIn_sub (fun _ h => List.mem_cons_of_mem _ (List.mem_append_right _ h)) (by decide +kernel))
set_option maxRecDepth 20000 in
theorem gL_capture_X7_capture : GoodIn wsL_capture (wsV RL 26 RX7 yX7_capture wsX7_capture) := goodIn_app (goodIn_of _ (by decide +kernel)) ggL_capture_X7_capture
theorem dL_capture_0 : decode cL_capture 0 = .ok (.aload_n 3, 1) := by decide +kernel
theorem dL_capture_1 : decode cL_capture 1 = .ok (.iconst 0, 1) := by decide +kernel
theorem dL_capture_2 : decode cL_capture 2 = .ok (.aload_n 0, 1) := by decide +kernel
theorem dL_capture_3 : decode cL_capture 3 = .ok (.iload_n 1, 1) := by decide +kernel
theorem dL_capture_4 : decode cL_capture 4 = .ok (.iload_n 2, 1) := by decide +kernel
theorem dL_capture_5 : decode cL_capture 5 = .ok (.invokevirtual 26, 3) := by decide +kernel
theorem dL_capture_8 : decode cL_capture 8 = .ok (.i2l, 1) := by decide +kernel
theorem dL_capture_9 : decode cL_capture 9 = .ok (.lastore, 1) := by decide +kernel
theorem dL_capture_10 : decode cL_capture 10 = .ok (.goto 15, 3) := by decide +kernel
theorem dL_capture_13 : decode cL_capture 13 = .ok (.astore 4, 2) := by decide +kernel
theorem dL_capture_15 : decode cL_capture 15 = .ok (.iconst 1, 1) := by decide +kernel
theorem dL_capture_16 : decode cL_capture 16 = .ok (.ireturn, 1) := by decide +kernel
theorem dL_capture_17 : decode cL_capture 17 = .ok (.astore 4, 2) := by decide +kernel
theorem dL_capture_19 : decode cL_capture 19 = .ok (.iconst 2, 1) := by decide +kernel
theorem dL_capture_20 : decode cL_capture 20 = .ok (.ireturn, 1) := by decide +kernel
theorem dL_capture_21 : decode cL_capture 21 = .ok (.astore 4, 2) := by decide +kernel
theorem dL_capture_23 : decode cL_capture 23 = .ok (.iconst 3, 1) := by decide +kernel
theorem dL_capture_24 : decode cL_capture 24 = .ok (.ireturn, 1) := by decide +kernel
theorem dL_capture_25 : decode cL_capture 25 = .ok (.iconst 0, 1) := by decide +kernel
theorem dL_capture_26 : decode cL_capture 26 = .ok (.ireturn, 1) := by decide +kernel
set_option maxRecDepth 20000 in
theorem ggL_cancel_X7_cancel : GoodIn wsL_cancel wsX7_cancel := goodIn_ca (goodIn_ca (goodIn_r _ [7, 8, 9, 10, 11, 12, 6, 13, 14, 15, 16, 17, 18, 19, 20, 21, 22, 23, 24, 25, 26, 27, 28, 29, 30, 31, 32, 33, 34, 35, 36, 37, 38, 39, 40, 41, 42, 43, 44, 45, 46, 47, 48, 49, 50, 51, 52, 53, 54, 55, 56, 57, 58, 59, 60, 61, 62, 63, 64, 65, 66, 67, 68, 69, 70, 71, 72, 73, 74, 75, 76] (by decide +kernel) (by decide +kernel)) (goodIn_sub (fun _ h => List.mem_cons_of_mem _ (List.mem_append_left _ (List.mem_append_right _ h))) (by decide +kernel))) (goodIn_sub (fun _ h => List.mem_cons_of_mem _ (List.mem_append_right _ h)) (by decide +kernel))
set_option maxRecDepth 20000 in
theorem gL_cancel_X7_cancel : GoodIn wsL_cancel (wsV RL 29 RX7 yX7_cancel wsX7_cancel) := goodIn_app (goodIn_of _ (by decide +kernel)) ggL_cancel_X7_cancel
theorem dL_cancel_0 : decode cL_cancel 0 = .ok (.aload_n 2, 1) := by decide +kernel
theorem dL_cancel_1 : decode cL_cancel 1 = .ok (.iconst 0, 1) := by decide +kernel
theorem dL_cancel_2 : decode cL_cancel 2 = .ok (.aload_n 0, 1) := by decide +kernel
theorem dL_cancel_3 : decode cL_cancel 3 = .ok (.iload_n 1, 1) := by decide +kernel
theorem dL_cancel_4 : decode cL_cancel 4 = .ok (.invokevirtual 29, 3) := by decide +kernel
theorem dL_cancel_7 : decode cL_cancel 7 = .ok (.i2l, 1) := by decide +kernel
theorem dL_cancel_8 : decode cL_cancel 8 = .ok (.lastore, 1) := by decide +kernel
theorem dL_cancel_9 : decode cL_cancel 9 = .ok (.goto 9, 3) := by decide +kernel
theorem dL_cancel_12 : decode cL_cancel 12 = .ok (.astore_n 3, 1) := by decide +kernel
theorem dL_cancel_13 : decode cL_cancel 13 = .ok (.iconst 1, 1) := by decide +kernel
theorem dL_cancel_14 : decode cL_cancel 14 = .ok (.ireturn, 1) := by decide +kernel
theorem dL_cancel_15 : decode cL_cancel 15 = .ok (.astore_n 3, 1) := by decide +kernel
theorem dL_cancel_16 : decode cL_cancel 16 = .ok (.iconst 2, 1) := by decide +kernel
theorem dL_cancel_17 : decode cL_cancel 17 = .ok (.ireturn, 1) := by decide +kernel
theorem dL_cancel_18 : decode cL_cancel 18 = .ok (.iconst 0, 1) := by decide +kernel
theorem dL_cancel_19 : decode cL_cancel 19 = .ok (.ireturn, 1) := by decide +kernel
set_option maxRecDepth 20000 in
theorem ggL_refund_X7_refund : GoodIn wsL_refund wsX7_refund := goodIn_ca (goodIn_ca (goodIn_ca (goodIn_r _ [8, 9, 10, 11, 12, 13, 14, 7, 15, 16, 17, 18, 19, 20, 21, 22, 23, 24, 25, 26, 27, 28, 29, 30, 31, 32, 33, 34, 35, 36, 37, 38, 39, 40, 41, 42, 43, 44, 45, 46, 47, 48, 49, 50, 51, 52, 53, 54, 55, 56, 57, 58, 59, 60, 61, 62, 63, 64, 65, 66, 67, 68, 69, 70, 71, 72, 73, 74, 75, 76, 77, 78, 79, 80, 81, 82, 83, 84, 85, 86, 87, 88, 89, 90, 91, 92, 93, 94, 95, 96, 97, 98, 99, 100, 101, 102, 103, 104, 105, 106, 107, 108, 109, 110, 111, 112, 113, 114, 115, 116, 117, 118, 119, 120, 121] (by decide +kernel) (by decide +kernel)) (goodIn_sub (fun _ h => List.mem_cons_of_mem _ (List.mem_append_left _ (List.mem_append_left _ (List.mem_append_right _ h)))) (by decide +kernel))) (goodIn_sub (fun _ h => List.mem_cons_of_mem _ (List.mem_append_left _ (List.mem_append_right _ h))) (by decide +kernel))) (goodIn_sub (fun _ h => List.mem_cons_of_mem _ (List.mem_append_right _ h)) (by decide +kernel))
set_option maxRecDepth 20000 in
theorem gL_refund_X7_refund : GoodIn wsL_refund (wsV RL 33 RX7 yX7_refund wsX7_refund) := goodIn_app (goodIn_of _ (by decide +kernel)) ggL_refund_X7_refund
theorem dL_refund_0 : decode cL_refund 0 = .ok (.aload_n 3, 1) := by decide +kernel
theorem dL_refund_1 : decode cL_refund 1 = .ok (.iconst 0, 1) := by decide +kernel
theorem dL_refund_2 : decode cL_refund 2 = .ok (.aload_n 0, 1) := by decide +kernel
theorem dL_refund_3 : decode cL_refund 3 = .ok (.iload_n 1, 1) := by decide +kernel
theorem dL_refund_4 : decode cL_refund 4 = .ok (.iload_n 2, 1) := by decide +kernel
theorem dL_refund_5 : decode cL_refund 5 = .ok (.invokevirtual 33, 3) := by decide +kernel
theorem dL_refund_8 : decode cL_refund 8 = .ok (.i2l, 1) := by decide +kernel
theorem dL_refund_9 : decode cL_refund 9 = .ok (.lastore, 1) := by decide +kernel
theorem dL_refund_10 : decode cL_refund 10 = .ok (.goto 15, 3) := by decide +kernel
theorem dL_refund_13 : decode cL_refund 13 = .ok (.astore 4, 2) := by decide +kernel
theorem dL_refund_15 : decode cL_refund 15 = .ok (.iconst 1, 1) := by decide +kernel
theorem dL_refund_16 : decode cL_refund 16 = .ok (.ireturn, 1) := by decide +kernel
theorem dL_refund_17 : decode cL_refund 17 = .ok (.astore 4, 2) := by decide +kernel
theorem dL_refund_19 : decode cL_refund 19 = .ok (.iconst 2, 1) := by decide +kernel
theorem dL_refund_20 : decode cL_refund 20 = .ok (.ireturn, 1) := by decide +kernel
theorem dL_refund_21 : decode cL_refund 21 = .ok (.astore 4, 2) := by decide +kernel
theorem dL_refund_23 : decode cL_refund 23 = .ok (.iconst 3, 1) := by decide +kernel
theorem dL_refund_24 : decode cL_refund 24 = .ok (.ireturn, 1) := by decide +kernel
theorem dL_refund_25 : decode cL_refund 25 = .ok (.iconst 0, 1) := by decide +kernel
theorem dL_refund_26 : decode cL_refund 26 = .ok (.ireturn, 1) := by decide +kernel
set_option maxRecDepth 20000 in
theorem ggL_dispute_X7_dispute : GoodIn wsL_dispute wsX7_dispute := goodIn_ca (goodIn_ca (goodIn_ca (goodIn_r _ [8, 9, 10, 11, 12, 13, 14, 15, 16, 17, 18, 19, 7, 20, 21, 22, 23, 24, 25, 26, 27, 28, 29, 30, 31, 32, 33, 34, 35, 36, 37, 38, 39, 40, 41, 42, 43, 44, 45, 46, 47, 48, 49, 50, 51, 52, 53, 54, 55, 56, 57, 58, 59, 60, 61, 62, 63, 64, 65, 66, 67, 68, 69, 70, 71, 72, 73, 74, 75, 76, 77, 78, 79, 80, 81, 82, 83, 84, 85, 86, 87, 88, 89, 90, 91, 92, 93, 94, 95, 96, 97, 98, 99, 100, 101, 102, 103, 104, 105, 106, 107, 108, 109, 110, 111, 112, 113, 114, 115, 116, 117, 118, 119, 120, 121, 122, 123, 124, 125, 126, 127, 128, 129, 130, 131, 132, 133, 134, 135, 136, 137, 138, 139, 140, 141, 142, 143, 144, 145, 146, 147, 148, 149, 150, 151, 152, 153, 154, 155, 156, 157, 158, 159, 160, 161, 162, 163, 164, 165, 166, 167, 168, 169, 170, 171, 172, 173, 174, 175, 176, 177, 178, 179, 180, 181, 182, 183, 184, 185, 186, 187, 188, 189, 190] (by decide +kernel) (by decide +kernel)) (goodIn_sub (fun _ h => List.mem_cons_of_mem _ (List.mem_append_left _ (List.mem_append_left _ (List.mem_append_right _ h)))) (by decide +kernel))) (goodIn_sub (fun _ h => List.mem_cons_of_mem _ (List.mem_append_left _ (List.mem_append_right _ h))) (by decide +kernel))) (goodIn_sub (fun _ h => List.mem_cons_of_mem _ (List.mem_append_right _ h)) (by decide +kernel))
set_option maxRecDepth 20000 in
theorem gL_dispute_X7_dispute : GoodIn wsL_dispute (wsV RL 36 RX7 yX7_dispute wsX7_dispute) := goodIn_app (goodIn_of _ (by decide +kernel)) ggL_dispute_X7_dispute
theorem dL_dispute_0 : decode cL_dispute 0 = .ok (.aload_n 3, 1) := by decide +kernel
theorem dL_dispute_1 : decode cL_dispute 1 = .ok (.iconst 0, 1) := by decide +kernel
theorem dL_dispute_2 : decode cL_dispute 2 = .ok (.aload_n 0, 1) := by decide +kernel
theorem dL_dispute_3 : decode cL_dispute 3 = .ok (.iload_n 1, 1) := by decide +kernel
theorem dL_dispute_4 : decode cL_dispute 4 = .ok (.iload_n 2, 1) := by decide +kernel
theorem dL_dispute_5 : decode cL_dispute 5 = .ok (.invokevirtual 36, 3) := by decide +kernel
theorem dL_dispute_8 : decode cL_dispute 8 = .ok (.i2l, 1) := by decide +kernel
theorem dL_dispute_9 : decode cL_dispute 9 = .ok (.lastore, 1) := by decide +kernel
theorem dL_dispute_10 : decode cL_dispute 10 = .ok (.goto 15, 3) := by decide +kernel
theorem dL_dispute_13 : decode cL_dispute 13 = .ok (.astore 4, 2) := by decide +kernel
theorem dL_dispute_15 : decode cL_dispute 15 = .ok (.iconst 1, 1) := by decide +kernel
theorem dL_dispute_16 : decode cL_dispute 16 = .ok (.ireturn, 1) := by decide +kernel
theorem dL_dispute_17 : decode cL_dispute 17 = .ok (.astore 4, 2) := by decide +kernel
theorem dL_dispute_19 : decode cL_dispute 19 = .ok (.iconst 2, 1) := by decide +kernel
theorem dL_dispute_20 : decode cL_dispute 20 = .ok (.ireturn, 1) := by decide +kernel
theorem dL_dispute_21 : decode cL_dispute 21 = .ok (.astore 4, 2) := by decide +kernel
theorem dL_dispute_23 : decode cL_dispute 23 = .ok (.iconst 3, 1) := by decide +kernel
theorem dL_dispute_24 : decode cL_dispute 24 = .ok (.ireturn, 1) := by decide +kernel
theorem dL_dispute_25 : decode cL_dispute 25 = .ok (.iconst 0, 1) := by decide +kernel
theorem dL_dispute_26 : decode cL_dispute 26 = .ok (.ireturn, 1) := by decide +kernel
set_option maxRecDepth 20000 in
theorem ggL_answer_X7_answer : GoodIn wsL_answer wsX7_answer := goodIn_ca (goodIn_ca (goodIn_r _ [7, 8, 9, 10, 11, 12, 13, 6, 14, 15, 16, 17, 18, 19, 20, 21, 22, 23, 24, 25, 26, 27, 28, 29, 30, 31, 32, 33, 34, 35, 36, 37, 38, 39, 40, 41, 42, 43, 44, 45, 46, 47, 48, 49, 50, 51, 52, 53, 54, 55, 56, 57, 58, 59, 60, 61, 62, 63, 64, 65, 66, 67, 68, 69, 70, 71, 72, 73, 74, 75, 76, 77, 78, 79, 80, 81, 82, 83, 84, 85, 86, 87, 88, 89, 90, 91, 92, 93, 94, 95, 96, 97, 98, 99, 100, 101, 102, 103, 104, 105, 106, 107, 108, 109, 110, 111] (by decide +kernel) (by decide +kernel)) (goodIn_sub (fun _ h => List.mem_cons_of_mem _ (List.mem_append_left _ (List.mem_append_right _ h))) (by decide +kernel))) (goodIn_sub (fun _ h => List.mem_cons_of_mem _ (List.mem_append_right _ h)) (by decide +kernel))
set_option maxRecDepth 20000 in
theorem gL_answer_X7_answer : GoodIn wsL_answer (wsV RL 39 RX7 yX7_answer wsX7_answer) := goodIn_app (goodIn_of _ (by decide +kernel)) ggL_answer_X7_answer
theorem dL_answer_0 : decode cL_answer 0 = .ok (.aload_n 2, 1) := by decide +kernel
theorem dL_answer_1 : decode cL_answer 1 = .ok (.iconst 0, 1) := by decide +kernel
theorem dL_answer_2 : decode cL_answer 2 = .ok (.aload_n 0, 1) := by decide +kernel
theorem dL_answer_3 : decode cL_answer 3 = .ok (.iload_n 1, 1) := by decide +kernel
theorem dL_answer_4 : decode cL_answer 4 = .ok (.invokevirtual 39, 3) := by decide +kernel
theorem dL_answer_7 : decode cL_answer 7 = .ok (.i2l, 1) := by decide +kernel
theorem dL_answer_8 : decode cL_answer 8 = .ok (.lastore, 1) := by decide +kernel
theorem dL_answer_9 : decode cL_answer 9 = .ok (.goto 9, 3) := by decide +kernel
theorem dL_answer_12 : decode cL_answer 12 = .ok (.astore_n 3, 1) := by decide +kernel
theorem dL_answer_13 : decode cL_answer 13 = .ok (.iconst 1, 1) := by decide +kernel
theorem dL_answer_14 : decode cL_answer 14 = .ok (.ireturn, 1) := by decide +kernel
theorem dL_answer_15 : decode cL_answer 15 = .ok (.astore_n 3, 1) := by decide +kernel
theorem dL_answer_16 : decode cL_answer 16 = .ok (.iconst 2, 1) := by decide +kernel
theorem dL_answer_17 : decode cL_answer 17 = .ok (.ireturn, 1) := by decide +kernel
theorem dL_answer_18 : decode cL_answer 18 = .ok (.iconst 0, 1) := by decide +kernel
theorem dL_answer_19 : decode cL_answer 19 = .ok (.ireturn, 1) := by decide +kernel
set_option maxRecDepth 20000 in
theorem ggL_press_X7_press : GoodIn wsL_press wsX7_press := goodIn_ca (goodIn_ca (goodIn_r _ [7, 8, 9, 10, 11, 12, 13, 14, 6, 15, 16, 17, 18, 19, 20, 21, 22, 23, 24, 25, 26, 27, 28, 29, 30, 31, 32, 33, 34, 35, 36, 37, 38, 39, 40, 41, 42, 43, 44, 45, 46, 47, 48, 49, 50, 51, 52, 53, 54, 55, 56, 57, 58, 59, 60, 61, 62, 63, 64, 65, 66, 67, 68, 69, 70, 71, 72, 73, 74, 75, 76, 77, 78, 79, 80, 81, 82, 83, 84, 85, 86, 87, 88, 89, 90, 91, 92, 93, 94, 95, 96, 97, 98, 99, 100, 101, 102, 103, 104, 105, 106, 107, 108, 109, 110, 111] (by decide +kernel) (by decide +kernel)) (goodIn_sub (fun _ h => List.mem_cons_of_mem _ (List.mem_append_left _ (List.mem_append_right _ h))) (by decide +kernel))) (goodIn_sub (fun _ h => List.mem_cons_of_mem _ (List.mem_append_right _ h)) (by decide +kernel))
set_option maxRecDepth 20000 in
theorem gL_press_X7_press : GoodIn wsL_press (wsV RL 42 RX7 yX7_press wsX7_press) := goodIn_app (goodIn_of _ (by decide +kernel)) ggL_press_X7_press
theorem dL_press_0 : decode cL_press 0 = .ok (.aload_n 2, 1) := by decide +kernel
theorem dL_press_1 : decode cL_press 1 = .ok (.iconst 0, 1) := by decide +kernel
theorem dL_press_2 : decode cL_press 2 = .ok (.aload_n 0, 1) := by decide +kernel
theorem dL_press_3 : decode cL_press 3 = .ok (.iload_n 1, 1) := by decide +kernel
theorem dL_press_4 : decode cL_press 4 = .ok (.invokevirtual 42, 3) := by decide +kernel
theorem dL_press_7 : decode cL_press 7 = .ok (.i2l, 1) := by decide +kernel
theorem dL_press_8 : decode cL_press 8 = .ok (.lastore, 1) := by decide +kernel
theorem dL_press_9 : decode cL_press 9 = .ok (.goto 9, 3) := by decide +kernel
theorem dL_press_12 : decode cL_press 12 = .ok (.astore_n 3, 1) := by decide +kernel
theorem dL_press_13 : decode cL_press 13 = .ok (.iconst 1, 1) := by decide +kernel
theorem dL_press_14 : decode cL_press 14 = .ok (.ireturn, 1) := by decide +kernel
theorem dL_press_15 : decode cL_press 15 = .ok (.astore_n 3, 1) := by decide +kernel
theorem dL_press_16 : decode cL_press 16 = .ok (.iconst 2, 1) := by decide +kernel
theorem dL_press_17 : decode cL_press 17 = .ok (.ireturn, 1) := by decide +kernel
theorem dL_press_18 : decode cL_press 18 = .ok (.iconst 0, 1) := by decide +kernel
theorem dL_press_19 : decode cL_press 19 = .ok (.ireturn, 1) := by decide +kernel
set_option maxRecDepth 20000 in
theorem ggL_rule_X7_rule : GoodIn wsL_rule wsX7_rule := goodIn_ca (goodIn_ca (goodIn_r _ [7, 8, 9, 10, 11, 6, 12, 13, 14, 15, 16, 17, 18, 19, 20, 21, 22, 23, 24, 25, 26, 27, 28, 29, 30, 31, 32, 33, 34, 35, 36, 37, 38, 39, 40, 41, 42, 43, 44, 45, 46, 47, 48, 49, 50, 51, 52, 53, 54, 55, 56, 57, 58, 59, 60, 61, 62, 63, 64, 65, 66, 67, 68, 69, 70, 71, 72, 73, 74, 75, 76, 77, 78, 79, 80, 81, 82, 83, 84, 85, 86, 87, 88, 89, 90, 91, 92, 93, 94, 95, 96, 97, 98, 99, 100, 101, 102, 103, 104, 105, 106, 107, 108, 109] (by decide +kernel) (by decide +kernel)) (goodIn_sub (fun _ h => List.mem_cons_of_mem _ (List.mem_append_left _ (List.mem_append_right _ h))) (by decide +kernel))) (goodIn_sub (fun _ h => List.mem_cons_of_mem _ (List.mem_append_right _ h)) (by decide +kernel))
set_option maxRecDepth 20000 in
theorem gL_rule_X7_rule : GoodIn wsL_rule (wsV RL 45 RX7 yX7_rule wsX7_rule) := goodIn_app (goodIn_of _ (by decide +kernel)) ggL_rule_X7_rule
theorem dL_rule_0 : decode cL_rule 0 = .ok (.aload_n 3, 1) := by decide +kernel
theorem dL_rule_1 : decode cL_rule 1 = .ok (.iconst 0, 1) := by decide +kernel
theorem dL_rule_2 : decode cL_rule 2 = .ok (.aload_n 0, 1) := by decide +kernel
theorem dL_rule_3 : decode cL_rule 3 = .ok (.iload_n 1, 1) := by decide +kernel
theorem dL_rule_4 : decode cL_rule 4 = .ok (.iload_n 2, 1) := by decide +kernel
theorem dL_rule_5 : decode cL_rule 5 = .ok (.invokevirtual 45, 3) := by decide +kernel
theorem dL_rule_8 : decode cL_rule 8 = .ok (.i2l, 1) := by decide +kernel
theorem dL_rule_9 : decode cL_rule 9 = .ok (.lastore, 1) := by decide +kernel
theorem dL_rule_10 : decode cL_rule 10 = .ok (.goto 11, 3) := by decide +kernel
theorem dL_rule_13 : decode cL_rule 13 = .ok (.astore 4, 2) := by decide +kernel
theorem dL_rule_15 : decode cL_rule 15 = .ok (.iconst 1, 1) := by decide +kernel
theorem dL_rule_16 : decode cL_rule 16 = .ok (.ireturn, 1) := by decide +kernel
theorem dL_rule_17 : decode cL_rule 17 = .ok (.astore 4, 2) := by decide +kernel
theorem dL_rule_19 : decode cL_rule 19 = .ok (.iconst 2, 1) := by decide +kernel
theorem dL_rule_20 : decode cL_rule 20 = .ok (.ireturn, 1) := by decide +kernel
theorem dL_rule_21 : decode cL_rule 21 = .ok (.iconst 0, 1) := by decide +kernel
theorem dL_rule_22 : decode cL_rule 22 = .ok (.ireturn, 1) := by decide +kernel
set_option maxRecDepth 20000 in
theorem ggL_pass_X7_pass : GoodIn wsL_pass wsX7_pass := goodIn_ca (goodIn_r _ [6, 7, 8, 9, 5, 10, 11, 12, 13, 14, 15, 16, 17, 18, 19, 20, 21, 22, 23, 24, 25, 26, 27, 28, 29, 30, 31, 32, 33, 34, 35, 36, 37, 38, 39, 40, 41, 42, 43, 44, 45, 46, 47, 48, 49, 50, 51, 52, 53, 54, 55, 56, 57, 58, 59, 60, 61, 62, 63, 64, 65, 66, 67, 68, 69, 70, 71, 72] (by decide +kernel) (by decide +kernel)) (goodIn_sub (fun _ h => List.mem_cons_of_mem _ (List.mem_append_right _ h)) (by decide +kernel))
set_option maxRecDepth 20000 in
theorem gL_pass_X7_pass : GoodIn wsL_pass (wsV RL 49 RX7 yX7_pass wsX7_pass) := goodIn_app (goodIn_of _ (by decide +kernel)) ggL_pass_X7_pass
theorem dL_pass_0 : decode cL_pass 0 = .ok (.aload_n 2, 1) := by decide +kernel
theorem dL_pass_1 : decode cL_pass 1 = .ok (.iconst 0, 1) := by decide +kernel
theorem dL_pass_2 : decode cL_pass 2 = .ok (.aload_n 0, 1) := by decide +kernel
theorem dL_pass_3 : decode cL_pass 3 = .ok (.iload_n 1, 1) := by decide +kernel
theorem dL_pass_4 : decode cL_pass 4 = .ok (.invokevirtual 49, 3) := by decide +kernel
theorem dL_pass_7 : decode cL_pass 7 = .ok (.i2l, 1) := by decide +kernel
theorem dL_pass_8 : decode cL_pass 8 = .ok (.lastore, 1) := by decide +kernel
theorem dL_pass_9 : decode cL_pass 9 = .ok (.goto 6, 3) := by decide +kernel
theorem dL_pass_12 : decode cL_pass 12 = .ok (.astore_n 3, 1) := by decide +kernel
theorem dL_pass_13 : decode cL_pass 13 = .ok (.iconst 1, 1) := by decide +kernel
theorem dL_pass_14 : decode cL_pass 14 = .ok (.ireturn, 1) := by decide +kernel
theorem dL_pass_15 : decode cL_pass 15 = .ok (.iconst 0, 1) := by decide +kernel
theorem dL_pass_16 : decode cL_pass 16 = .ok (.ireturn, 1) := by decide +kernel
set_option maxRecDepth 20000 in
theorem ggL_paymentOf_X7_paymentOf : GoodIn wsL_paymentOf wsX7_paymentOf := goodIn_ca (goodIn_ca (goodIn_r _ [7, 8, 9, 10, 11, 12, 13, 14, 15, 16, 17, 18, 19, 20, 6, 21, 22, 23, 24, 25, 26, 27, 28, 29, 30, 31, 32, 33, 34, 35, 36, 37, 38, 39, 40, 41, 42, 43, 44, 45, 46, 47, 48, 49, 50, 51, 52, 53, 54, 55, 56, 57, 58, 59, 60, 61, 62, 63, 64, 65, 66, 67, 68, 69, 70, 71, 72, 73, 74, 75, 76, 77, 78, 79, 80, 81, 82, 83, 84] (by decide +kernel) (by decide +kernel)) (goodIn_sub (fun _ h => List.mem_cons_of_mem _ (List.mem_append_left _ (List.mem_append_right _ h))) (by decide +kernel))) (goodIn_sub (fun _ h => List.mem_cons_of_mem _ (List.mem_append_right _ h)) (by decide +kernel))
set_option maxRecDepth 20000 in
theorem gL_paymentOf_X7_paymentOf : GoodIn wsL_paymentOf (wsV RL 52 RX7 yX7_paymentOf wsX7_paymentOf) := goodIn_app (goodIn_of _ (by decide +kernel)) ggL_paymentOf_X7_paymentOf
theorem dL_paymentOf_0 : decode cL_paymentOf 0 = .ok (.aload_n 3, 1) := by decide +kernel
theorem dL_paymentOf_1 : decode cL_paymentOf 1 = .ok (.iconst 0, 1) := by decide +kernel
theorem dL_paymentOf_2 : decode cL_paymentOf 2 = .ok (.aload_n 0, 1) := by decide +kernel
theorem dL_paymentOf_3 : decode cL_paymentOf 3 = .ok (.iload_n 1, 1) := by decide +kernel
theorem dL_paymentOf_4 : decode cL_paymentOf 4 = .ok (.iload_n 2, 1) := by decide +kernel
theorem dL_paymentOf_5 : decode cL_paymentOf 5 = .ok (.invokevirtual 52, 3) := by decide +kernel
theorem dL_paymentOf_8 : decode cL_paymentOf 8 = .ok (.i2l, 1) := by decide +kernel
theorem dL_paymentOf_9 : decode cL_paymentOf 9 = .ok (.lastore, 1) := by decide +kernel
theorem dL_paymentOf_10 : decode cL_paymentOf 10 = .ok (.goto 11, 3) := by decide +kernel
theorem dL_paymentOf_13 : decode cL_paymentOf 13 = .ok (.astore 4, 2) := by decide +kernel
theorem dL_paymentOf_15 : decode cL_paymentOf 15 = .ok (.iconst 1, 1) := by decide +kernel
theorem dL_paymentOf_16 : decode cL_paymentOf 16 = .ok (.ireturn, 1) := by decide +kernel
theorem dL_paymentOf_17 : decode cL_paymentOf 17 = .ok (.astore 4, 2) := by decide +kernel
theorem dL_paymentOf_19 : decode cL_paymentOf 19 = .ok (.iconst 2, 1) := by decide +kernel
theorem dL_paymentOf_20 : decode cL_paymentOf 20 = .ok (.ireturn, 1) := by decide +kernel
theorem dL_paymentOf_21 : decode cL_paymentOf 21 = .ok (.iconst 0, 1) := by decide +kernel
theorem dL_paymentOf_22 : decode cL_paymentOf 22 = .ok (.ireturn, 1) := by decide +kernel
set_option maxRecDepth 20000 in
theorem ggL_captureOf_X7_captureOf : GoodIn wsL_captureOf wsX7_captureOf := goodIn_ca (goodIn_ca (goodIn_r _ [7, 8, 9, 10, 11, 12, 13, 14, 15, 16, 17, 6, 18, 19, 20, 21, 22, 23, 24, 25, 26, 27, 28, 29, 30, 31, 32, 33, 34, 35, 36, 37, 38, 39, 40, 41, 42, 43, 44, 45, 46, 47, 48, 49, 50, 51, 52, 53, 54, 55, 56, 57, 58, 59, 60, 61, 62, 63, 64, 65, 66, 67, 68, 69, 70, 71, 72, 73, 74, 75, 76, 77, 78, 79, 80, 81, 82] (by decide +kernel) (by decide +kernel)) (goodIn_sub (fun _ h => List.mem_cons_of_mem _ (List.mem_append_left _ (List.mem_append_right _ h))) (by decide +kernel))) (goodIn_sub (fun _ h => List.mem_cons_of_mem _ (List.mem_append_right _ h)) (by decide +kernel))
set_option maxRecDepth 20000 in
theorem gL_captureOf_X7_captureOf : GoodIn wsL_captureOf (wsV RL 55 RX7 yX7_captureOf wsX7_captureOf) := goodIn_app (goodIn_of _ (by decide +kernel)) ggL_captureOf_X7_captureOf
theorem dL_captureOf_0 : decode cL_captureOf 0 = .ok (.aload_n 3, 1) := by decide +kernel
theorem dL_captureOf_1 : decode cL_captureOf 1 = .ok (.iconst 0, 1) := by decide +kernel
theorem dL_captureOf_2 : decode cL_captureOf 2 = .ok (.aload_n 0, 1) := by decide +kernel
theorem dL_captureOf_3 : decode cL_captureOf 3 = .ok (.iload_n 1, 1) := by decide +kernel
theorem dL_captureOf_4 : decode cL_captureOf 4 = .ok (.iload_n 2, 1) := by decide +kernel
theorem dL_captureOf_5 : decode cL_captureOf 5 = .ok (.invokevirtual 55, 3) := by decide +kernel
theorem dL_captureOf_8 : decode cL_captureOf 8 = .ok (.i2l, 1) := by decide +kernel
theorem dL_captureOf_9 : decode cL_captureOf 9 = .ok (.lastore, 1) := by decide +kernel
theorem dL_captureOf_10 : decode cL_captureOf 10 = .ok (.goto 11, 3) := by decide +kernel
theorem dL_captureOf_13 : decode cL_captureOf 13 = .ok (.astore 4, 2) := by decide +kernel
theorem dL_captureOf_15 : decode cL_captureOf 15 = .ok (.iconst 1, 1) := by decide +kernel
theorem dL_captureOf_16 : decode cL_captureOf 16 = .ok (.ireturn, 1) := by decide +kernel
theorem dL_captureOf_17 : decode cL_captureOf 17 = .ok (.astore 4, 2) := by decide +kernel
theorem dL_captureOf_19 : decode cL_captureOf 19 = .ok (.iconst 2, 1) := by decide +kernel
theorem dL_captureOf_20 : decode cL_captureOf 20 = .ok (.ireturn, 1) := by decide +kernel
theorem dL_captureOf_21 : decode cL_captureOf 21 = .ok (.iconst 0, 1) := by decide +kernel
theorem dL_captureOf_22 : decode cL_captureOf 22 = .ok (.ireturn, 1) := by decide +kernel
set_option maxRecDepth 20000 in
theorem ggL_chargebackOf_X7_chargebackOf : GoodIn wsL_chargebackOf wsX7_chargebackOf := goodIn_ca (goodIn_ca (goodIn_r _ [7, 8, 9, 10, 11, 12, 13, 14, 15, 16, 17, 6, 18, 19, 20, 21, 22, 23, 24, 25, 26, 27, 28, 29, 30, 31, 32, 33, 34, 35, 36, 37, 38, 39, 40, 41, 42, 43, 44, 45, 46, 47, 48, 49, 50, 51, 52, 53, 54, 55, 56, 57, 58, 59, 60, 61, 62, 63, 64, 65, 66] (by decide +kernel) (by decide +kernel)) (goodIn_sub (fun _ h => List.mem_cons_of_mem _ (List.mem_append_left _ (List.mem_append_right _ h))) (by decide +kernel))) (goodIn_sub (fun _ h => List.mem_cons_of_mem _ (List.mem_append_right _ h)) (by decide +kernel))
set_option maxRecDepth 20000 in
theorem gL_chargebackOf_X7_chargebackOf : GoodIn wsL_chargebackOf (wsV RL 58 RX7 yX7_chargebackOf wsX7_chargebackOf) := goodIn_app (goodIn_of _ (by decide +kernel)) ggL_chargebackOf_X7_chargebackOf
theorem dL_chargebackOf_0 : decode cL_chargebackOf 0 = .ok (.aload_n 3, 1) := by decide +kernel
theorem dL_chargebackOf_1 : decode cL_chargebackOf 1 = .ok (.iconst 0, 1) := by decide +kernel
theorem dL_chargebackOf_2 : decode cL_chargebackOf 2 = .ok (.aload_n 0, 1) := by decide +kernel
theorem dL_chargebackOf_3 : decode cL_chargebackOf 3 = .ok (.iload_n 1, 1) := by decide +kernel
theorem dL_chargebackOf_4 : decode cL_chargebackOf 4 = .ok (.iload_n 2, 1) := by decide +kernel
theorem dL_chargebackOf_5 : decode cL_chargebackOf 5 = .ok (.invokevirtual 58, 3) := by decide +kernel
theorem dL_chargebackOf_8 : decode cL_chargebackOf 8 = .ok (.i2l, 1) := by decide +kernel
theorem dL_chargebackOf_9 : decode cL_chargebackOf 9 = .ok (.lastore, 1) := by decide +kernel
theorem dL_chargebackOf_10 : decode cL_chargebackOf 10 = .ok (.goto 11, 3) := by decide +kernel
theorem dL_chargebackOf_13 : decode cL_chargebackOf 13 = .ok (.astore 4, 2) := by decide +kernel
theorem dL_chargebackOf_15 : decode cL_chargebackOf 15 = .ok (.iconst 1, 1) := by decide +kernel
theorem dL_chargebackOf_16 : decode cL_chargebackOf 16 = .ok (.ireturn, 1) := by decide +kernel
theorem dL_chargebackOf_17 : decode cL_chargebackOf 17 = .ok (.astore 4, 2) := by decide +kernel
theorem dL_chargebackOf_19 : decode cL_chargebackOf 19 = .ok (.iconst 2, 1) := by decide +kernel
theorem dL_chargebackOf_20 : decode cL_chargebackOf 20 = .ok (.ireturn, 1) := by decide +kernel
theorem dL_chargebackOf_21 : decode cL_chargebackOf 21 = .ok (.iconst 0, 1) := by decide +kernel
theorem dL_chargebackOf_22 : decode cL_chargebackOf 22 = .ok (.ireturn, 1) := by decide +kernel
set_option maxRecDepth 20000 in
theorem ggL_limit_X7_limit : GoodIn wsL_limit wsX7_limit := goodIn_ca (goodIn_r _ [6, 7, 8, 9, 5, 10, 11, 12, 13, 14, 15, 16, 17, 18, 19, 20, 21, 22, 23, 24, 25, 26, 27, 28, 29, 30, 31, 32, 33, 34, 35, 36, 37, 38, 39, 40, 41, 42, 43, 44, 45, 46, 47, 48, 49, 50, 51, 52, 53, 54, 55, 56, 57, 58, 59, 60, 61, 62, 63, 64, 65, 66, 67, 68, 69, 70, 71, 72] (by decide +kernel) (by decide +kernel)) (goodIn_sub (fun _ h => List.mem_cons_of_mem _ (List.mem_append_right _ h)) (by decide +kernel))
set_option maxRecDepth 20000 in
theorem gL_limit_X7_limit : GoodIn wsL_limit (wsV RL 61 RX7 yX7_limit wsX7_limit) := goodIn_app (goodIn_of _ (by decide +kernel)) ggL_limit_X7_limit
theorem dL_limit_0 : decode cL_limit 0 = .ok (.aload_n 2, 1) := by decide +kernel
theorem dL_limit_1 : decode cL_limit 1 = .ok (.iconst 0, 1) := by decide +kernel
theorem dL_limit_2 : decode cL_limit 2 = .ok (.aload_n 0, 1) := by decide +kernel
theorem dL_limit_3 : decode cL_limit 3 = .ok (.iload_n 1, 1) := by decide +kernel
theorem dL_limit_4 : decode cL_limit 4 = .ok (.invokevirtual 61, 3) := by decide +kernel
theorem dL_limit_7 : decode cL_limit 7 = .ok (.i2l, 1) := by decide +kernel
theorem dL_limit_8 : decode cL_limit 8 = .ok (.lastore, 1) := by decide +kernel
theorem dL_limit_9 : decode cL_limit 9 = .ok (.goto 6, 3) := by decide +kernel
theorem dL_limit_12 : decode cL_limit 12 = .ok (.astore_n 3, 1) := by decide +kernel
theorem dL_limit_13 : decode cL_limit 13 = .ok (.iconst 1, 1) := by decide +kernel
theorem dL_limit_14 : decode cL_limit 14 = .ok (.ireturn, 1) := by decide +kernel
theorem dL_limit_15 : decode cL_limit 15 = .ok (.iconst 0, 1) := by decide +kernel
theorem dL_limit_16 : decode cL_limit 16 = .ok (.ireturn, 1) := by decide +kernel
set_option maxRecDepth 20000 in
theorem ggL_net_X7_net : GoodIn wsL_net wsX7_net := goodIn_ca (goodIn_r _ [6, 7, 8, 9, 10, 11, 5, 12, 13, 14, 15, 16, 17, 18, 19, 20, 21, 22, 23, 24, 25] (by decide +kernel) (by decide +kernel)) (goodIn_sub (fun _ h => List.mem_cons_of_mem _ (List.mem_append_right _ h)) (by decide +kernel))
set_option maxRecDepth 20000 in
theorem gL_net_X7_net : GoodIn wsL_net (wsV RL 64 RX7 yX7_net wsX7_net) := goodIn_app (goodIn_of _ (by decide +kernel)) ggL_net_X7_net
theorem dL_net_0 : decode cL_net 0 = .ok (.aload_n 3, 1) := by decide +kernel
theorem dL_net_1 : decode cL_net 1 = .ok (.iconst 0, 1) := by decide +kernel
theorem dL_net_2 : decode cL_net 2 = .ok (.aload_n 0, 1) := by decide +kernel
theorem dL_net_3 : decode cL_net 3 = .ok (.iload_n 1, 1) := by decide +kernel
theorem dL_net_4 : decode cL_net 4 = .ok (.iload_n 2, 1) := by decide +kernel
theorem dL_net_5 : decode cL_net 5 = .ok (.invokevirtual 64, 3) := by decide +kernel
theorem dL_net_8 : decode cL_net 8 = .ok (.lastore, 1) := by decide +kernel
theorem dL_net_9 : decode cL_net 9 = .ok (.goto 7, 3) := by decide +kernel
theorem dL_net_12 : decode cL_net 12 = .ok (.astore 4, 2) := by decide +kernel
theorem dL_net_14 : decode cL_net 14 = .ok (.iconst 1, 1) := by decide +kernel
theorem dL_net_15 : decode cL_net 15 = .ok (.ireturn, 1) := by decide +kernel
theorem dL_net_16 : decode cL_net 16 = .ok (.iconst 0, 1) := by decide +kernel
theorem dL_net_17 : decode cL_net 17 = .ok (.ireturn, 1) := by decide +kernel
set_option maxRecDepth 20000 in
theorem ggL_netAnew_X7_netAnew : GoodIn wsL_netAnew wsX7_netAnew := goodIn_ca (goodIn_r _ [6, 7, 8, 9, 10, 11, 12, 13, 14, 15, 16, 17, 18, 5, 19, 20, 21, 22, 23, 24, 25, 26, 27, 28, 29, 30, 31, 32, 33, 34, 35, 36, 37, 38, 39, 40, 41, 42, 43, 44, 45, 46, 47, 48, 49, 50, 51, 52, 53, 54, 55, 56, 57, 58, 59, 60, 61, 62, 63, 64, 65, 66, 67, 68, 69, 70, 71, 72, 73, 74, 75, 76, 77, 78, 79, 80, 81, 82, 83, 84, 85, 86, 87, 88, 89, 90, 91, 92, 93, 94, 95, 96, 97, 98, 99, 100, 101, 102] (by decide +kernel) (by decide +kernel)) (goodIn_sub (fun _ h => List.mem_cons_of_mem _ (List.mem_append_right _ h)) (by decide +kernel))
set_option maxRecDepth 20000 in
theorem gL_netAnew_X7_netAnew : GoodIn wsL_netAnew (wsV RL 68 RX7 yX7_netAnew wsX7_netAnew) := goodIn_app (goodIn_of _ (by decide +kernel)) ggL_netAnew_X7_netAnew
theorem dL_netAnew_0 : decode cL_netAnew 0 = .ok (.aload_n 2, 1) := by decide +kernel
theorem dL_netAnew_1 : decode cL_netAnew 1 = .ok (.iconst 0, 1) := by decide +kernel
theorem dL_netAnew_2 : decode cL_netAnew 2 = .ok (.aload_n 0, 1) := by decide +kernel
theorem dL_netAnew_3 : decode cL_netAnew 3 = .ok (.iload_n 1, 1) := by decide +kernel
theorem dL_netAnew_4 : decode cL_netAnew 4 = .ok (.invokevirtual 68, 3) := by decide +kernel
theorem dL_netAnew_7 : decode cL_netAnew 7 = .ok (.lastore, 1) := by decide +kernel
theorem dL_netAnew_8 : decode cL_netAnew 8 = .ok (.goto 6, 3) := by decide +kernel
theorem dL_netAnew_11 : decode cL_netAnew 11 = .ok (.astore_n 3, 1) := by decide +kernel
theorem dL_netAnew_12 : decode cL_netAnew 12 = .ok (.iconst 1, 1) := by decide +kernel
theorem dL_netAnew_13 : decode cL_netAnew 13 = .ok (.ireturn, 1) := by decide +kernel
theorem dL_netAnew_14 : decode cL_netAnew 14 = .ok (.iconst 0, 1) := by decide +kernel
theorem dL_netAnew_15 : decode cL_netAnew 15 = .ok (.ireturn, 1) := by decide +kernel
set_option maxRecDepth 20000 in
theorem ggL_due_X7_due : GoodIn wsL_due wsX7_due := goodIn_ca (goodIn_r _ [6, 7, 8, 9, 10, 11, 12, 13, 14, 15, 16, 17, 18, 19, 5, 20, 21, 22, 23, 24, 25, 26, 27, 28, 29, 30, 31, 32, 33, 34, 35, 36, 37, 38, 39, 40, 41, 42, 43, 44, 45, 46, 47, 48, 49, 50, 51, 52, 53, 54, 55, 56, 57, 58, 59, 60, 61, 62, 63, 64, 65, 66, 67] (by decide +kernel) (by decide +kernel)) (goodIn_sub (fun _ h => List.mem_cons_of_mem _ (List.mem_append_right _ h)) (by decide +kernel))
set_option maxRecDepth 20000 in
theorem gL_due_X7_due : GoodIn wsL_due (wsV RL 72 RX7 yX7_due wsX7_due) := goodIn_app (goodIn_of _ (by decide +kernel)) ggL_due_X7_due
theorem dL_due_0 : decode cL_due 0 = .ok (.aload_n 2, 1) := by decide +kernel
