theorem dX7_bankAt_21 : decode cX7_bankAt 21 = .ok (.getfield 11, 3) := by decide +kernel
theorem dX7_bankAt_24 : decode cX7_bankAt 24 = .ok (.iload_n 1, 1) := by decide +kernel
theorem dX7_bankAt_25 : decode cX7_bankAt 25 = .ok (.aaload, 1) := by decide +kernel
theorem dX7_bankAt_26 : decode cX7_bankAt 26 = .ok (.areturn, 1) := by decide +kernel
theorem dX7_kindAt_0 : decode cX7_kindAt 0 = .ok (.iload_n 1, 1) := by decide +kernel
theorem dX7_kindAt_1 : decode cX7_kindAt 1 = .ok (.ifCond .lt 8, 3) := by decide +kernel
theorem dX7_kindAt_4 : decode cX7_kindAt 4 = .ok (.iload_n 1, 1) := by decide +kernel
theorem dX7_kindAt_5 : decode cX7_kindAt 5 = .ok (.iconst 3, 1) := by decide +kernel
theorem dX7_kindAt_6 : decode cX7_kindAt 6 = .ok (.if_icmp .lt 14, 3) := by decide +kernel
theorem dX7_kindAt_9 : decode cX7_kindAt 9 = .ok (.new 247, 3) := by decide +kernel
theorem dX7_kindAt_12 : decode cX7_kindAt 12 = .ok (.dup, 1) := by decide +kernel
theorem dX7_kindAt_13 : decode cX7_kindAt 13 = .ok (.ldc_w 261, 3) := by decide +kernel
theorem dX7_kindAt_16 : decode cX7_kindAt 16 = .ok (.invokespecial 251, 3) := by decide +kernel
theorem dX7_kindAt_19 : decode cX7_kindAt 19 = .ok (.athrow, 1) := by decide +kernel
theorem dX7_kindAt_20 : decode cX7_kindAt 20 = .ok (.aload_n 0, 1) := by decide +kernel
theorem dX7_kindAt_21 : decode cX7_kindAt 21 = .ok (.getfield 17, 3) := by decide +kernel
theorem dX7_kindAt_24 : decode cX7_kindAt 24 = .ok (.iload_n 1, 1) := by decide +kernel
theorem dX7_kindAt_25 : decode cX7_kindAt 25 = .ok (.aaload, 1) := by decide +kernel
theorem dX7_kindAt_26 : decode cX7_kindAt 26 = .ok (.areturn, 1) := by decide +kernel
theorem dX7_shopAt_0 : decode cX7_shopAt 0 = .ok (.iload_n 1, 1) := by decide +kernel
theorem dX7_shopAt_1 : decode cX7_shopAt 1 = .ok (.ifCond .lt 9, 3) := by decide +kernel
theorem dX7_shopAt_4 : decode cX7_shopAt 4 = .ok (.iload_n 1, 1) := by decide +kernel
theorem dX7_shopAt_5 : decode cX7_shopAt 5 = .ok (.bipush 8, 2) := by decide +kernel
theorem dX7_shopAt_7 : decode cX7_shopAt 7 = .ok (.if_icmp .lt 14, 3) := by decide +kernel
theorem dX7_shopAt_10 : decode cX7_shopAt 10 = .ok (.new 247, 3) := by decide +kernel
theorem dX7_shopAt_13 : decode cX7_shopAt 13 = .ok (.dup, 1) := by decide +kernel
theorem dX7_shopAt_14 : decode cX7_shopAt 14 = .ok (.ldc_w 263, 3) := by decide +kernel
theorem dX7_shopAt_17 : decode cX7_shopAt 17 = .ok (.invokespecial 251, 3) := by decide +kernel
theorem dX7_shopAt_20 : decode cX7_shopAt 20 = .ok (.athrow, 1) := by decide +kernel
theorem dX7_shopAt_21 : decode cX7_shopAt 21 = .ok (.aload_n 0, 1) := by decide +kernel
theorem dX7_shopAt_22 : decode cX7_shopAt 22 = .ok (.getfield 23, 3) := by decide +kernel
theorem dX7_shopAt_25 : decode cX7_shopAt 25 = .ok (.iload_n 1, 1) := by decide +kernel
theorem dX7_shopAt_26 : decode cX7_shopAt 26 = .ok (.aaload, 1) := by decide +kernel
theorem dX7_shopAt_27 : decode cX7_shopAt 27 = .ok (.areturn, 1) := by decide +kernel
theorem dX7_cardAt_0 : decode cX7_cardAt 0 = .ok (.iload_n 1, 1) := by decide +kernel
theorem dX7_cardAt_1 : decode cX7_cardAt 1 = .ok (.ifCond .lt 9, 3) := by decide +kernel
theorem dX7_cardAt_4 : decode cX7_cardAt 4 = .ok (.iload_n 1, 1) := by decide +kernel
theorem dX7_cardAt_5 : decode cX7_cardAt 5 = .ok (.bipush 12, 2) := by decide +kernel
theorem dX7_cardAt_7 : decode cX7_cardAt 7 = .ok (.if_icmp .lt 14, 3) := by decide +kernel
theorem dX7_cardAt_10 : decode cX7_cardAt 10 = .ok (.new 247, 3) := by decide +kernel
theorem dX7_cardAt_13 : decode cX7_cardAt 13 = .ok (.dup, 1) := by decide +kernel
theorem dX7_cardAt_14 : decode cX7_cardAt 14 = .ok (.ldc_w 265, 3) := by decide +kernel
theorem dX7_cardAt_17 : decode cX7_cardAt 17 = .ok (.invokespecial 251, 3) := by decide +kernel
theorem dX7_cardAt_20 : decode cX7_cardAt 20 = .ok (.athrow, 1) := by decide +kernel
theorem dX7_cardAt_21 : decode cX7_cardAt 21 = .ok (.aload_n 0, 1) := by decide +kernel
theorem dX7_cardAt_22 : decode cX7_cardAt 22 = .ok (.getfield 29, 3) := by decide +kernel
theorem dX7_cardAt_25 : decode cX7_cardAt 25 = .ok (.iload_n 1, 1) := by decide +kernel
theorem dX7_cardAt_26 : decode cX7_cardAt 26 = .ok (.aaload, 1) := by decide +kernel
theorem dX7_cardAt_27 : decode cX7_cardAt 27 = .ok (.areturn, 1) := by decide +kernel
set_option maxRecDepth 20000 in
theorem ggX7_paymentAt_Jx4a65c_size_8abf5 : GoodIn wsX7_paymentAt wsJx4a65c_size_8abf5 := goodIn_r _ [9, 10, 36, 37, 38] (by decide +kernel) (by decide +kernel)
set_option maxRecDepth 20000 in
theorem gX7_paymentAt_Jx4a65c_size_8abf5_f94Jx4a65c : GoodIn wsX7_paymentAt (va_wsF RX7 94 RJx4a65c ⟨"java/util/List", "size", "()I"⟩ yJx4a65c_size_8abf5 wsJx4a65c_size_8abf5) := goodIn_app (goodIn_of _ (by decide +kernel)) ggX7_paymentAt_Jx4a65c_size_8abf5
set_option maxRecDepth 20000 in
theorem ggX7_paymentAt_Jx4a65c_get_915e3 : GoodIn wsX7_paymentAt wsJx4a65c_get_915e3 := goodIn_r _ [14, 10, 15, 16, 17, 18, 19, 20, 21, 22, 23, 24, 25, 8, 26, 27, 36, 37, 38] (by decide +kernel) (by decide +kernel)
set_option maxRecDepth 20000 in
theorem gX7_paymentAt_Jx4a65c_get_915e3_f235Jx4a65c : GoodIn wsX7_paymentAt (va_wsF RX7 235 RJx4a65c ⟨"java/util/List", "get", "(I)Ljava/lang/Object;"⟩ yJx4a65c_get_915e3 wsJx4a65c_get_915e3) := goodIn_app (goodIn_of _ (by decide +kernel)) ggX7_paymentAt_Jx4a65c_get_915e3
theorem dX7_paymentAt_0 : decode cX7_paymentAt 0 = .ok (.iload_n 1, 1) := by decide +kernel
theorem dX7_paymentAt_1 : decode cX7_paymentAt 1 = .ok (.ifCond .lt 16, 3) := by decide +kernel
theorem dX7_paymentAt_4 : decode cX7_paymentAt 4 = .ok (.iload_n 1, 1) := by decide +kernel
theorem dX7_paymentAt_5 : decode cX7_paymentAt 5 = .ok (.aload_n 0, 1) := by decide +kernel
theorem dX7_paymentAt_6 : decode cX7_paymentAt 6 = .ok (.getfield 36, 3) := by decide +kernel
theorem dX7_paymentAt_9 : decode cX7_paymentAt 9 = .ok (.invokeinterface 94 1, 5) := by decide +kernel
theorem dX7_paymentAt_14 : decode cX7_paymentAt 14 = .ok (.if_icmp .lt 14, 3) := by decide +kernel
theorem dX7_paymentAt_17 : decode cX7_paymentAt 17 = .ok (.new 247, 3) := by decide +kernel
theorem dX7_paymentAt_20 : decode cX7_paymentAt 20 = .ok (.dup, 1) := by decide +kernel
theorem dX7_paymentAt_21 : decode cX7_paymentAt 21 = .ok (.ldc_w 267, 3) := by decide +kernel
theorem dX7_paymentAt_24 : decode cX7_paymentAt 24 = .ok (.invokespecial 251, 3) := by decide +kernel
theorem dX7_paymentAt_27 : decode cX7_paymentAt 27 = .ok (.athrow, 1) := by decide +kernel
theorem dX7_paymentAt_28 : decode cX7_paymentAt 28 = .ok (.aload_n 0, 1) := by decide +kernel
theorem dX7_paymentAt_29 : decode cX7_paymentAt 29 = .ok (.getfield 36, 3) := by decide +kernel
theorem dX7_paymentAt_32 : decode cX7_paymentAt 32 = .ok (.iload_n 1, 1) := by decide +kernel
theorem dX7_paymentAt_33 : decode cX7_paymentAt 33 = .ok (.invokeinterface 235 2, 5) := by decide +kernel
theorem dX7_paymentAt_38 : decode cX7_paymentAt 38 = .ok (.checkcast 108, 3) := by decide +kernel
theorem dX7_paymentAt_41 : decode cX7_paymentAt 41 = .ok (.areturn, 1) := by decide +kernel
set_option maxRecDepth 20000 in
theorem ggX7_captureAt_Jx4a65c_size_8abf5 : GoodIn wsX7_captureAt wsJx4a65c_size_8abf5 := goodIn_r _ [9, 10, 36, 37, 38] (by decide +kernel) (by decide +kernel)
set_option maxRecDepth 20000 in
theorem gX7_captureAt_Jx4a65c_size_8abf5_f94Jx4a65c : GoodIn wsX7_captureAt (va_wsF RX7 94 RJx4a65c ⟨"java/util/List", "size", "()I"⟩ yJx4a65c_size_8abf5 wsJx4a65c_size_8abf5) := goodIn_app (goodIn_of _ (by decide +kernel)) ggX7_captureAt_Jx4a65c_size_8abf5
set_option maxRecDepth 20000 in
theorem ggX7_captureAt_Jx4a65c_get_915e3 : GoodIn wsX7_captureAt wsJx4a65c_get_915e3 := goodIn_r _ [14, 10, 15, 16, 17, 18, 19, 20, 21, 22, 23, 24, 25, 8, 26, 27, 36, 37, 38] (by decide +kernel) (by decide +kernel)
set_option maxRecDepth 20000 in
theorem gX7_captureAt_Jx4a65c_get_915e3_f235Jx4a65c : GoodIn wsX7_captureAt (va_wsF RX7 235 RJx4a65c ⟨"java/util/List", "get", "(I)Ljava/lang/Object;"⟩ yJx4a65c_get_915e3 wsJx4a65c_get_915e3) := goodIn_app (goodIn_of _ (by decide +kernel)) ggX7_captureAt_Jx4a65c_get_915e3
theorem dX7_captureAt_0 : decode cX7_captureAt 0 = .ok (.iload_n 1, 1) := by decide +kernel
theorem dX7_captureAt_1 : decode cX7_captureAt 1 = .ok (.ifCond .lt 16, 3) := by decide +kernel
theorem dX7_captureAt_4 : decode cX7_captureAt 4 = .ok (.iload_n 1, 1) := by decide +kernel
theorem dX7_captureAt_5 : decode cX7_captureAt 5 = .ok (.aload_n 0, 1) := by decide +kernel
theorem dX7_captureAt_6 : decode cX7_captureAt 6 = .ok (.getfield 40, 3) := by decide +kernel
theorem dX7_captureAt_9 : decode cX7_captureAt 9 = .ok (.invokeinterface 94 1, 5) := by decide +kernel
theorem dX7_captureAt_14 : decode cX7_captureAt 14 = .ok (.if_icmp .lt 14, 3) := by decide +kernel
theorem dX7_captureAt_17 : decode cX7_captureAt 17 = .ok (.new 247, 3) := by decide +kernel
theorem dX7_captureAt_20 : decode cX7_captureAt 20 = .ok (.dup, 1) := by decide +kernel
theorem dX7_captureAt_21 : decode cX7_captureAt 21 = .ok (.ldc_w 269, 3) := by decide +kernel
theorem dX7_captureAt_24 : decode cX7_captureAt 24 = .ok (.invokespecial 251, 3) := by decide +kernel
theorem dX7_captureAt_27 : decode cX7_captureAt 27 = .ok (.athrow, 1) := by decide +kernel
theorem dX7_captureAt_28 : decode cX7_captureAt 28 = .ok (.aload_n 0, 1) := by decide +kernel
theorem dX7_captureAt_29 : decode cX7_captureAt 29 = .ok (.getfield 40, 3) := by decide +kernel
theorem dX7_captureAt_32 : decode cX7_captureAt 32 = .ok (.iload_n 1, 1) := by decide +kernel
theorem dX7_captureAt_33 : decode cX7_captureAt 33 = .ok (.invokeinterface 235 2, 5) := by decide +kernel
theorem dX7_captureAt_38 : decode cX7_captureAt 38 = .ok (.checkcast 129, 3) := by decide +kernel
theorem dX7_captureAt_41 : decode cX7_captureAt 41 = .ok (.areturn, 1) := by decide +kernel
set_option maxRecDepth 20000 in
theorem ggX7_chargebackAt_Jx4a65c_size_8abf5 : GoodIn wsX7_chargebackAt wsJx4a65c_size_8abf5 := goodIn_r _ [9, 10, 36, 37, 38] (by decide +kernel) (by decide +kernel)
set_option maxRecDepth 20000 in
theorem gX7_chargebackAt_Jx4a65c_size_8abf5_f94Jx4a65c : GoodIn wsX7_chargebackAt (va_wsF RX7 94 RJx4a65c ⟨"java/util/List", "size", "()I"⟩ yJx4a65c_size_8abf5 wsJx4a65c_size_8abf5) := goodIn_app (goodIn_of _ (by decide +kernel)) ggX7_chargebackAt_Jx4a65c_size_8abf5
set_option maxRecDepth 20000 in
theorem ggX7_chargebackAt_Jx4a65c_get_915e3 : GoodIn wsX7_chargebackAt wsJx4a65c_get_915e3 := goodIn_r _ [14, 10, 15, 16, 17, 18, 19, 20, 21, 22, 23, 24, 25, 8, 26, 27, 36, 37, 38] (by decide +kernel) (by decide +kernel)
set_option maxRecDepth 20000 in
theorem gX7_chargebackAt_Jx4a65c_get_915e3_f235Jx4a65c : GoodIn wsX7_chargebackAt (va_wsF RX7 235 RJx4a65c ⟨"java/util/List", "get", "(I)Ljava/lang/Object;"⟩ yJx4a65c_get_915e3 wsJx4a65c_get_915e3) := goodIn_app (goodIn_of _ (by decide +kernel)) ggX7_chargebackAt_Jx4a65c_get_915e3
theorem dX7_chargebackAt_0 : decode cX7_chargebackAt 0 = .ok (.iload_n 1, 1) := by decide +kernel
theorem dX7_chargebackAt_1 : decode cX7_chargebackAt 1 = .ok (.ifCond .lt 16, 3) := by decide +kernel
theorem dX7_chargebackAt_4 : decode cX7_chargebackAt 4 = .ok (.iload_n 1, 1) := by decide +kernel
theorem dX7_chargebackAt_5 : decode cX7_chargebackAt 5 = .ok (.aload_n 0, 1) := by decide +kernel
theorem dX7_chargebackAt_6 : decode cX7_chargebackAt 6 = .ok (.getfield 43, 3) := by decide +kernel
theorem dX7_chargebackAt_9 : decode cX7_chargebackAt 9 = .ok (.invokeinterface 94 1, 5) := by decide +kernel
theorem dX7_chargebackAt_14 : decode cX7_chargebackAt 14 = .ok (.if_icmp .lt 14, 3) := by decide +kernel
theorem dX7_chargebackAt_17 : decode cX7_chargebackAt 17 = .ok (.new 247, 3) := by decide +kernel
theorem dX7_chargebackAt_20 : decode cX7_chargebackAt 20 = .ok (.dup, 1) := by decide +kernel
theorem dX7_chargebackAt_21 : decode cX7_chargebackAt 21 = .ok (.ldc_w 271, 3) := by decide +kernel
theorem dX7_chargebackAt_24 : decode cX7_chargebackAt 24 = .ok (.invokespecial 251, 3) := by decide +kernel
theorem dX7_chargebackAt_27 : decode cX7_chargebackAt 27 = .ok (.athrow, 1) := by decide +kernel
theorem dX7_chargebackAt_28 : decode cX7_chargebackAt 28 = .ok (.aload_n 0, 1) := by decide +kernel
theorem dX7_chargebackAt_29 : decode cX7_chargebackAt 29 = .ok (.getfield 43, 3) := by decide +kernel
theorem dX7_chargebackAt_32 : decode cX7_chargebackAt 32 = .ok (.iload_n 1, 1) := by decide +kernel
theorem dX7_chargebackAt_33 : decode cX7_chargebackAt 33 = .ok (.invokeinterface 235 2, 5) := by decide +kernel
theorem dX7_chargebackAt_38 : decode cX7_chargebackAt 38 = .ok (.checkcast 174, 3) := by decide +kernel
theorem dX7_chargebackAt_41 : decode cX7_chargebackAt 41 = .ok (.areturn, 1) := by decide +kernel
theorem dX7_requireRange_0 : decode cX7_requireRange 0 = .ok (.iload_n 0, 1) := by decide +kernel
theorem dX7_requireRange_1 : decode cX7_requireRange 1 = .ok (.iload_n 1, 1) := by decide +kernel
theorem dX7_requireRange_2 : decode cX7_requireRange 2 = .ok (.if_icmp .lt 8, 3) := by decide +kernel
theorem dX7_requireRange_5 : decode cX7_requireRange 5 = .ok (.iload_n 0, 1) := by decide +kernel
theorem dX7_requireRange_6 : decode cX7_requireRange 6 = .ok (.iload_n 2, 1) := by decide +kernel
theorem dX7_requireRange_7 : decode cX7_requireRange 7 = .ok (.if_icmp .le 14, 3) := by decide +kernel
theorem dX7_requireRange_10 : decode cX7_requireRange 10 = .ok (.new 213, 3) := by decide +kernel
theorem dX7_requireRange_13 : decode cX7_requireRange 13 = .ok (.dup, 1) := by decide +kernel
theorem dX7_requireRange_14 : decode cX7_requireRange 14 = .ok (.ldc_w 273, 3) := by decide +kernel
theorem dX7_requireRange_17 : decode cX7_requireRange 17 = .ok (.invokespecial 217, 3) := by decide +kernel
theorem dX7_requireRange_20 : decode cX7_requireRange 20 = .ok (.athrow, 1) := by decide +kernel
theorem dX7_requireRange_21 : decode cX7_requireRange 21 = .ok (.return_, 1) := by decide +kernel
theorem dX7_requirePossible_0 : decode cX7_requirePossible 0 = .ok (.iload_n 0, 1) := by decide +kernel
theorem dX7_requirePossible_1 : decode cX7_requirePossible 1 = .ok (.ifCond .ne 14, 3) := by decide +kernel
theorem dX7_requirePossible_4 : decode cX7_requirePossible 4 = .ok (.new 275, 3) := by decide +kernel
theorem dX7_requirePossible_7 : decode cX7_requirePossible 7 = .ok (.dup, 1) := by decide +kernel
theorem dX7_requirePossible_8 : decode cX7_requirePossible 8 = .ok (.ldc_w 277, 3) := by decide +kernel
theorem dX7_requirePossible_11 : decode cX7_requirePossible 11 = .ok (.invokespecial 279, 3) := by decide +kernel
theorem dX7_requirePossible_14 : decode cX7_requirePossible 14 = .ok (.athrow, 1) := by decide +kernel
theorem dX7_requirePossible_15 : decode cX7_requirePossible 15 = .ok (.return_, 1) := by decide +kernel
set_option maxRecDepth 20000 in
theorem ggX7_limitOf_Jx4a65c_size_8abf5 : GoodIn wsX7_limitOf wsJx4a65c_size_8abf5 := goodIn_r _ [14, 15, 53, 54, 55] (by decide +kernel) (by decide +kernel)
set_option maxRecDepth 20000 in
theorem gX7_limitOf_Jx4a65c_size_8abf5_f94Jx4a65c : GoodIn wsX7_limitOf (va_wsF RX7 94 RJx4a65c ⟨"java/util/List", "size", "()I"⟩ yJx4a65c_size_8abf5 wsJx4a65c_size_8abf5) := goodIn_app (goodIn_of _ (by decide +kernel)) ggX7_limitOf_Jx4a65c_size_8abf5
set_option maxRecDepth 20000 in
theorem ggX7_limitOf_Jx4a65c_get_915e3 : GoodIn wsX7_limitOf wsJx4a65c_get_915e3 := goodIn_r _ [19, 15, 20, 21, 22, 23, 24, 25, 26, 27, 28, 29, 30, 13, 31, 32, 53, 54, 55] (by decide +kernel) (by decide +kernel)
set_option maxRecDepth 20000 in
theorem gX7_limitOf_Jx4a65c_get_915e3_f235Jx4a65c : GoodIn wsX7_limitOf (va_wsF RX7 235 RJx4a65c ⟨"java/util/List", "get", "(I)Ljava/lang/Object;"⟩ yJx4a65c_get_915e3 wsJx4a65c_get_915e3) := goodIn_app (goodIn_of _ (by decide +kernel)) ggX7_limitOf_Jx4a65c_get_915e3
theorem dX7_limitOf_0 : decode cX7_limitOf 0 = .ok (.iconst 0, 1) := by decide +kernel
theorem dX7_limitOf_1 : decode cX7_limitOf 1 = .ok (.istore_n 2, 1) := by decide +kernel
theorem dX7_limitOf_2 : decode cX7_limitOf 2 = .ok (.iconst 0, 1) := by decide +kernel
theorem dX7_limitOf_3 : decode cX7_limitOf 3 = .ok (.istore_n 3, 1) := by decide +kernel
theorem dX7_limitOf_4 : decode cX7_limitOf 4 = .ok (.aload_n 0, 1) := by decide +kernel
theorem dX7_limitOf_5 : decode cX7_limitOf 5 = .ok (.getfield 40, 3) := by decide +kernel
theorem dX7_limitOf_8 : decode cX7_limitOf 8 = .ok (.invokeinterface 94 1, 5) := by decide +kernel
theorem dX7_limitOf_13 : decode cX7_limitOf 13 = .ok (.iconst 1, 1) := by decide +kernel
theorem dX7_limitOf_14 : decode cX7_limitOf 14 = .ok (.isub, 1) := by decide +kernel
theorem dX7_limitOf_15 : decode cX7_limitOf 15 = .ok (.istore 4, 2) := by decide +kernel
theorem dX7_limitOf_17 : decode cX7_limitOf 17 = .ok (.iload 4, 2) := by decide +kernel
theorem dX7_limitOf_19 : decode cX7_limitOf 19 = .ok (.ifCond .lt 53, 3) := by decide +kernel
theorem dX7_limitOf_22 : decode cX7_limitOf 22 = .ok (.iload_n 3, 1) := by decide +kernel
theorem dX7_limitOf_23 : decode cX7_limitOf 23 = .ok (.iconst 5, 1) := by decide +kernel
theorem dX7_limitOf_24 : decode cX7_limitOf 24 = .ok (.if_icmp .ge 48, 3) := by decide +kernel
theorem dX7_limitOf_27 : decode cX7_limitOf 27 = .ok (.aload_n 0, 1) := by decide +kernel
theorem dX7_limitOf_28 : decode cX7_limitOf 28 = .ok (.getfield 40, 3) := by decide +kernel
theorem dX7_limitOf_31 : decode cX7_limitOf 31 = .ok (.iload 4, 2) := by decide +kernel
theorem dX7_limitOf_33 : decode cX7_limitOf 33 = .ok (.invokeinterface 235 2, 5) := by decide +kernel
theorem dX7_limitOf_38 : decode cX7_limitOf 38 = .ok (.checkcast 129, 3) := by decide +kernel
theorem dX7_limitOf_41 : decode cX7_limitOf 41 = .ok (.astore 5, 2) := by decide +kernel
theorem dX7_limitOf_43 : decode cX7_limitOf 43 = .ok (.aload 5, 2) := by decide +kernel
theorem dX7_limitOf_45 : decode cX7_limitOf 45 = .ok (.getfield 220, 3) := by decide +kernel
theorem dX7_limitOf_48 : decode cX7_limitOf 48 = .ok (.getfield 205, 3) := by decide +kernel
theorem dX7_limitOf_51 : decode cX7_limitOf 51 = .ok (.aload_n 1, 1) := by decide +kernel
theorem dX7_limitOf_52 : decode cX7_limitOf 52 = .ok (.if_acmp .ne 14, 3) := by decide +kernel
theorem dX7_limitOf_55 : decode cX7_limitOf 55 = .ok (.iload_n 2, 1) := by decide +kernel
theorem dX7_limitOf_56 : decode cX7_limitOf 56 = .ok (.aload 5, 2) := by decide +kernel
theorem dX7_limitOf_58 : decode cX7_limitOf 58 = .ok (.getfield 148, 3) := by decide +kernel
theorem dX7_limitOf_61 : decode cX7_limitOf 61 = .ok (.iadd, 1) := by decide +kernel
theorem dX7_limitOf_62 : decode cX7_limitOf 62 = .ok (.istore_n 2, 1) := by decide +kernel
theorem dX7_limitOf_63 : decode cX7_limitOf 63 = .ok (.iinc 3 1, 3) := by decide +kernel
theorem dX7_limitOf_66 : decode cX7_limitOf 66 = .ok (.iinc 4 (-1), 3) := by decide +kernel
theorem dX7_limitOf_69 : decode cX7_limitOf 69 = .ok (.goto (-52), 3) := by decide +kernel
theorem dX7_limitOf_72 : decode cX7_limitOf 72 = .ok (.iload_n 3, 1) := by decide +kernel
theorem dX7_limitOf_73 : decode cX7_limitOf 73 = .ok (.ifCond .ne 7, 3) := by decide +kernel
theorem dX7_limitOf_76 : decode cX7_limitOf 76 = .ok (.sipush 10000, 3) := by decide +kernel
theorem dX7_limitOf_79 : decode cX7_limitOf 79 = .ok (.ireturn, 1) := by decide +kernel
theorem dX7_limitOf_80 : decode cX7_limitOf 80 = .ok (.sipush 500, 3) := by decide +kernel
theorem dX7_limitOf_83 : decode cX7_limitOf 83 = .ok (.iconst 3, 1) := by decide +kernel
theorem dX7_limitOf_84 : decode cX7_limitOf 84 = .ok (.iload_n 2, 1) := by decide +kernel
theorem dX7_limitOf_85 : decode cX7_limitOf 85 = .ok (.imul, 1) := by decide +kernel
theorem dX7_limitOf_86 : decode cX7_limitOf 86 = .ok (.iload_n 3, 1) := by decide +kernel
theorem dX7_limitOf_87 : decode cX7_limitOf 87 = .ok (.idiv, 1) := by decide +kernel
theorem dX7_limitOf_88 : decode cX7_limitOf 88 = .ok (.invokestatic 280, 3) := by decide +kernel
theorem dX7_limitOf_91 : decode cX7_limitOf 91 = .ok (.ireturn, 1) := by decide +kernel
set_option maxRecDepth 20000 in
theorem ggX7_givenBackOf_Jx4a65c_size_8abf5 : GoodIn wsX7_givenBackOf wsJx4a65c_size_8abf5 := goodIn_r _ [11, 12, 48, 49, 50] (by decide +kernel) (by decide +kernel)
set_option maxRecDepth 20000 in
theorem gX7_givenBackOf_Jx4a65c_size_8abf5_f94Jx4a65c : GoodIn wsX7_givenBackOf (va_wsF RX7 94 RJx4a65c ⟨"java/util/List", "size", "()I"⟩ yJx4a65c_size_8abf5 wsJx4a65c_size_8abf5) := goodIn_app (goodIn_of _ (by decide +kernel)) ggX7_givenBackOf_Jx4a65c_size_8abf5
set_option maxRecDepth 20000 in
theorem ggX7_givenBackOf_Jx4a65c_get_915e3 : GoodIn wsX7_givenBackOf wsJx4a65c_get_915e3 := goodIn_r _ [16, 12, 17, 18, 19, 20, 21, 22, 23, 24, 25, 26, 27, 10, 28, 29, 48, 49, 50] (by decide +kernel) (by decide +kernel)
set_option maxRecDepth 20000 in
theorem gX7_givenBackOf_Jx4a65c_get_915e3_f235Jx4a65c : GoodIn wsX7_givenBackOf (va_wsF RX7 235 RJx4a65c ⟨"java/util/List", "get", "(I)Ljava/lang/Object;"⟩ yJx4a65c_get_915e3 wsJx4a65c_get_915e3) := goodIn_app (goodIn_of _ (by decide +kernel)) ggX7_givenBackOf_Jx4a65c_get_915e3
theorem dX7_givenBackOf_0 : decode cX7_givenBackOf 0 = .ok (.aload_n 1, 1) := by decide +kernel
theorem dX7_givenBackOf_1 : decode cX7_givenBackOf 1 = .ok (.getfield 171, 3) := by decide +kernel
theorem dX7_givenBackOf_4 : decode cX7_givenBackOf 4 = .ok (.istore_n 2, 1) := by decide +kernel
theorem dX7_givenBackOf_5 : decode cX7_givenBackOf 5 = .ok (.iconst 0, 1) := by decide +kernel
theorem dX7_givenBackOf_6 : decode cX7_givenBackOf 6 = .ok (.istore_n 3, 1) := by decide +kernel
theorem dX7_givenBackOf_7 : decode cX7_givenBackOf 7 = .ok (.iload_n 3, 1) := by decide +kernel
theorem dX7_givenBackOf_8 : decode cX7_givenBackOf 8 = .ok (.aload_n 0, 1) := by decide +kernel
theorem dX7_givenBackOf_9 : decode cX7_givenBackOf 9 = .ok (.getfield 43, 3) := by decide +kernel
theorem dX7_givenBackOf_12 : decode cX7_givenBackOf 12 = .ok (.invokeinterface 94 1, 5) := by decide +kernel
theorem dX7_givenBackOf_17 : decode cX7_givenBackOf 17 = .ok (.if_icmp .ge 50, 3) := by decide +kernel
theorem dX7_givenBackOf_20 : decode cX7_givenBackOf 20 = .ok (.aload_n 0, 1) := by decide +kernel
theorem dX7_givenBackOf_21 : decode cX7_givenBackOf 21 = .ok (.getfield 43, 3) := by decide +kernel
theorem dX7_givenBackOf_24 : decode cX7_givenBackOf 24 = .ok (.iload_n 3, 1) := by decide +kernel
theorem dX7_givenBackOf_25 : decode cX7_givenBackOf 25 = .ok (.invokeinterface 235 2, 5) := by decide +kernel
theorem dX7_givenBackOf_30 : decode cX7_givenBackOf 30 = .ok (.checkcast 174, 3) := by decide +kernel
theorem dX7_givenBackOf_33 : decode cX7_givenBackOf 33 = .ok (.astore 4, 2) := by decide +kernel
theorem dX7_givenBackOf_35 : decode cX7_givenBackOf 35 = .ok (.aload 4, 2) := by decide +kernel
theorem dX7_givenBackOf_37 : decode cX7_givenBackOf 37 = .ok (.getfield 194, 3) := by decide +kernel
theorem dX7_givenBackOf_40 : decode cX7_givenBackOf 40 = .ok (.aload_n 1, 1) := by decide +kernel
theorem dX7_givenBackOf_41 : decode cX7_givenBackOf 41 = .ok (.if_acmp .ne 20, 3) := by decide +kernel
theorem dX7_givenBackOf_44 : decode cX7_givenBackOf 44 = .ok (.aload 4, 2) := by decide +kernel
theorem dX7_givenBackOf_46 : decode cX7_givenBackOf 46 = .ok (.getfield 184, 3) := by decide +kernel
theorem dX7_givenBackOf_49 : decode cX7_givenBackOf 49 = .ok (.iconst 4, 1) := by decide +kernel
theorem dX7_givenBackOf_50 : decode cX7_givenBackOf 50 = .ok (.if_icmp .eq 11, 3) := by decide +kernel
theorem dX7_givenBackOf_53 : decode cX7_givenBackOf 53 = .ok (.iload_n 2, 1) := by decide +kernel
theorem dX7_givenBackOf_54 : decode cX7_givenBackOf 54 = .ok (.aload 4, 2) := by decide +kernel
theorem dX7_givenBackOf_56 : decode cX7_givenBackOf 56 = .ok (.getfield 198, 3) := by decide +kernel
theorem dX7_givenBackOf_59 : decode cX7_givenBackOf 59 = .ok (.iadd, 1) := by decide +kernel
theorem dX7_givenBackOf_60 : decode cX7_givenBackOf 60 = .ok (.istore_n 2, 1) := by decide +kernel
theorem dX7_givenBackOf_61 : decode cX7_givenBackOf 61 = .ok (.iinc 3 1, 3) := by decide +kernel
theorem dX7_givenBackOf_64 : decode cX7_givenBackOf 64 = .ok (.goto (-57), 3) := by decide +kernel
theorem dX7_givenBackOf_67 : decode cX7_givenBackOf 67 = .ok (.iload_n 2, 1) := by decide +kernel
theorem dX7_givenBackOf_68 : decode cX7_givenBackOf 68 = .ok (.ireturn, 1) := by decide +kernel
set_option maxRecDepth 20000 in
theorem ggX7_payBackToShop_X1_cardBank : GoodIn wsX7_payBackToShop wsX1_cardBank := goodIn_r _ [7, 8, 9, 10, 33, 34, 35, 36, 37, 38, 39, 40, 41, 42, 43, 44, 45, 46] (by decide +kernel) (by decide +kernel)
set_option maxRecDepth 20000 in
theorem gX7_payBackToShop_X1_cardBank : GoodIn wsX7_payBackToShop (wsV RX7 141 RX1 yX1_cardBank wsX1_cardBank) := goodIn_app (goodIn_of _ (by decide +kernel)) ggX7_payBackToShop_X1_cardBank
set_option maxRecDepth 20000 in
theorem ggX7_payBackToShop_X1_shopBank : GoodIn wsX7_payBackToShop wsX1_shopBank := goodIn_r _ [14, 8, 15, 16, 33, 34, 35, 36, 37, 38, 39, 40, 41, 42, 43, 44, 47, 48, 49] (by decide +kernel) (by decide +kernel)
set_option maxRecDepth 20000 in
theorem gX7_payBackToShop_X1_shopBank : GoodIn wsX7_payBackToShop (wsV RX7 145 RX1 yX1_shopBank wsX1_shopBank) := goodIn_app (goodIn_of _ (by decide +kernel)) ggX7_payBackToShop_X1_shopBank
set_option maxRecDepth 20000 in
theorem ggX7_payBackToShop_X0_pay : GoodIn wsX7_payBackToShop wsX0_pay := goodIn_r _ [21, 22, 23, 24, 20, 25, 26, 27, 50, 51] (by decide +kernel) (by decide +kernel)
set_option maxRecDepth 20000 in
theorem gX7_payBackToShop_X0_pay : GoodIn wsX7_payBackToShop (wsV RX7 154 RX0 yX0_pay wsX0_pay) := goodIn_app (goodIn_of _ (by decide +kernel)) ggX7_payBackToShop_X0_pay
theorem dX7_payBackToShop_0 : decode cX7_payBackToShop 0 = .ok (.aload_n 0, 1) := by decide +kernel
theorem dX7_payBackToShop_1 : decode cX7_payBackToShop 1 = .ok (.getfield 194, 3) := by decide +kernel
theorem dX7_payBackToShop_4 : decode cX7_payBackToShop 4 = .ok (.invokevirtual 141, 3) := by decide +kernel
theorem dX7_payBackToShop_7 : decode cX7_payBackToShop 7 = .ok (.aload_n 0, 1) := by decide +kernel
theorem dX7_payBackToShop_8 : decode cX7_payBackToShop 8 = .ok (.getfield 194, 3) := by decide +kernel
theorem dX7_payBackToShop_11 : decode cX7_payBackToShop 11 = .ok (.invokevirtual 145, 3) := by decide +kernel
theorem dX7_payBackToShop_14 : decode cX7_payBackToShop 14 = .ok (.aload_n 0, 1) := by decide +kernel
theorem dX7_payBackToShop_15 : decode cX7_payBackToShop 15 = .ok (.getfield 198, 3) := by decide +kernel
theorem dX7_payBackToShop_18 : decode cX7_payBackToShop 18 = .ok (.invokevirtual 154, 3) := by decide +kernel
theorem dX7_payBackToShop_21 : decode cX7_payBackToShop 21 = .ok (.return_, 1) := by decide +kernel
set_option maxRecDepth 20000 in
theorem ggX7_countPressed_Jx4a65c_size_8abf5 : GoodIn wsX7_countPressed wsJx4a65c_size_8abf5 := goodIn_r _ [8, 9, 40, 41, 42] (by decide +kernel) (by decide +kernel)
set_option maxRecDepth 20000 in
theorem gX7_countPressed_Jx4a65c_size_8abf5_f94Jx4a65c : GoodIn wsX7_countPressed (va_wsF RX7 94 RJx4a65c ⟨"java/util/List", "size", "()I"⟩ yJx4a65c_size_8abf5 wsJx4a65c_size_8abf5) := goodIn_app (goodIn_of _ (by decide +kernel)) ggX7_countPressed_Jx4a65c_size_8abf5
set_option maxRecDepth 20000 in
theorem ggX7_countPressed_Jx4a65c_get_915e3 : GoodIn wsX7_countPressed wsJx4a65c_get_915e3 := goodIn_r _ [13, 9, 14, 15, 16, 17, 18, 19, 20, 21, 22, 23, 24, 7, 25, 26, 40, 41, 42] (by decide +kernel) (by decide +kernel)
set_option maxRecDepth 20000 in
theorem gX7_countPressed_Jx4a65c_get_915e3_f235Jx4a65c : GoodIn wsX7_countPressed (va_wsF RX7 235 RJx4a65c ⟨"java/util/List", "get", "(I)Ljava/lang/Object;"⟩ yJx4a65c_get_915e3 wsJx4a65c_get_915e3) := goodIn_app (goodIn_of _ (by decide +kernel)) ggX7_countPressed_Jx4a65c_get_915e3
theorem dX7_countPressed_0 : decode cX7_countPressed 0 = .ok (.iconst 0, 1) := by decide +kernel
theorem dX7_countPressed_1 : decode cX7_countPressed 1 = .ok (.istore_n 1, 1) := by decide +kernel
theorem dX7_countPressed_2 : decode cX7_countPressed 2 = .ok (.iconst 0, 1) := by decide +kernel
theorem dX7_countPressed_3 : decode cX7_countPressed 3 = .ok (.istore_n 2, 1) := by decide +kernel
theorem dX7_countPressed_4 : decode cX7_countPressed 4 = .ok (.iload_n 2, 1) := by decide +kernel
theorem dX7_countPressed_5 : decode cX7_countPressed 5 = .ok (.aload_n 0, 1) := by decide +kernel
theorem dX7_countPressed_6 : decode cX7_countPressed 6 = .ok (.getfield 43, 3) := by decide +kernel
theorem dX7_countPressed_9 : decode cX7_countPressed 9 = .ok (.invokeinterface 94 1, 5) := by decide +kernel
theorem dX7_countPressed_14 : decode cX7_countPressed 14 = .ok (.if_icmp .ge 32, 3) := by decide +kernel
theorem dX7_countPressed_17 : decode cX7_countPressed 17 = .ok (.aload_n 0, 1) := by decide +kernel
theorem dX7_countPressed_18 : decode cX7_countPressed 18 = .ok (.getfield 43, 3) := by decide +kernel
theorem dX7_countPressed_21 : decode cX7_countPressed 21 = .ok (.iload_n 2, 1) := by decide +kernel
theorem dX7_countPressed_22 : decode cX7_countPressed 22 = .ok (.invokeinterface 235 2, 5) := by decide +kernel
theorem dX7_countPressed_27 : decode cX7_countPressed 27 = .ok (.checkcast 174, 3) := by decide +kernel
theorem dX7_countPressed_30 : decode cX7_countPressed 30 = .ok (.getfield 184, 3) := by decide +kernel
theorem dX7_countPressed_33 : decode cX7_countPressed 33 = .ok (.iconst 2, 1) := by decide +kernel
theorem dX7_countPressed_34 : decode cX7_countPressed 34 = .ok (.if_icmp .ne 6, 3) := by decide +kernel
theorem dX7_countPressed_37 : decode cX7_countPressed 37 = .ok (.iinc 1 1, 3) := by decide +kernel
theorem dX7_countPressed_40 : decode cX7_countPressed 40 = .ok (.iinc 2 1, 3) := by decide +kernel
theorem dX7_countPressed_43 : decode cX7_countPressed 43 = .ok (.goto (-39), 3) := by decide +kernel
theorem dX7_countPressed_46 : decode cX7_countPressed 46 = .ok (.iload_n 1, 1) := by decide +kernel
theorem dX7_countPressed_47 : decode cX7_countPressed 47 = .ok (.ireturn, 1) := by decide +kernel
set_option maxRecDepth 20000 in
theorem ggX7_sumOfFees_Jx4a65c_size_8abf5 : GoodIn wsX7_sumOfFees wsJx4a65c_size_8abf5 := goodIn_r _ [8, 9, 40, 41, 42] (by decide +kernel) (by decide +kernel)
set_option maxRecDepth 20000 in
theorem gX7_sumOfFees_Jx4a65c_size_8abf5_f94Jx4a65c : GoodIn wsX7_sumOfFees (va_wsF RX7 94 RJx4a65c ⟨"java/util/List", "size", "()I"⟩ yJx4a65c_size_8abf5 wsJx4a65c_size_8abf5) := goodIn_app (goodIn_of _ (by decide +kernel)) ggX7_sumOfFees_Jx4a65c_size_8abf5
set_option maxRecDepth 20000 in
theorem ggX7_sumOfFees_Jx4a65c_get_915e3 : GoodIn wsX7_sumOfFees wsJx4a65c_get_915e3 := goodIn_r _ [13, 9, 14, 15, 16, 17, 18, 19, 20, 21, 22, 23, 24, 7, 25, 26, 40, 41, 42] (by decide +kernel) (by decide +kernel)
set_option maxRecDepth 20000 in
theorem gX7_sumOfFees_Jx4a65c_get_915e3_f235Jx4a65c : GoodIn wsX7_sumOfFees (va_wsF RX7 235 RJx4a65c ⟨"java/util/List", "get", "(I)Ljava/lang/Object;"⟩ yJx4a65c_get_915e3 wsJx4a65c_get_915e3) := goodIn_app (goodIn_of _ (by decide +kernel)) ggX7_sumOfFees_Jx4a65c_get_915e3
theorem dX7_sumOfFees_0 : decode cX7_sumOfFees 0 = .ok (.iconst 0, 1) := by decide +kernel
theorem dX7_sumOfFees_1 : decode cX7_sumOfFees 1 = .ok (.istore_n 1, 1) := by decide +kernel
theorem dX7_sumOfFees_2 : decode cX7_sumOfFees 2 = .ok (.iconst 0, 1) := by decide +kernel
theorem dX7_sumOfFees_3 : decode cX7_sumOfFees 3 = .ok (.istore_n 2, 1) := by decide +kernel
theorem dX7_sumOfFees_4 : decode cX7_sumOfFees 4 = .ok (.iload_n 2, 1) := by decide +kernel
theorem dX7_sumOfFees_5 : decode cX7_sumOfFees 5 = .ok (.aload_n 0, 1) := by decide +kernel
theorem dX7_sumOfFees_6 : decode cX7_sumOfFees 6 = .ok (.getfield 40, 3) := by decide +kernel
theorem dX7_sumOfFees_9 : decode cX7_sumOfFees 9 = .ok (.invokeinterface 94 1, 5) := by decide +kernel
theorem dX7_sumOfFees_14 : decode cX7_sumOfFees 14 = .ok (.if_icmp .ge 28, 3) := by decide +kernel
theorem dX7_sumOfFees_17 : decode cX7_sumOfFees 17 = .ok (.iload_n 1, 1) := by decide +kernel
theorem dX7_sumOfFees_18 : decode cX7_sumOfFees 18 = .ok (.aload_n 0, 1) := by decide +kernel
theorem dX7_sumOfFees_19 : decode cX7_sumOfFees 19 = .ok (.getfield 40, 3) := by decide +kernel
theorem dX7_sumOfFees_22 : decode cX7_sumOfFees 22 = .ok (.iload_n 2, 1) := by decide +kernel
theorem dX7_sumOfFees_23 : decode cX7_sumOfFees 23 = .ok (.invokeinterface 235 2, 5) := by decide +kernel
theorem dX7_sumOfFees_28 : decode cX7_sumOfFees 28 = .ok (.checkcast 129, 3) := by decide +kernel
theorem dX7_sumOfFees_31 : decode cX7_sumOfFees 31 = .ok (.getfield 151, 3) := by decide +kernel
theorem dX7_sumOfFees_34 : decode cX7_sumOfFees 34 = .ok (.iadd, 1) := by decide +kernel
theorem dX7_sumOfFees_35 : decode cX7_sumOfFees 35 = .ok (.istore_n 1, 1) := by decide +kernel
theorem dX7_sumOfFees_36 : decode cX7_sumOfFees 36 = .ok (.iinc 2 1, 3) := by decide +kernel
theorem dX7_sumOfFees_39 : decode cX7_sumOfFees 39 = .ok (.goto (-35), 3) := by decide +kernel
theorem dX7_sumOfFees_42 : decode cX7_sumOfFees 42 = .ok (.iload_n 1, 1) := by decide +kernel
theorem dX7_sumOfFees_43 : decode cX7_sumOfFees 43 = .ok (.ireturn, 1) := by decide +kernel
set_option maxRecDepth 20000 in
theorem ggX7_beginNextDay_Jx4a65c_size_8abf5 : GoodIn wsX7_beginNextDay wsJx4a65c_size_8abf5 := goodIn_r _ [10, 11, 50, 51, 52] (by decide +kernel) (by decide +kernel)
set_option maxRecDepth 20000 in
theorem gX7_beginNextDay_Jx4a65c_size_8abf5_f94Jx4a65c : GoodIn wsX7_beginNextDay (va_wsF RX7 94 RJx4a65c ⟨"java/util/List", "size", "()I"⟩ yJx4a65c_size_8abf5 wsJx4a65c_size_8abf5) := goodIn_app (goodIn_of _ (by decide +kernel)) ggX7_beginNextDay_Jx4a65c_size_8abf5
set_option maxRecDepth 20000 in
theorem ggX7_beginNextDay_Jx4a65c_get_915e3 : GoodIn wsX7_beginNextDay wsJx4a65c_get_915e3 := goodIn_r _ [15, 11, 16, 17, 18, 19, 20, 21, 22, 23, 24, 25, 26, 9, 27, 28, 50, 51, 52] (by decide +kernel) (by decide +kernel)
set_option maxRecDepth 20000 in
theorem gX7_beginNextDay_Jx4a65c_get_915e3_f235Jx4a65c : GoodIn wsX7_beginNextDay (va_wsF RX7 235 RJx4a65c ⟨"java/util/List", "get", "(I)Ljava/lang/Object;"⟩ yJx4a65c_get_915e3 wsJx4a65c_get_915e3) := goodIn_app (goodIn_of _ (by decide +kernel)) ggX7_beginNextDay_Jx4a65c_get_915e3
set_option maxRecDepth 20000 in
theorem ggX7_beginNextDay_X3_endIfLate : GoodIn wsX7_beginNextDay wsX3_endIfLate := goodIn_r _ [33, 34, 35, 36, 37, 38, 32, 39, 53, 54, 55, 56, 57] (by decide +kernel) (by decide +kernel)
set_option maxRecDepth 20000 in
theorem gX7_beginNextDay_X3_endIfLate : GoodIn wsX7_beginNextDay (wsV RX7 286 RX3 yX3_endIfLate wsX3_endIfLate) := goodIn_app (goodIn_of _ (by decide +kernel)) ggX7_beginNextDay_X3_endIfLate
theorem dX7_beginNextDay_0 : decode cX7_beginNextDay 0 = .ok (.aload_n 0, 1) := by decide +kernel
theorem dX7_beginNextDay_1 : decode cX7_beginNextDay 1 = .ok (.dup, 1) := by decide +kernel
theorem dX7_beginNextDay_2 : decode cX7_beginNextDay 2 = .ok (.getfield 46, 3) := by decide +kernel
theorem dX7_beginNextDay_5 : decode cX7_beginNextDay 5 = .ok (.iconst 1, 1) := by decide +kernel
theorem dX7_beginNextDay_6 : decode cX7_beginNextDay 6 = .ok (.iadd, 1) := by decide +kernel
theorem dX7_beginNextDay_7 : decode cX7_beginNextDay 7 = .ok (.putfield 46, 3) := by decide +kernel
theorem dX7_beginNextDay_10 : decode cX7_beginNextDay 10 = .ok (.iconst 0, 1) := by decide +kernel
theorem dX7_beginNextDay_11 : decode cX7_beginNextDay 11 = .ok (.istore_n 1, 1) := by decide +kernel
theorem dX7_beginNextDay_12 : decode cX7_beginNextDay 12 = .ok (.iload_n 1, 1) := by decide +kernel
theorem dX7_beginNextDay_13 : decode cX7_beginNextDay 13 = .ok (.iconst 4, 1) := by decide +kernel
theorem dX7_beginNextDay_14 : decode cX7_beginNextDay 14 = .ok (.if_icmp .ge 19, 3) := by decide +kernel
theorem dX7_beginNextDay_17 : decode cX7_beginNextDay 17 = .ok (.aload_n 0, 1) := by decide +kernel
theorem dX7_beginNextDay_18 : decode cX7_beginNextDay 18 = .ok (.getfield 11, 3) := by decide +kernel
theorem dX7_beginNextDay_21 : decode cX7_beginNextDay 21 = .ok (.iload_n 1, 1) := by decide +kernel
theorem dX7_beginNextDay_22 : decode cX7_beginNextDay 22 = .ok (.aaload, 1) := by decide +kernel
theorem dX7_beginNextDay_23 : decode cX7_beginNextDay 23 = .ok (.lconst 0, 1) := by decide +kernel
theorem dX7_beginNextDay_24 : decode cX7_beginNextDay 24 = .ok (.putfield 232, 3) := by decide +kernel
theorem dX7_beginNextDay_27 : decode cX7_beginNextDay 27 = .ok (.iinc 1 1, 3) := by decide +kernel
theorem dX7_beginNextDay_30 : decode cX7_beginNextDay 30 = .ok (.goto (-18), 3) := by decide +kernel
theorem dX7_beginNextDay_33 : decode cX7_beginNextDay 33 = .ok (.iconst 0, 1) := by decide +kernel
theorem dX7_beginNextDay_34 : decode cX7_beginNextDay 34 = .ok (.istore_n 1, 1) := by decide +kernel
theorem dX7_beginNextDay_35 : decode cX7_beginNextDay 35 = .ok (.iload_n 1, 1) := by decide +kernel
theorem dX7_beginNextDay_36 : decode cX7_beginNextDay 36 = .ok (.aload_n 0, 1) := by decide +kernel
theorem dX7_beginNextDay_37 : decode cX7_beginNextDay 37 = .ok (.getfield 43, 3) := by decide +kernel
theorem dX7_beginNextDay_40 : decode cX7_beginNextDay 40 = .ok (.invokeinterface 94 1, 5) := by decide +kernel
theorem dX7_beginNextDay_45 : decode cX7_beginNextDay 45 = .ok (.if_icmp .ge 29, 3) := by decide +kernel
theorem dX7_beginNextDay_48 : decode cX7_beginNextDay 48 = .ok (.aload_n 0, 1) := by decide +kernel
theorem dX7_beginNextDay_49 : decode cX7_beginNextDay 49 = .ok (.getfield 43, 3) := by decide +kernel
theorem dX7_beginNextDay_52 : decode cX7_beginNextDay 52 = .ok (.iload_n 1, 1) := by decide +kernel
theorem dX7_beginNextDay_53 : decode cX7_beginNextDay 53 = .ok (.invokeinterface 235 2, 5) := by decide +kernel
theorem dX7_beginNextDay_58 : decode cX7_beginNextDay 58 = .ok (.checkcast 174, 3) := by decide +kernel
theorem dX7_beginNextDay_61 : decode cX7_beginNextDay 61 = .ok (.aload_n 0, 1) := by decide +kernel
theorem dX7_beginNextDay_62 : decode cX7_beginNextDay 62 = .ok (.getfield 46, 3) := by decide +kernel
theorem dX7_beginNextDay_65 : decode cX7_beginNextDay 65 = .ok (.invokevirtual 286, 3) := by decide +kernel
theorem dX7_beginNextDay_68 : decode cX7_beginNextDay 68 = .ok (.iinc 1 1, 3) := by decide +kernel
theorem dX7_beginNextDay_71 : decode cX7_beginNextDay 71 = .ok (.goto (-36), 3) := by decide +kernel
theorem dX7_beginNextDay_74 : decode cX7_beginNextDay 74 = .ok (.return_, 1) := by decide +kernel
set_option maxRecDepth 20000 in
theorem ggX7_nextDueBehind_Jx4a65c_size_8abf5 : GoodIn wsX7_nextDueBehind wsJx4a65c_size_8abf5 := goodIn_r _ [7, 8, 47, 48, 49] (by decide +kernel) (by decide +kernel)
set_option maxRecDepth 20000 in
theorem gX7_nextDueBehind_Jx4a65c_size_8abf5_f94Jx4a65c : GoodIn wsX7_nextDueBehind (va_wsF RX7 94 RJx4a65c ⟨"java/util/List", "size", "()I"⟩ yJx4a65c_size_8abf5 wsJx4a65c_size_8abf5) := goodIn_app (goodIn_of _ (by decide +kernel)) ggX7_nextDueBehind_Jx4a65c_size_8abf5
set_option maxRecDepth 20000 in
theorem ggX7_nextDueBehind_Jx4a65c_get_915e3 : GoodIn wsX7_nextDueBehind wsJx4a65c_get_915e3 := goodIn_r _ [12, 8, 13, 14, 15, 16, 17, 18, 19, 20, 21, 22, 23, 6, 24, 25, 47, 48, 49] (by decide +kernel) (by decide +kernel)
set_option maxRecDepth 20000 in
theorem gX7_nextDueBehind_Jx4a65c_get_915e3_f235Jx4a65c : GoodIn wsX7_nextDueBehind (va_wsF RX7 235 RJx4a65c ⟨"java/util/List", "get", "(I)Ljava/lang/Object;"⟩ yJx4a65c_get_915e3 wsJx4a65c_get_915e3) := goodIn_app (goodIn_of _ (by decide +kernel)) ggX7_nextDueBehind_Jx4a65c_get_915e3
set_option maxRecDepth 20000 in
theorem ggX7_nextDueBehind_X3_isDueBefore : GoodIn wsX7_nextDueBehind wsX3_isDueBefore := goodIn_r _ [30, 31, 32, 33, 50, 51, 52, 53, 54] (by decide +kernel) (by decide +kernel)
set_option maxRecDepth 20000 in
theorem gX7_nextDueBehind_X3_isDueBefore : GoodIn wsX7_nextDueBehind (wsV RX7 289 RX3 yX3_isDueBefore wsX3_isDueBefore) := goodIn_app (goodIn_of _ (by decide +kernel)) ggX7_nextDueBehind_X3_isDueBefore
set_option maxRecDepth 20000 in
theorem ggX7_nextDueBehind_X3_hasDeadline : GoodIn wsX7_nextDueBehind wsX3_hasDeadline := goodIn_r _ [37, 38, 50, 51, 52, 53, 54] (by decide +kernel) (by decide +kernel)
set_option maxRecDepth 20000 in
theorem gX7_nextDueBehind_X3_hasDeadline : GoodIn wsX7_nextDueBehind (wsV RX7 293 RX3 yX3_hasDeadline wsX3_hasDeadline) := goodIn_app (goodIn_of _ (by decide +kernel)) ggX7_nextDueBehind_X3_hasDeadline
theorem dX7_nextDueBehind_0 : decode cX7_nextDueBehind 0 = .ok (.aconst_null, 1) := by decide +kernel
theorem dX7_nextDueBehind_1 : decode cX7_nextDueBehind 1 = .ok (.astore_n 2, 1) := by decide +kernel
theorem dX7_nextDueBehind_2 : decode cX7_nextDueBehind 2 = .ok (.iconst 0, 1) := by decide +kernel
theorem dX7_nextDueBehind_3 : decode cX7_nextDueBehind 3 = .ok (.istore_n 3, 1) := by decide +kernel
theorem dX7_nextDueBehind_4 : decode cX7_nextDueBehind 4 = .ok (.iload_n 3, 1) := by decide +kernel
theorem dX7_nextDueBehind_5 : decode cX7_nextDueBehind 5 = .ok (.aload_n 0, 1) := by decide +kernel
theorem dX7_nextDueBehind_6 : decode cX7_nextDueBehind 6 = .ok (.getfield 43, 3) := by decide +kernel
theorem dX7_nextDueBehind_9 : decode cX7_nextDueBehind 9 = .ok (.invokeinterface 94 1, 5) := by decide +kernel
theorem dX7_nextDueBehind_14 : decode cX7_nextDueBehind 14 = .ok (.if_icmp .ge 73, 3) := by decide +kernel
theorem dX7_nextDueBehind_17 : decode cX7_nextDueBehind 17 = .ok (.aload_n 0, 1) := by decide +kernel
theorem dX7_nextDueBehind_18 : decode cX7_nextDueBehind 18 = .ok (.getfield 43, 3) := by decide +kernel
theorem dX7_nextDueBehind_21 : decode cX7_nextDueBehind 21 = .ok (.iload_n 3, 1) := by decide +kernel
theorem dX7_nextDueBehind_22 : decode cX7_nextDueBehind 22 = .ok (.invokeinterface 235 2, 5) := by decide +kernel
theorem dX7_nextDueBehind_27 : decode cX7_nextDueBehind 27 = .ok (.checkcast 174, 3) := by decide +kernel
theorem dX7_nextDueBehind_30 : decode cX7_nextDueBehind 30 = .ok (.astore 4, 2) := by decide +kernel
theorem dX7_nextDueBehind_32 : decode cX7_nextDueBehind 32 = .ok (.aload_n 1, 1) := by decide +kernel
theorem dX7_nextDueBehind_33 : decode cX7_nextDueBehind 33 = .ok (.ifnull 12, 3) := by decide +kernel
theorem dX7_nextDueBehind_36 : decode cX7_nextDueBehind 36 = .ok (.aload_n 1, 1) := by decide +kernel
theorem dX7_nextDueBehind_37 : decode cX7_nextDueBehind 37 = .ok (.aload 4, 2) := by decide +kernel
theorem dX7_nextDueBehind_39 : decode cX7_nextDueBehind 39 = .ok (.invokevirtual 289, 3) := by decide +kernel
theorem dX7_nextDueBehind_42 : decode cX7_nextDueBehind 42 = .ok (.ifCond .eq 7, 3) := by decide +kernel
theorem dX7_nextDueBehind_45 : decode cX7_nextDueBehind 45 = .ok (.iconst 1, 1) := by decide +kernel
theorem dX7_nextDueBehind_46 : decode cX7_nextDueBehind 46 = .ok (.goto 4, 3) := by decide +kernel
theorem dX7_nextDueBehind_49 : decode cX7_nextDueBehind 49 = .ok (.iconst 0, 1) := by decide +kernel
theorem dX7_nextDueBehind_50 : decode cX7_nextDueBehind 50 = .ok (.istore 5, 2) := by decide +kernel
theorem dX7_nextDueBehind_52 : decode cX7_nextDueBehind 52 = .ok (.aload 4, 2) := by decide +kernel
theorem dX7_nextDueBehind_54 : decode cX7_nextDueBehind 54 = .ok (.invokevirtual 293, 3) := by decide +kernel
theorem dX7_nextDueBehind_57 : decode cX7_nextDueBehind 57 = .ok (.ifCond .eq 24, 3) := by decide +kernel
theorem dX7_nextDueBehind_60 : decode cX7_nextDueBehind 60 = .ok (.iload 5, 2) := by decide +kernel
theorem dX7_nextDueBehind_62 : decode cX7_nextDueBehind 62 = .ok (.ifCond .eq 19, 3) := by decide +kernel
theorem dX7_nextDueBehind_65 : decode cX7_nextDueBehind 65 = .ok (.aload_n 2, 1) := by decide +kernel
theorem dX7_nextDueBehind_66 : decode cX7_nextDueBehind 66 = .ok (.ifnull 12, 3) := by decide +kernel
theorem dX7_nextDueBehind_69 : decode cX7_nextDueBehind 69 = .ok (.aload 4, 2) := by decide +kernel
theorem dX7_nextDueBehind_71 : decode cX7_nextDueBehind 71 = .ok (.aload_n 2, 1) := by decide +kernel
theorem dX7_nextDueBehind_72 : decode cX7_nextDueBehind 72 = .ok (.invokevirtual 289, 3) := by decide +kernel
theorem dX7_nextDueBehind_75 : decode cX7_nextDueBehind 75 = .ok (.ifCond .eq 6, 3) := by decide +kernel
theorem dX7_nextDueBehind_78 : decode cX7_nextDueBehind 78 = .ok (.aload 4, 2) := by decide +kernel
theorem dX7_nextDueBehind_80 : decode cX7_nextDueBehind 80 = .ok (.astore_n 2, 1) := by decide +kernel
theorem dX7_nextDueBehind_81 : decode cX7_nextDueBehind 81 = .ok (.iinc 3 1, 3) := by decide +kernel
theorem dX7_nextDueBehind_84 : decode cX7_nextDueBehind 84 = .ok (.goto (-80), 3) := by decide +kernel
theorem dX7_nextDueBehind_87 : decode cX7_nextDueBehind 87 = .ok (.aload_n 2, 1) := by decide +kernel
theorem dX7_nextDueBehind_88 : decode cX7_nextDueBehind 88 = .ok (.areturn, 1) := by decide +kernel
theorem dX8_init_0 : decode cX8_init 0 = .ok (.aload_n 0, 1) := by decide +kernel
theorem dX8_init_1 : decode cX8_init 1 = .ok (.invokespecial 1, 3) := by decide +kernel
theorem dX8_init_4 : decode cX8_init 4 = .ok (.aload_n 0, 1) := by decide +kernel
theorem dX8_init_5 : decode cX8_init 5 = .ok (.bipush 8, 2) := by decide +kernel
theorem dX8_init_7 : decode cX8_init 7 = .ok (.newarray .int, 2) := by decide +kernel
theorem dX8_init_9 : decode cX8_init 9 = .ok (.putfield 7, 3) := by decide +kernel
theorem dX8_init_12 : decode cX8_init 12 = .ok (.aload_n 0, 1) := by decide +kernel
theorem dX8_init_13 : decode cX8_init 13 = .ok (.iconst 3, 1) := by decide +kernel
theorem dX8_init_14 : decode cX8_init 14 = .ok (.newarray .int, 2) := by decide +kernel
theorem dX8_init_16 : decode cX8_init 16 = .ok (.putfield 13, 3) := by decide +kernel
theorem dX8_init_19 : decode cX8_init 19 = .ok (.aload_n 0, 1) := by decide +kernel
theorem dX8_init_20 : decode cX8_init 20 = .ok (.iconst 3, 1) := by decide +kernel
theorem dX8_init_21 : decode cX8_init 21 = .ok (.newarray .int, 2) := by decide +kernel
theorem dX8_init_23 : decode cX8_init 23 = .ok (.putfield 16, 3) := by decide +kernel
theorem dX8_init_26 : decode cX8_init 26 = .ok (.aload_n 0, 1) := by decide +kernel
theorem dX8_init_27 : decode cX8_init 27 = .ok (.bipush 60, 2) := by decide +kernel
theorem dX8_init_29 : decode cX8_init 29 = .ok (.newarray .int, 2) := by decide +kernel
theorem dX8_init_31 : decode cX8_init 31 = .ok (.putfield 19, 3) := by decide +kernel
theorem dX8_init_34 : decode cX8_init 34 = .ok (.aload_n 0, 1) := by decide +kernel
theorem dX8_init_35 : decode cX8_init 35 = .ok (.bipush 60, 2) := by decide +kernel
theorem dX8_init_37 : decode cX8_init 37 = .ok (.newarray .int, 2) := by decide +kernel
theorem dX8_init_39 : decode cX8_init 39 = .ok (.putfield 22, 3) := by decide +kernel
theorem dX8_init_42 : decode cX8_init 42 = .ok (.aload_n 0, 1) := by decide +kernel
theorem dX8_init_43 : decode cX8_init 43 = .ok (.bipush 60, 2) := by decide +kernel
theorem dX8_init_45 : decode cX8_init 45 = .ok (.newarray .int, 2) := by decide +kernel
theorem dX8_init_47 : decode cX8_init 47 = .ok (.putfield 25, 3) := by decide +kernel
theorem dX8_init_50 : decode cX8_init 50 = .ok (.aload_n 0, 1) := by decide +kernel
theorem dX8_init_51 : decode cX8_init 51 = .ok (.bipush 60, 2) := by decide +kernel
theorem dX8_init_53 : decode cX8_init 53 = .ok (.newarray .int, 2) := by decide +kernel
theorem dX8_init_55 : decode cX8_init 55 = .ok (.putfield 28, 3) := by decide +kernel
theorem dX8_init_58 : decode cX8_init 58 = .ok (.aload_n 0, 1) := by decide +kernel
theorem dX8_init_59 : decode cX8_init 59 = .ok (.bipush 60, 2) := by decide +kernel
theorem dX8_init_61 : decode cX8_init 61 = .ok (.newarray .int, 2) := by decide +kernel
theorem dX8_init_63 : decode cX8_init 63 = .ok (.putfield 31, 3) := by decide +kernel
theorem dX8_init_66 : decode cX8_init 66 = .ok (.aload_n 0, 1) := by decide +kernel
theorem dX8_init_67 : decode cX8_init 67 = .ok (.bipush 60, 2) := by decide +kernel
theorem dX8_init_69 : decode cX8_init 69 = .ok (.newarray .boolean, 2) := by decide +kernel
theorem dX8_init_71 : decode cX8_init 71 = .ok (.putfield 34, 3) := by decide +kernel
theorem dX8_init_74 : decode cX8_init 74 = .ok (.aload_n 0, 1) := by decide +kernel
theorem dX8_init_75 : decode cX8_init 75 = .ok (.bipush 100, 2) := by decide +kernel
theorem dX8_init_77 : decode cX8_init 77 = .ok (.newarray .int, 2) := by decide +kernel
theorem dX8_init_79 : decode cX8_init 79 = .ok (.putfield 38, 3) := by decide +kernel
theorem dX8_init_82 : decode cX8_init 82 = .ok (.aload_n 0, 1) := by decide +kernel
theorem dX8_init_83 : decode cX8_init 83 = .ok (.bipush 100, 2) := by decide +kernel
theorem dX8_init_85 : decode cX8_init 85 = .ok (.newarray .int, 2) := by decide +kernel
theorem dX8_init_87 : decode cX8_init 87 = .ok (.putfield 41, 3) := by decide +kernel
theorem dX8_init_90 : decode cX8_init 90 = .ok (.aload_n 0, 1) := by decide +kernel
theorem dX8_init_91 : decode cX8_init 91 = .ok (.bipush 100, 2) := by decide +kernel
theorem dX8_init_93 : decode cX8_init 93 = .ok (.newarray .int, 2) := by decide +kernel
theorem dX8_init_95 : decode cX8_init 95 = .ok (.putfield 44, 3) := by decide +kernel
theorem dX8_init_98 : decode cX8_init 98 = .ok (.aload_n 0, 1) := by decide +kernel
theorem dX8_init_99 : decode cX8_init 99 = .ok (.bipush 100, 2) := by decide +kernel
theorem dX8_init_101 : decode cX8_init 101 = .ok (.newarray .int, 2) := by decide +kernel
theorem dX8_init_103 : decode cX8_init 103 = .ok (.putfield 47, 3) := by decide +kernel
theorem dX8_init_106 : decode cX8_init 106 = .ok (.aload_n 0, 1) := by decide +kernel
theorem dX8_init_107 : decode cX8_init 107 = .ok (.bipush 60, 2) := by decide +kernel
theorem dX8_init_109 : decode cX8_init 109 = .ok (.newarray .int, 2) := by decide +kernel
theorem dX8_init_111 : decode cX8_init 111 = .ok (.putfield 50, 3) := by decide +kernel
theorem dX8_init_114 : decode cX8_init 114 = .ok (.aload_n 0, 1) := by decide +kernel
theorem dX8_init_115 : decode cX8_init 115 = .ok (.bipush 60, 2) := by decide +kernel
theorem dX8_init_117 : decode cX8_init 117 = .ok (.newarray .int, 2) := by decide +kernel
theorem dX8_init_119 : decode cX8_init 119 = .ok (.putfield 53, 3) := by decide +kernel
theorem dX8_init_122 : decode cX8_init 122 = .ok (.aload_n 0, 1) := by decide +kernel
theorem dX8_init_123 : decode cX8_init 123 = .ok (.bipush 60, 2) := by decide +kernel
theorem dX8_init_125 : decode cX8_init 125 = .ok (.newarray .int, 2) := by decide +kernel
theorem dX8_init_127 : decode cX8_init 127 = .ok (.putfield 56, 3) := by decide +kernel
theorem dX8_init_130 : decode cX8_init 130 = .ok (.aload_n 0, 1) := by decide +kernel
theorem dX8_init_131 : decode cX8_init 131 = .ok (.bipush 60, 2) := by decide +kernel
theorem dX8_init_133 : decode cX8_init 133 = .ok (.newarray .int, 2) := by decide +kernel
theorem dX8_init_135 : decode cX8_init 135 = .ok (.putfield 59, 3) := by decide +kernel
theorem dX8_init_138 : decode cX8_init 138 = .ok (.aload_n 0, 1) := by decide +kernel
theorem dX8_init_139 : decode cX8_init 139 = .ok (.iconst 4, 1) := by decide +kernel
theorem dX8_init_140 : decode cX8_init 140 = .ok (.newarray .long, 2) := by decide +kernel
theorem dX8_init_142 : decode cX8_init 142 = .ok (.putfield 62, 3) := by decide +kernel
theorem dX8_init_145 : decode cX8_init 145 = .ok (.aload_n 0, 1) := by decide +kernel
theorem dX8_init_146 : decode cX8_init 146 = .ok (.iconst 4, 1) := by decide +kernel
theorem dX8_init_147 : decode cX8_init 147 = .ok (.newarray .long, 2) := by decide +kernel
theorem dX8_init_149 : decode cX8_init 149 = .ok (.putfield 66, 3) := by decide +kernel
theorem dX8_init_152 : decode cX8_init 152 = .ok (.iconst 0, 1) := by decide +kernel
theorem dX8_init_153 : decode cX8_init 153 = .ok (.istore_n 1, 1) := by decide +kernel
theorem dX8_init_154 : decode cX8_init 154 = .ok (.iload_n 1, 1) := by decide +kernel
theorem dX8_init_155 : decode cX8_init 155 = .ok (.iconst 3, 1) := by decide +kernel
theorem dX8_init_156 : decode cX8_init 156 = .ok (.if_icmp .ge 26, 3) := by decide +kernel
theorem dX8_init_159 : decode cX8_init 159 = .ok (.aload_n 0, 1) := by decide +kernel
theorem dX8_init_160 : decode cX8_init 160 = .ok (.getfield 13, 3) := by decide +kernel
theorem dX8_init_163 : decode cX8_init 163 = .ok (.iload_n 1, 1) := by decide +kernel
theorem dX8_init_164 : decode cX8_init 164 = .ok (.bipush 10, 2) := by decide +kernel
theorem dX8_init_166 : decode cX8_init 166 = .ok (.iastore, 1) := by decide +kernel
theorem dX8_init_167 : decode cX8_init 167 = .ok (.aload_n 0, 1) := by decide +kernel
theorem dX8_init_168 : decode cX8_init 168 = .ok (.getfield 16, 3) := by decide +kernel
theorem dX8_init_171 : decode cX8_init 171 = .ok (.iload_n 1, 1) := by decide +kernel
theorem dX8_init_172 : decode cX8_init 172 = .ok (.sipush 500, 3) := by decide +kernel
theorem dX8_init_175 : decode cX8_init 175 = .ok (.iastore, 1) := by decide +kernel
theorem dX8_init_176 : decode cX8_init 176 = .ok (.iinc 1 1, 3) := by decide +kernel
theorem dX8_init_179 : decode cX8_init 179 = .ok (.goto (-25), 3) := by decide +kernel
theorem dX8_init_182 : decode cX8_init 182 = .ok (.return_, 1) := by decide +kernel
theorem dX8_thrown_0 : decode cX8_thrown 0 = .ok (.aload_n 0, 1) := by decide +kernel
theorem dX8_thrown_1 : decode cX8_thrown 1 = .ok (.getfield 69, 3) := by decide +kernel
theorem dX8_thrown_4 : decode cX8_thrown 4 = .ok (.ireturn, 1) := by decide +kernel
theorem dX8_fails_0 : decode cX8_fails 0 = .ok (.aload_n 0, 1) := by decide +kernel
theorem dX8_fails_1 : decode cX8_fails 1 = .ok (.iload_n 1, 1) := by decide +kernel
theorem dX8_fails_2 : decode cX8_fails 2 = .ok (.putfield 69, 3) := by decide +kernel
theorem dX8_fails_5 : decode cX8_fails 5 = .ok (.iload_n 1, 1) := by decide +kernel
theorem dX8_fails_6 : decode cX8_fails 6 = .ok (.ifCond .le 7, 3) := by decide +kernel
theorem dX8_fails_9 : decode cX8_fails 9 = .ok (.iconst 1, 1) := by decide +kernel
theorem dX8_fails_10 : decode cX8_fails 10 = .ok (.goto 4, 3) := by decide +kernel
theorem dX8_fails_13 : decode cX8_fails 13 = .ok (.iconst 0, 1) := by decide +kernel
theorem dX8_fails_14 : decode cX8_fails 14 = .ok (.ireturn, 1) := by decide +kernel
theorem dX8_isIn_0 : decode cX8_isIn 0 = .ok (.iload_n 0, 1) := by decide +kernel
theorem dX8_isIn_1 : decode cX8_isIn 1 = .ok (.iload_n 1, 1) := by decide +kernel
theorem dX8_isIn_2 : decode cX8_isIn 2 = .ok (.if_icmp .lt 12, 3) := by decide +kernel
theorem dX8_isIn_5 : decode cX8_isIn 5 = .ok (.iload_n 0, 1) := by decide +kernel
theorem dX8_isIn_6 : decode cX8_isIn 6 = .ok (.iload_n 2, 1) := by decide +kernel
theorem dX8_isIn_7 : decode cX8_isIn 7 = .ok (.if_icmp .gt 7, 3) := by decide +kernel
theorem dX8_isIn_10 : decode cX8_isIn 10 = .ok (.iconst 1, 1) := by decide +kernel
theorem dX8_isIn_11 : decode cX8_isIn 11 = .ok (.goto 4, 3) := by decide +kernel
theorem dX8_isIn_14 : decode cX8_isIn 14 = .ok (.iconst 0, 1) := by decide +kernel
theorem dX8_isIn_15 : decode cX8_isIn 15 = .ok (.ireturn, 1) := by decide +kernel
set_option maxRecDepth 20000 in
theorem ggX8_isAmount_X8_isIn : GoodIn wsX8_isAmount wsX8_isIn := goodIn_r _ [5] (by decide +kernel) (by decide +kernel)
set_option maxRecDepth 20000 in
theorem gX8_isAmount_X8_isIn : GoodIn wsX8_isAmount (va_wsS RX8 74 yX8_isIn wsX8_isIn) := goodIn_app (goodIn_of _ (by decide +kernel)) ggX8_isAmount_X8_isIn
theorem dX8_isAmount_0 : decode cX8_isAmount 0 = .ok (.iload_n 0, 1) := by decide +kernel
theorem dX8_isAmount_1 : decode cX8_isAmount 1 = .ok (.iconst 1, 1) := by decide +kernel
theorem dX8_isAmount_2 : decode cX8_isAmount 2 = .ok (.ldc 73, 2) := by decide +kernel
theorem dX8_isAmount_4 : decode cX8_isAmount 4 = .ok (.invokestatic 74, 3) := by decide +kernel
theorem dX8_isAmount_7 : decode cX8_isAmount 7 = .ok (.ireturn, 1) := by decide +kernel
set_option maxRecDepth 20000 in
theorem ggX8_isShop_X8_isIn : GoodIn wsX8_isShop wsX8_isIn := goodIn_r _ [4] (by decide +kernel) (by decide +kernel)
set_option maxRecDepth 20000 in
theorem gX8_isShop_X8_isIn : GoodIn wsX8_isShop (va_wsS RX8 74 yX8_isIn wsX8_isIn) := goodIn_app (goodIn_of _ (by decide +kernel)) ggX8_isShop_X8_isIn
theorem dX8_isShop_0 : decode cX8_isShop 0 = .ok (.iload_n 0, 1) := by decide +kernel
theorem dX8_isShop_1 : decode cX8_isShop 1 = .ok (.iconst 0, 1) := by decide +kernel
theorem dX8_isShop_2 : decode cX8_isShop 2 = .ok (.bipush 7, 2) := by decide +kernel
theorem dX8_isShop_4 : decode cX8_isShop 4 = .ok (.invokestatic 74, 3) := by decide +kernel
theorem dX8_isShop_7 : decode cX8_isShop 7 = .ok (.ireturn, 1) := by decide +kernel
set_option maxRecDepth 20000 in
theorem ggX8_isKind_X8_isIn : GoodIn wsX8_isKind wsX8_isIn := goodIn_r _ [4] (by decide +kernel) (by decide +kernel)
set_option maxRecDepth 20000 in
theorem gX8_isKind_X8_isIn : GoodIn wsX8_isKind (va_wsS RX8 74 yX8_isIn wsX8_isIn) := goodIn_app (goodIn_of _ (by decide +kernel)) ggX8_isKind_X8_isIn
theorem dX8_isKind_0 : decode cX8_isKind 0 = .ok (.iload_n 0, 1) := by decide +kernel
theorem dX8_isKind_1 : decode cX8_isKind 1 = .ok (.iconst 0, 1) := by decide +kernel
theorem dX8_isKind_2 : decode cX8_isKind 2 = .ok (.iconst 2, 1) := by decide +kernel
theorem dX8_isKind_3 : decode cX8_isKind 3 = .ok (.invokestatic 74, 3) := by decide +kernel
theorem dX8_isKind_6 : decode cX8_isKind 6 = .ok (.ireturn, 1) := by decide +kernel
set_option maxRecDepth 20000 in
theorem ggX8_isCard_X8_isIn : GoodIn wsX8_isCard wsX8_isIn := goodIn_r _ [4] (by decide +kernel) (by decide +kernel)
set_option maxRecDepth 20000 in
theorem gX8_isCard_X8_isIn : GoodIn wsX8_isCard (va_wsS RX8 74 yX8_isIn wsX8_isIn) := goodIn_app (goodIn_of _ (by decide +kernel)) ggX8_isCard_X8_isIn
theorem dX8_isCard_0 : decode cX8_isCard 0 = .ok (.iload_n 0, 1) := by decide +kernel
theorem dX8_isCard_1 : decode cX8_isCard 1 = .ok (.iconst 0, 1) := by decide +kernel
theorem dX8_isCard_2 : decode cX8_isCard 2 = .ok (.bipush 11, 2) := by decide +kernel
theorem dX8_isCard_4 : decode cX8_isCard 4 = .ok (.invokestatic 74, 3) := by decide +kernel
theorem dX8_isCard_7 : decode cX8_isCard 7 = .ok (.ireturn, 1) := by decide +kernel
set_option maxRecDepth 20000 in
theorem ggX8_shop_X8_isShop : GoodIn wsX8_shop wsX8_isShop := goodIn_r _ [5, 6, 7, 4, 8] (by decide +kernel) (by decide +kernel)
set_option maxRecDepth 20000 in
theorem gX8_shop_X8_isShop : GoodIn wsX8_shop (va_wsS RX8 78 yX8_isShop wsX8_isShop) := goodIn_app (goodIn_of _ (by decide +kernel)) ggX8_shop_X8_isShop
set_option maxRecDepth 20000 in
theorem ggX8_shop_X8_isKind : GoodIn wsX8_shop wsX8_isKind := goodIn_r _ [11, 6, 7, 4, 8] (by decide +kernel) (by decide +kernel)
set_option maxRecDepth 20000 in
theorem gX8_shop_X8_isKind : GoodIn wsX8_shop (va_wsS RX8 82 yX8_isKind wsX8_isKind) := goodIn_app (goodIn_of _ (by decide +kernel)) ggX8_shop_X8_isKind
set_option maxRecDepth 20000 in
theorem ggX8_shop_X8_fails : GoodIn wsX8_shop wsX8_fails := goodIn_r _ [15, 16, 17, 18, 19, 20, 21, 22, 23, 24, 25, 26, 27, 28, 29, 30, 31, 32, 33, 34, 35, 36, 37, 38, 39, 40, 41] (by decide +kernel) (by decide +kernel)
set_option maxRecDepth 20000 in
theorem gX8_shop_X8_fails : GoodIn wsX8_shop (wsV RX8 85 RX8 yX8_fails wsX8_fails) := goodIn_app (goodIn_of _ (by decide +kernel)) ggX8_shop_X8_fails
theorem dX8_shop_0 : decode cX8_shop 0 = .ok (.aload_n 0, 1) := by decide +kernel
theorem dX8_shop_1 : decode cX8_shop 1 = .ok (.iload_n 1, 1) := by decide +kernel
theorem dX8_shop_2 : decode cX8_shop 2 = .ok (.invokestatic 78, 3) := by decide +kernel
theorem dX8_shop_5 : decode cX8_shop 5 = .ok (.ifCond .eq 14, 3) := by decide +kernel
theorem dX8_shop_8 : decode cX8_shop 8 = .ok (.iload_n 2, 1) := by decide +kernel
theorem dX8_shop_9 : decode cX8_shop 9 = .ok (.invokestatic 82, 3) := by decide +kernel
theorem dX8_shop_12 : decode cX8_shop 12 = .ok (.ifCond .eq 7, 3) := by decide +kernel
theorem dX8_shop_15 : decode cX8_shop 15 = .ok (.iconst 0, 1) := by decide +kernel
theorem dX8_shop_16 : decode cX8_shop 16 = .ok (.goto 4, 3) := by decide +kernel
theorem dX8_shop_19 : decode cX8_shop 19 = .ok (.iconst 1, 1) := by decide +kernel
theorem dX8_shop_20 : decode cX8_shop 20 = .ok (.invokevirtual 85, 3) := by decide +kernel
theorem dX8_shop_23 : decode cX8_shop 23 = .ok (.ifCond .eq 5, 3) := by decide +kernel
theorem dX8_shop_26 : decode cX8_shop 26 = .ok (.iconst 0, 1) := by decide +kernel
theorem dX8_shop_27 : decode cX8_shop 27 = .ok (.ireturn, 1) := by decide +kernel
theorem dX8_shop_28 : decode cX8_shop 28 = .ok (.aload_n 0, 1) := by decide +kernel
theorem dX8_shop_29 : decode cX8_shop 29 = .ok (.getfield 7, 3) := by decide +kernel
theorem dX8_shop_32 : decode cX8_shop 32 = .ok (.iload_n 1, 1) := by decide +kernel
theorem dX8_shop_33 : decode cX8_shop 33 = .ok (.iaload, 1) := by decide +kernel
theorem dX8_shop_34 : decode cX8_shop 34 = .ok (.istore_n 3, 1) := by decide +kernel
theorem dX8_shop_35 : decode cX8_shop 35 = .ok (.aload_n 0, 1) := by decide +kernel
theorem dX8_shop_36 : decode cX8_shop 36 = .ok (.getfield 7, 3) := by decide +kernel
theorem dX8_shop_39 : decode cX8_shop 39 = .ok (.iload_n 1, 1) := by decide +kernel
theorem dX8_shop_40 : decode cX8_shop 40 = .ok (.iload_n 2, 1) := by decide +kernel
theorem dX8_shop_41 : decode cX8_shop 41 = .ok (.iastore, 1) := by decide +kernel
theorem dX8_shop_42 : decode cX8_shop 42 = .ok (.iload_n 3, 1) := by decide +kernel
theorem dX8_shop_43 : decode cX8_shop 43 = .ok (.ireturn, 1) := by decide +kernel
theorem dX8_feeOf_0 : decode cX8_feeOf 0 = .ok (.iload_n 2, 1) := by decide +kernel
theorem dX8_feeOf_1 : decode cX8_feeOf 1 = .ok (.i2l, 1) := by decide +kernel
theorem dX8_feeOf_2 : decode cX8_feeOf 2 = .ok (.aload_n 0, 1) := by decide +kernel
theorem dX8_feeOf_3 : decode cX8_feeOf 3 = .ok (.getfield 13, 3) := by decide +kernel
theorem dX8_feeOf_6 : decode cX8_feeOf 6 = .ok (.iload_n 1, 1) := by decide +kernel
theorem dX8_feeOf_7 : decode cX8_feeOf 7 = .ok (.iaload, 1) := by decide +kernel
theorem dX8_feeOf_8 : decode cX8_feeOf 8 = .ok (.i2l, 1) := by decide +kernel
theorem dX8_feeOf_9 : decode cX8_feeOf 9 = .ok (.lmul, 1) := by decide +kernel
theorem dX8_feeOf_10 : decode cX8_feeOf 10 = .ok (.ldc2_w 88, 3) := by decide +kernel
theorem dX8_feeOf_13 : decode cX8_feeOf 13 = .ok (.ldiv, 1) := by decide +kernel
theorem dX8_feeOf_14 : decode cX8_feeOf 14 = .ok (.lstore_n 3, 1) := by decide +kernel
theorem dX8_feeOf_15 : decode cX8_feeOf 15 = .ok (.lload_n 3, 1) := by decide +kernel
theorem dX8_feeOf_16 : decode cX8_feeOf 16 = .ok (.aload_n 0, 1) := by decide +kernel
theorem dX8_feeOf_17 : decode cX8_feeOf 17 = .ok (.getfield 16, 3) := by decide +kernel
theorem dX8_feeOf_20 : decode cX8_feeOf 20 = .ok (.iload_n 1, 1) := by decide +kernel
theorem dX8_feeOf_21 : decode cX8_feeOf 21 = .ok (.iaload, 1) := by decide +kernel
theorem dX8_feeOf_22 : decode cX8_feeOf 22 = .ok (.i2l, 1) := by decide +kernel
theorem dX8_feeOf_23 : decode cX8_feeOf 23 = .ok (.lcmp, 1) := by decide +kernel
theorem dX8_feeOf_24 : decode cX8_feeOf 24 = .ok (.ifCond .le 12, 3) := by decide +kernel
theorem dX8_feeOf_27 : decode cX8_feeOf 27 = .ok (.aload_n 0, 1) := by decide +kernel
theorem dX8_feeOf_28 : decode cX8_feeOf 28 = .ok (.getfield 16, 3) := by decide +kernel
theorem dX8_feeOf_31 : decode cX8_feeOf 31 = .ok (.iload_n 1, 1) := by decide +kernel
theorem dX8_feeOf_32 : decode cX8_feeOf 32 = .ok (.iaload, 1) := by decide +kernel
theorem dX8_feeOf_33 : decode cX8_feeOf 33 = .ok (.goto 5, 3) := by decide +kernel
theorem dX8_feeOf_36 : decode cX8_feeOf 36 = .ok (.lload_n 3, 1) := by decide +kernel
theorem dX8_feeOf_37 : decode cX8_feeOf 37 = .ok (.l2i, 1) := by decide +kernel
theorem dX8_feeOf_38 : decode cX8_feeOf 38 = .ok (.ireturn, 1) := by decide +kernel
set_option maxRecDepth 20000 in
theorem ggX8_kind_X8_isIn : GoodIn wsX8_kind wsX8_isIn := goodIn_r _ [6] (by decide +kernel) (by decide +kernel)
set_option maxRecDepth 20000 in
theorem gX8_kind_X8_isIn : GoodIn wsX8_kind (va_wsS RX8 74 yX8_isIn wsX8_isIn) := goodIn_app (goodIn_of _ (by decide +kernel)) ggX8_kind_X8_isIn
set_option maxRecDepth 20000 in
theorem ggX8_kind_X8_isKind : GoodIn wsX8_kind wsX8_isKind := goodIn_r _ [9, 3, 4, 5, 6] (by decide +kernel) (by decide +kernel)
set_option maxRecDepth 20000 in
theorem gX8_kind_X8_isKind : GoodIn wsX8_kind (va_wsS RX8 82 yX8_isKind wsX8_isKind) := goodIn_app (goodIn_of _ (by decide +kernel)) ggX8_kind_X8_isKind
set_option maxRecDepth 20000 in
theorem ggX8_kind_X8_fails : GoodIn wsX8_kind wsX8_fails := goodIn_r _ [13, 14, 20, 21, 22, 23, 24, 25, 26, 27, 28, 29, 30, 31, 32, 33, 34, 35, 36, 37, 38, 39, 40, 41, 42, 43, 44] (by decide +kernel) (by decide +kernel)
set_option maxRecDepth 20000 in
theorem gX8_kind_X8_fails : GoodIn wsX8_kind (wsV RX8 85 RX8 yX8_fails wsX8_fails) := goodIn_app (goodIn_of _ (by decide +kernel)) ggX8_kind_X8_fails
set_option maxRecDepth 20000 in
theorem ggX8_kind_X8_feeOf : GoodIn wsX8_kind wsX8_feeOf := goodIn_r _ [18, 1, 19, 2, 20, 21, 22, 23, 24, 25, 26, 27, 28, 29, 30, 31, 32, 33, 34, 35, 36, 37, 38, 39, 40, 41, 42, 43, 44] (by decide +kernel) (by decide +kernel)
set_option maxRecDepth 20000 in
theorem gX8_kind_X8_feeOf : GoodIn wsX8_kind (wsV RX8 90 RX8 yX8_feeOf wsX8_feeOf) := goodIn_app (goodIn_of _ (by decide +kernel)) ggX8_kind_X8_feeOf
theorem dX8_kind_0 : decode cX8_kind 0 = .ok (.iload_n 2, 1) := by decide +kernel
theorem dX8_kind_1 : decode cX8_kind 1 = .ok (.iconst 0, 1) := by decide +kernel
theorem dX8_kind_2 : decode cX8_kind 2 = .ok (.bipush 100, 2) := by decide +kernel
theorem dX8_kind_4 : decode cX8_kind 4 = .ok (.invokestatic 74, 3) := by decide +kernel
theorem dX8_kind_7 : decode cX8_kind 7 = .ok (.ifCond .eq 18, 3) := by decide +kernel
theorem dX8_kind_10 : decode cX8_kind 10 = .ok (.iload_n 3, 1) := by decide +kernel
theorem dX8_kind_11 : decode cX8_kind 11 = .ok (.iconst 0, 1) := by decide +kernel
theorem dX8_kind_12 : decode cX8_kind 12 = .ok (.sipush 9999, 3) := by decide +kernel
theorem dX8_kind_15 : decode cX8_kind 15 = .ok (.invokestatic 74, 3) := by decide +kernel
theorem dX8_kind_18 : decode cX8_kind 18 = .ok (.ifCond .eq 7, 3) := by decide +kernel
theorem dX8_kind_21 : decode cX8_kind 21 = .ok (.iconst 1, 1) := by decide +kernel
theorem dX8_kind_22 : decode cX8_kind 22 = .ok (.goto 4, 3) := by decide +kernel
theorem dX8_kind_25 : decode cX8_kind 25 = .ok (.iconst 0, 1) := by decide +kernel
theorem dX8_kind_26 : decode cX8_kind 26 = .ok (.istore 4, 2) := by decide +kernel
theorem dX8_kind_28 : decode cX8_kind 28 = .ok (.aload_n 0, 1) := by decide +kernel
theorem dX8_kind_29 : decode cX8_kind 29 = .ok (.iload_n 1, 1) := by decide +kernel
theorem dX8_kind_30 : decode cX8_kind 30 = .ok (.invokestatic 82, 3) := by decide +kernel
theorem dX8_kind_33 : decode cX8_kind 33 = .ok (.ifCond .ne 7, 3) := by decide +kernel
theorem dX8_kind_36 : decode cX8_kind 36 = .ok (.iconst 1, 1) := by decide +kernel
theorem dX8_kind_37 : decode cX8_kind 37 = .ok (.goto 13, 3) := by decide +kernel
theorem dX8_kind_40 : decode cX8_kind 40 = .ok (.iload 4, 2) := by decide +kernel
theorem dX8_kind_42 : decode cX8_kind 42 = .ok (.ifCond .eq 7, 3) := by decide +kernel
theorem dX8_kind_45 : decode cX8_kind 45 = .ok (.iconst 0, 1) := by decide +kernel
theorem dX8_kind_46 : decode cX8_kind 46 = .ok (.goto 4, 3) := by decide +kernel
theorem dX8_kind_49 : decode cX8_kind 49 = .ok (.iconst 2, 1) := by decide +kernel
theorem dX8_kind_50 : decode cX8_kind 50 = .ok (.invokevirtual 85, 3) := by decide +kernel
theorem dX8_kind_53 : decode cX8_kind 53 = .ok (.ifCond .eq 5, 3) := by decide +kernel
theorem dX8_kind_56 : decode cX8_kind 56 = .ok (.iconst 0, 1) := by decide +kernel
theorem dX8_kind_57 : decode cX8_kind 57 = .ok (.ireturn, 1) := by decide +kernel
theorem dX8_kind_58 : decode cX8_kind 58 = .ok (.aload_n 0, 1) := by decide +kernel
theorem dX8_kind_59 : decode cX8_kind 59 = .ok (.getfield 13, 3) := by decide +kernel
theorem dX8_kind_62 : decode cX8_kind 62 = .ok (.iload_n 1, 1) := by decide +kernel
theorem dX8_kind_63 : decode cX8_kind 63 = .ok (.iload_n 2, 1) := by decide +kernel
theorem dX8_kind_64 : decode cX8_kind 64 = .ok (.iastore, 1) := by decide +kernel
theorem dX8_kind_65 : decode cX8_kind 65 = .ok (.aload_n 0, 1) := by decide +kernel
theorem dX8_kind_66 : decode cX8_kind 66 = .ok (.getfield 16, 3) := by decide +kernel
theorem dX8_kind_69 : decode cX8_kind 69 = .ok (.iload_n 1, 1) := by decide +kernel
theorem dX8_kind_70 : decode cX8_kind 70 = .ok (.iload_n 3, 1) := by decide +kernel
theorem dX8_kind_71 : decode cX8_kind 71 = .ok (.iastore, 1) := by decide +kernel
theorem dX8_kind_72 : decode cX8_kind 72 = .ok (.aload_n 0, 1) := by decide +kernel
theorem dX8_kind_73 : decode cX8_kind 73 = .ok (.iload_n 1, 1) := by decide +kernel
theorem dX8_kind_74 : decode cX8_kind 74 = .ok (.sipush 10000, 3) := by decide +kernel
theorem dX8_kind_77 : decode cX8_kind 77 = .ok (.invokevirtual 90, 3) := by decide +kernel
theorem dX8_kind_80 : decode cX8_kind 80 = .ok (.ireturn, 1) := by decide +kernel
theorem dX8_limitOf_0 : decode cX8_limitOf 0 = .ok (.iconst 0, 1) := by decide +kernel
theorem dX8_limitOf_1 : decode cX8_limitOf 1 = .ok (.istore_n 2, 1) := by decide +kernel
theorem dX8_limitOf_2 : decode cX8_limitOf 2 = .ok (.lconst 0, 1) := by decide +kernel
theorem dX8_limitOf_3 : decode cX8_limitOf 3 = .ok (.lstore_n 3, 1) := by decide +kernel
theorem dX8_limitOf_4 : decode cX8_limitOf 4 = .ok (.aload_n 0, 1) := by decide +kernel
theorem dX8_limitOf_5 : decode cX8_limitOf 5 = .ok (.getfield 94, 3) := by decide +kernel
theorem dX8_limitOf_8 : decode cX8_limitOf 8 = .ok (.iconst 1, 1) := by decide +kernel
theorem dX8_limitOf_9 : decode cX8_limitOf 9 = .ok (.isub, 1) := by decide +kernel
theorem dX8_limitOf_10 : decode cX8_limitOf 10 = .ok (.istore 5, 2) := by decide +kernel
theorem dX8_limitOf_12 : decode cX8_limitOf 12 = .ok (.iload 5, 2) := by decide +kernel
theorem dX8_limitOf_14 : decode cX8_limitOf 14 = .ok (.ifCond .lt 44, 3) := by decide +kernel
theorem dX8_limitOf_17 : decode cX8_limitOf 17 = .ok (.iload_n 2, 1) := by decide +kernel
theorem dX8_limitOf_18 : decode cX8_limitOf 18 = .ok (.iconst 5, 1) := by decide +kernel
theorem dX8_limitOf_19 : decode cX8_limitOf 19 = .ok (.if_icmp .ge 39, 3) := by decide +kernel
theorem dX8_limitOf_22 : decode cX8_limitOf 22 = .ok (.aload_n 0, 1) := by decide +kernel
theorem dX8_limitOf_23 : decode cX8_limitOf 23 = .ok (.getfield 19, 3) := by decide +kernel
theorem dX8_limitOf_26 : decode cX8_limitOf 26 = .ok (.aload_n 0, 1) := by decide +kernel
theorem dX8_limitOf_27 : decode cX8_limitOf 27 = .ok (.getfield 38, 3) := by decide +kernel
theorem dX8_limitOf_30 : decode cX8_limitOf 30 = .ok (.iload 5, 2) := by decide +kernel
theorem dX8_limitOf_32 : decode cX8_limitOf 32 = .ok (.iaload, 1) := by decide +kernel
theorem dX8_limitOf_33 : decode cX8_limitOf 33 = .ok (.iaload, 1) := by decide +kernel
theorem dX8_limitOf_34 : decode cX8_limitOf 34 = .ok (.iload_n 1, 1) := by decide +kernel
theorem dX8_limitOf_35 : decode cX8_limitOf 35 = .ok (.if_icmp .ne 17, 3) := by decide +kernel
theorem dX8_limitOf_38 : decode cX8_limitOf 38 = .ok (.lload_n 3, 1) := by decide +kernel
theorem dX8_limitOf_39 : decode cX8_limitOf 39 = .ok (.aload_n 0, 1) := by decide +kernel
theorem dX8_limitOf_40 : decode cX8_limitOf 40 = .ok (.getfield 41, 3) := by decide +kernel
theorem dX8_limitOf_43 : decode cX8_limitOf 43 = .ok (.iload 5, 2) := by decide +kernel
theorem dX8_limitOf_45 : decode cX8_limitOf 45 = .ok (.iaload, 1) := by decide +kernel
theorem dX8_limitOf_46 : decode cX8_limitOf 46 = .ok (.i2l, 1) := by decide +kernel
theorem dX8_limitOf_47 : decode cX8_limitOf 47 = .ok (.ladd, 1) := by decide +kernel
theorem dX8_limitOf_48 : decode cX8_limitOf 48 = .ok (.lstore_n 3, 1) := by decide +kernel
theorem dX8_limitOf_49 : decode cX8_limitOf 49 = .ok (.iinc 2 1, 3) := by decide +kernel
theorem dX8_limitOf_52 : decode cX8_limitOf 52 = .ok (.iinc 5 (-1), 3) := by decide +kernel
theorem dX8_limitOf_55 : decode cX8_limitOf 55 = .ok (.goto (-43), 3) := by decide +kernel
theorem dX8_limitOf_58 : decode cX8_limitOf 58 = .ok (.iload_n 2, 1) := by decide +kernel
theorem dX8_limitOf_59 : decode cX8_limitOf 59 = .ok (.ifCond .ne 7, 3) := by decide +kernel
theorem dX8_limitOf_62 : decode cX8_limitOf 62 = .ok (.sipush 10000, 3) := by decide +kernel
theorem dX8_limitOf_65 : decode cX8_limitOf 65 = .ok (.ireturn, 1) := by decide +kernel
theorem dX8_limitOf_66 : decode cX8_limitOf 66 = .ok (.ldc2_w 97, 3) := by decide +kernel
theorem dX8_limitOf_69 : decode cX8_limitOf 69 = .ok (.lload_n 3, 1) := by decide +kernel
theorem dX8_limitOf_70 : decode cX8_limitOf 70 = .ok (.lmul, 1) := by decide +kernel
theorem dX8_limitOf_71 : decode cX8_limitOf 71 = .ok (.iload_n 2, 1) := by decide +kernel
theorem dX8_limitOf_72 : decode cX8_limitOf 72 = .ok (.i2l, 1) := by decide +kernel
theorem dX8_limitOf_73 : decode cX8_limitOf 73 = .ok (.ldiv, 1) := by decide +kernel
theorem dX8_limitOf_74 : decode cX8_limitOf 74 = .ok (.lstore 5, 2) := by decide +kernel
theorem dX8_limitOf_76 : decode cX8_limitOf 76 = .ok (.lload 5, 2) := by decide +kernel
theorem dX8_limitOf_78 : decode cX8_limitOf 78 = .ok (.ldc2_w 99, 3) := by decide +kernel
theorem dX8_limitOf_81 : decode cX8_limitOf 81 = .ok (.lcmp, 1) := by decide +kernel
theorem dX8_limitOf_82 : decode cX8_limitOf 82 = .ok (.ifCond .ge 9, 3) := by decide +kernel
theorem dX8_limitOf_85 : decode cX8_limitOf 85 = .ok (.sipush 500, 3) := by decide +kernel
theorem dX8_limitOf_88 : decode cX8_limitOf 88 = .ok (.goto 6, 3) := by decide +kernel
theorem dX8_limitOf_91 : decode cX8_limitOf 91 = .ok (.lload 5, 2) := by decide +kernel
theorem dX8_limitOf_93 : decode cX8_limitOf 93 = .ok (.l2i, 1) := by decide +kernel
theorem dX8_limitOf_94 : decode cX8_limitOf 94 = .ok (.ireturn, 1) := by decide +kernel
set_option maxRecDepth 20000 in
theorem ggX8_authorise_X8_isCard : GoodIn wsX8_authorise wsX8_isCard := goodIn_r _ [10, 11, 12, 9, 13] (by decide +kernel) (by decide +kernel)
set_option maxRecDepth 20000 in
theorem gX8_authorise_X8_isCard : GoodIn wsX8_authorise (va_wsS RX8 101 yX8_isCard wsX8_isCard) := goodIn_app (goodIn_of _ (by decide +kernel)) ggX8_authorise_X8_isCard
set_option maxRecDepth 20000 in
theorem ggX8_authorise_X8_isShop : GoodIn wsX8_authorise wsX8_isShop := goodIn_r _ [16, 11, 12, 9, 13] (by decide +kernel) (by decide +kernel)
set_option maxRecDepth 20000 in
theorem gX8_authorise_X8_isShop : GoodIn wsX8_authorise (va_wsS RX8 78 yX8_isShop wsX8_isShop) := goodIn_app (goodIn_of _ (by decide +kernel)) ggX8_authorise_X8_isShop
set_option maxRecDepth 20000 in
theorem ggX8_authorise_X8_isAmount : GoodIn wsX8_authorise wsX8_isAmount := goodIn_r _ [19, 20, 11, 12, 9, 13] (by decide +kernel) (by decide +kernel)
set_option maxRecDepth 20000 in
theorem gX8_authorise_X8_isAmount : GoodIn wsX8_authorise (va_wsS RX8 104 yX8_isAmount wsX8_isAmount) := goodIn_app (goodIn_of _ (by decide +kernel)) ggX8_authorise_X8_isAmount
set_option maxRecDepth 20000 in
theorem ggX8_authorise_X8_fails : GoodIn wsX8_authorise wsX8_fails := goodIn_r _ [24, 25, 35, 36, 37, 38, 39, 40, 41, 42, 43, 44, 45, 46, 47, 48, 49, 50, 51, 52, 53, 54, 55, 56, 57, 58, 59] (by decide +kernel) (by decide +kernel)
set_option maxRecDepth 20000 in
theorem gX8_authorise_X8_fails : GoodIn wsX8_authorise (wsV RX8 85 RX8 yX8_fails wsX8_fails) := goodIn_app (goodIn_of _ (by decide +kernel)) ggX8_authorise_X8_fails
set_option maxRecDepth 20000 in
theorem ggX8_authorise_X8_limitOf : GoodIn wsX8_authorise wsX8_limitOf := goodIn_r _ [29, 30, 2, 31, 32, 33, 34, 35, 36, 37, 38, 39, 40, 41, 42, 43, 44, 45, 46, 47, 48, 49, 50, 51, 52, 53, 54, 55, 56, 57, 58, 59] (by decide +kernel) (by decide +kernel)
set_option maxRecDepth 20000 in
theorem gX8_authorise_X8_limitOf : GoodIn wsX8_authorise (wsV RX8 110 RX8 yX8_limitOf wsX8_limitOf) := goodIn_app (goodIn_of _ (by decide +kernel)) ggX8_authorise_X8_limitOf
theorem dX8_authorise_0 : decode cX8_authorise 0 = .ok (.iload_n 1, 1) := by decide +kernel
theorem dX8_authorise_1 : decode cX8_authorise 1 = .ok (.invokestatic 101, 3) := by decide +kernel
theorem dX8_authorise_4 : decode cX8_authorise 4 = .ok (.ifCond .eq 14, 3) := by decide +kernel
theorem dX8_authorise_7 : decode cX8_authorise 7 = .ok (.iload_n 2, 1) := by decide +kernel
theorem dX8_authorise_8 : decode cX8_authorise 8 = .ok (.invokestatic 78, 3) := by decide +kernel
theorem dX8_authorise_11 : decode cX8_authorise 11 = .ok (.ifCond .eq 7, 3) := by decide +kernel
theorem dX8_authorise_14 : decode cX8_authorise 14 = .ok (.iconst 1, 1) := by decide +kernel
theorem dX8_authorise_15 : decode cX8_authorise 15 = .ok (.goto 4, 3) := by decide +kernel
theorem dX8_authorise_18 : decode cX8_authorise 18 = .ok (.iconst 0, 1) := by decide +kernel
theorem dX8_authorise_19 : decode cX8_authorise 19 = .ok (.istore 4, 2) := by decide +kernel
theorem dX8_authorise_21 : decode cX8_authorise 21 = .ok (.aload_n 0, 1) := by decide +kernel
theorem dX8_authorise_22 : decode cX8_authorise 22 = .ok (.iload 4, 2) := by decide +kernel
theorem dX8_authorise_24 : decode cX8_authorise 24 = .ok (.ifCond .ne 7, 3) := by decide +kernel
theorem dX8_authorise_27 : decode cX8_authorise 27 = .ok (.iconst 1, 1) := by decide +kernel
theorem dX8_authorise_28 : decode cX8_authorise 28 = .ok (.goto 28, 3) := by decide +kernel
theorem dX8_authorise_31 : decode cX8_authorise 31 = .ok (.iload_n 3, 1) := by decide +kernel
theorem dX8_authorise_32 : decode cX8_authorise 32 = .ok (.invokestatic 104, 3) := by decide +kernel
theorem dX8_authorise_35 : decode cX8_authorise 35 = .ok (.ifCond .ne 7, 3) := by decide +kernel
theorem dX8_authorise_38 : decode cX8_authorise 38 = .ok (.iconst 2, 1) := by decide +kernel
theorem dX8_authorise_39 : decode cX8_authorise 39 = .ok (.goto 17, 3) := by decide +kernel
theorem dX8_authorise_42 : decode cX8_authorise 42 = .ok (.aload_n 0, 1) := by decide +kernel
theorem dX8_authorise_43 : decode cX8_authorise 43 = .ok (.getfield 107, 3) := by decide +kernel
theorem dX8_authorise_46 : decode cX8_authorise 46 = .ok (.bipush 60, 2) := by decide +kernel
theorem dX8_authorise_48 : decode cX8_authorise 48 = .ok (.if_icmp .ne 7, 3) := by decide +kernel
theorem dX8_authorise_51 : decode cX8_authorise 51 = .ok (.iconst 3, 1) := by decide +kernel
theorem dX8_authorise_52 : decode cX8_authorise 52 = .ok (.goto 4, 3) := by decide +kernel
theorem dX8_authorise_55 : decode cX8_authorise 55 = .ok (.iconst 0, 1) := by decide +kernel
theorem dX8_authorise_56 : decode cX8_authorise 56 = .ok (.invokevirtual 85, 3) := by decide +kernel
theorem dX8_authorise_59 : decode cX8_authorise 59 = .ok (.ifCond .eq 5, 3) := by decide +kernel
theorem dX8_authorise_62 : decode cX8_authorise 62 = .ok (.iconst 0, 1) := by decide +kernel
theorem dX8_authorise_63 : decode cX8_authorise 63 = .ok (.ireturn, 1) := by decide +kernel
theorem dX8_authorise_64 : decode cX8_authorise 64 = .ok (.iload_n 3, 1) := by decide +kernel
theorem dX8_authorise_65 : decode cX8_authorise 65 = .ok (.aload_n 0, 1) := by decide +kernel
theorem dX8_authorise_66 : decode cX8_authorise 66 = .ok (.iload_n 1, 1) := by decide +kernel
theorem dX8_authorise_67 : decode cX8_authorise 67 = .ok (.invokevirtual 110, 3) := by decide +kernel
theorem dX8_authorise_70 : decode cX8_authorise 70 = .ok (.if_icmp .le 5, 3) := by decide +kernel
theorem dX8_authorise_73 : decode cX8_authorise 73 = .ok (.iconst (-1), 1) := by decide +kernel
theorem dX8_authorise_74 : decode cX8_authorise 74 = .ok (.ireturn, 1) := by decide +kernel
theorem dX8_authorise_75 : decode cX8_authorise 75 = .ok (.aload_n 0, 1) := by decide +kernel
theorem dX8_authorise_76 : decode cX8_authorise 76 = .ok (.getfield 19, 3) := by decide +kernel
theorem dX8_authorise_79 : decode cX8_authorise 79 = .ok (.aload_n 0, 1) := by decide +kernel
theorem dX8_authorise_80 : decode cX8_authorise 80 = .ok (.getfield 107, 3) := by decide +kernel
theorem dX8_authorise_83 : decode cX8_authorise 83 = .ok (.iload_n 1, 1) := by decide +kernel
theorem dX8_authorise_84 : decode cX8_authorise 84 = .ok (.iastore, 1) := by decide +kernel
theorem dX8_authorise_85 : decode cX8_authorise 85 = .ok (.aload_n 0, 1) := by decide +kernel
theorem dX8_authorise_86 : decode cX8_authorise 86 = .ok (.getfield 22, 3) := by decide +kernel
theorem dX8_authorise_89 : decode cX8_authorise 89 = .ok (.aload_n 0, 1) := by decide +kernel
theorem dX8_authorise_90 : decode cX8_authorise 90 = .ok (.getfield 107, 3) := by decide +kernel
theorem dX8_authorise_93 : decode cX8_authorise 93 = .ok (.iload_n 2, 1) := by decide +kernel
theorem dX8_authorise_94 : decode cX8_authorise 94 = .ok (.iastore, 1) := by decide +kernel
theorem dX8_authorise_95 : decode cX8_authorise 95 = .ok (.aload_n 0, 1) := by decide +kernel
theorem dX8_authorise_96 : decode cX8_authorise 96 = .ok (.getfield 25, 3) := by decide +kernel
theorem dX8_authorise_99 : decode cX8_authorise 99 = .ok (.aload_n 0, 1) := by decide +kernel
theorem dX8_authorise_100 : decode cX8_authorise 100 = .ok (.getfield 107, 3) := by decide +kernel
theorem dX8_authorise_103 : decode cX8_authorise 103 = .ok (.iload_n 3, 1) := by decide +kernel
theorem dX8_authorise_104 : decode cX8_authorise 104 = .ok (.iastore, 1) := by decide +kernel
theorem dX8_authorise_105 : decode cX8_authorise 105 = .ok (.aload_n 0, 1) := by decide +kernel
theorem dX8_authorise_106 : decode cX8_authorise 106 = .ok (.getfield 31, 3) := by decide +kernel
theorem dX8_authorise_109 : decode cX8_authorise 109 = .ok (.aload_n 0, 1) := by decide +kernel
theorem dX8_authorise_110 : decode cX8_authorise 110 = .ok (.getfield 107, 3) := by decide +kernel
theorem dX8_authorise_113 : decode cX8_authorise 113 = .ok (.aload_n 0, 1) := by decide +kernel
theorem dX8_authorise_114 : decode cX8_authorise 114 = .ok (.getfield 114, 3) := by decide +kernel
theorem dX8_authorise_117 : decode cX8_authorise 117 = .ok (.bipush 7, 2) := by decide +kernel
theorem dX8_authorise_119 : decode cX8_authorise 119 = .ok (.iadd, 1) := by decide +kernel
theorem dX8_authorise_120 : decode cX8_authorise 120 = .ok (.iastore, 1) := by decide +kernel
theorem dX8_authorise_121 : decode cX8_authorise 121 = .ok (.aload_n 0, 1) := by decide +kernel
theorem dX8_authorise_122 : decode cX8_authorise 122 = .ok (.dup, 1) := by decide +kernel
theorem dX8_authorise_123 : decode cX8_authorise 123 = .ok (.getfield 107, 3) := by decide +kernel
theorem dX8_authorise_126 : decode cX8_authorise 126 = .ok (.iconst 1, 1) := by decide +kernel
theorem dX8_authorise_127 : decode cX8_authorise 127 = .ok (.iadd, 1) := by decide +kernel
theorem dX8_authorise_128 : decode cX8_authorise 128 = .ok (.putfield 107, 3) := by decide +kernel
theorem dX8_authorise_131 : decode cX8_authorise 131 = .ok (.aload_n 0, 1) := by decide +kernel
theorem dX8_authorise_132 : decode cX8_authorise 132 = .ok (.getfield 107, 3) := by decide +kernel
theorem dX8_authorise_135 : decode cX8_authorise 135 = .ok (.iconst 1, 1) := by decide +kernel
theorem dX8_authorise_136 : decode cX8_authorise 136 = .ok (.isub, 1) := by decide +kernel
theorem dX8_authorise_137 : decode cX8_authorise 137 = .ok (.ireturn, 1) := by decide +kernel
set_option maxRecDepth 20000 in
theorem ggX8_isPayment_X8_isIn : GoodIn wsX8_isPayment wsX8_isIn := goodIn_r _ [5] (by decide +kernel) (by decide +kernel)
set_option maxRecDepth 20000 in
theorem gX8_isPayment_X8_isIn : GoodIn wsX8_isPayment (va_wsS RX8 74 yX8_isIn wsX8_isIn) := goodIn_app (goodIn_of _ (by decide +kernel)) ggX8_isPayment_X8_isIn
theorem dX8_isPayment_0 : decode cX8_isPayment 0 = .ok (.iload_n 1, 1) := by decide +kernel
theorem dX8_isPayment_1 : decode cX8_isPayment 1 = .ok (.iconst 0, 1) := by decide +kernel
theorem dX8_isPayment_2 : decode cX8_isPayment 2 = .ok (.aload_n 0, 1) := by decide +kernel
theorem dX8_isPayment_3 : decode cX8_isPayment 3 = .ok (.getfield 107, 3) := by decide +kernel
theorem dX8_isPayment_6 : decode cX8_isPayment 6 = .ok (.iconst 1, 1) := by decide +kernel
theorem dX8_isPayment_7 : decode cX8_isPayment 7 = .ok (.isub, 1) := by decide +kernel
theorem dX8_isPayment_8 : decode cX8_isPayment 8 = .ok (.invokestatic 74, 3) := by decide +kernel
theorem dX8_isPayment_11 : decode cX8_isPayment 11 = .ok (.ireturn, 1) := by decide +kernel
theorem dX8_isOpen_0 : decode cX8_isOpen 0 = .ok (.aload_n 0, 1) := by decide +kernel
theorem dX8_isOpen_1 : decode cX8_isOpen 1 = .ok (.getfield 34, 3) := by decide +kernel
theorem dX8_isOpen_4 : decode cX8_isOpen 4 = .ok (.iload_n 1, 1) := by decide +kernel
theorem dX8_isOpen_5 : decode cX8_isOpen 5 = .ok (.baload, 1) := by decide +kernel
theorem dX8_isOpen_6 : decode cX8_isOpen 6 = .ok (.ifCond .ne 20, 3) := by decide +kernel
theorem dX8_isOpen_9 : decode cX8_isOpen 9 = .ok (.aload_n 0, 1) := by decide +kernel
theorem dX8_isOpen_10 : decode cX8_isOpen 10 = .ok (.getfield 114, 3) := by decide +kernel
theorem dX8_isOpen_13 : decode cX8_isOpen 13 = .ok (.aload_n 0, 1) := by decide +kernel
theorem dX8_isOpen_14 : decode cX8_isOpen 14 = .ok (.getfield 31, 3) := by decide +kernel
theorem dX8_isOpen_17 : decode cX8_isOpen 17 = .ok (.iload_n 1, 1) := by decide +kernel
theorem dX8_isOpen_18 : decode cX8_isOpen 18 = .ok (.iaload, 1) := by decide +kernel
theorem dX8_isOpen_19 : decode cX8_isOpen 19 = .ok (.if_icmp .gt 7, 3) := by decide +kernel
theorem dX8_isOpen_22 : decode cX8_isOpen 22 = .ok (.iconst 1, 1) := by decide +kernel
theorem dX8_isOpen_23 : decode cX8_isOpen 23 = .ok (.goto 4, 3) := by decide +kernel
theorem dX8_isOpen_26 : decode cX8_isOpen 26 = .ok (.iconst 0, 1) := by decide +kernel
theorem dX8_isOpen_27 : decode cX8_isOpen 27 = .ok (.ireturn, 1) := by decide +kernel
theorem dX8_pays_0 : decode cX8_pays 0 = .ok (.aload_n 0, 1) := by decide +kernel
theorem dX8_pays_1 : decode cX8_pays 1 = .ok (.getfield 62, 3) := by decide +kernel
theorem dX8_pays_4 : decode cX8_pays 4 = .ok (.iload_n 1, 1) := by decide +kernel
theorem dX8_pays_5 : decode cX8_pays 5 = .ok (.dup2, 1) := by decide +kernel
theorem dX8_pays_6 : decode cX8_pays 6 = .ok (.laload, 1) := by decide +kernel
theorem dX8_pays_7 : decode cX8_pays 7 = .ok (.iload_n 3, 1) := by decide +kernel
theorem dX8_pays_8 : decode cX8_pays 8 = .ok (.i2l, 1) := by decide +kernel
theorem dX8_pays_9 : decode cX8_pays 9 = .ok (.lsub, 1) := by decide +kernel
theorem dX8_pays_10 : decode cX8_pays 10 = .ok (.lastore, 1) := by decide +kernel
theorem dX8_pays_11 : decode cX8_pays 11 = .ok (.aload_n 0, 1) := by decide +kernel
theorem dX8_pays_12 : decode cX8_pays 12 = .ok (.getfield 62, 3) := by decide +kernel
theorem dX8_pays_15 : decode cX8_pays 15 = .ok (.iload_n 2, 1) := by decide +kernel
theorem dX8_pays_16 : decode cX8_pays 16 = .ok (.dup2, 1) := by decide +kernel
theorem dX8_pays_17 : decode cX8_pays 17 = .ok (.laload, 1) := by decide +kernel
theorem dX8_pays_18 : decode cX8_pays 18 = .ok (.iload_n 3, 1) := by decide +kernel
theorem dX8_pays_19 : decode cX8_pays 19 = .ok (.i2l, 1) := by decide +kernel
theorem dX8_pays_20 : decode cX8_pays 20 = .ok (.ladd, 1) := by decide +kernel
theorem dX8_pays_21 : decode cX8_pays 21 = .ok (.lastore, 1) := by decide +kernel
theorem dX8_pays_22 : decode cX8_pays 22 = .ok (.aload_n 0, 1) := by decide +kernel
theorem dX8_pays_23 : decode cX8_pays 23 = .ok (.getfield 66, 3) := by decide +kernel
theorem dX8_pays_26 : decode cX8_pays 26 = .ok (.iload_n 1, 1) := by decide +kernel
theorem dX8_pays_27 : decode cX8_pays 27 = .ok (.dup2, 1) := by decide +kernel
theorem dX8_pays_28 : decode cX8_pays 28 = .ok (.laload, 1) := by decide +kernel
theorem dX8_pays_29 : decode cX8_pays 29 = .ok (.iload_n 3, 1) := by decide +kernel
theorem dX8_pays_30 : decode cX8_pays 30 = .ok (.i2l, 1) := by decide +kernel
theorem dX8_pays_31 : decode cX8_pays 31 = .ok (.lsub, 1) := by decide +kernel
theorem dX8_pays_32 : decode cX8_pays 32 = .ok (.lastore, 1) := by decide +kernel
theorem dX8_pays_33 : decode cX8_pays 33 = .ok (.aload_n 0, 1) := by decide +kernel
theorem dX8_pays_34 : decode cX8_pays 34 = .ok (.getfield 66, 3) := by decide +kernel
theorem dX8_pays_37 : decode cX8_pays 37 = .ok (.iload_n 2, 1) := by decide +kernel
theorem dX8_pays_38 : decode cX8_pays 38 = .ok (.dup2, 1) := by decide +kernel
theorem dX8_pays_39 : decode cX8_pays 39 = .ok (.laload, 1) := by decide +kernel
theorem dX8_pays_40 : decode cX8_pays 40 = .ok (.iload_n 3, 1) := by decide +kernel
theorem dX8_pays_41 : decode cX8_pays 41 = .ok (.i2l, 1) := by decide +kernel
theorem dX8_pays_42 : decode cX8_pays 42 = .ok (.ladd, 1) := by decide +kernel
theorem dX8_pays_43 : decode cX8_pays 43 = .ok (.lastore, 1) := by decide +kernel
theorem dX8_pays_44 : decode cX8_pays 44 = .ok (.return_, 1) := by decide +kernel
theorem dX8_cardBank_0 : decode cX8_cardBank 0 = .ok (.aload_n 0, 1) := by decide +kernel
theorem dX8_cardBank_1 : decode cX8_cardBank 1 = .ok (.getfield 19, 3) := by decide +kernel
theorem dX8_cardBank_4 : decode cX8_cardBank 4 = .ok (.aload_n 0, 1) := by decide +kernel
theorem dX8_cardBank_5 : decode cX8_cardBank 5 = .ok (.getfield 38, 3) := by decide +kernel
theorem dX8_cardBank_8 : decode cX8_cardBank 8 = .ok (.iload_n 1, 1) := by decide +kernel
theorem dX8_cardBank_9 : decode cX8_cardBank 9 = .ok (.iaload, 1) := by decide +kernel
theorem dX8_cardBank_10 : decode cX8_cardBank 10 = .ok (.iaload, 1) := by decide +kernel
theorem dX8_cardBank_11 : decode cX8_cardBank 11 = .ok (.iconst 3, 1) := by decide +kernel
theorem dX8_cardBank_12 : decode cX8_cardBank 12 = .ok (.idiv, 1) := by decide +kernel
theorem dX8_cardBank_13 : decode cX8_cardBank 13 = .ok (.ireturn, 1) := by decide +kernel
theorem dX8_shopBank_0 : decode cX8_shopBank 0 = .ok (.aload_n 0, 1) := by decide +kernel
theorem dX8_shopBank_1 : decode cX8_shopBank 1 = .ok (.getfield 22, 3) := by decide +kernel
theorem dX8_shopBank_4 : decode cX8_shopBank 4 = .ok (.aload_n 0, 1) := by decide +kernel
theorem dX8_shopBank_5 : decode cX8_shopBank 5 = .ok (.getfield 38, 3) := by decide +kernel
theorem dX8_shopBank_8 : decode cX8_shopBank 8 = .ok (.iload_n 1, 1) := by decide +kernel
theorem dX8_shopBank_9 : decode cX8_shopBank 9 = .ok (.iaload, 1) := by decide +kernel
theorem dX8_shopBank_10 : decode cX8_shopBank 10 = .ok (.iaload, 1) := by decide +kernel
theorem dX8_shopBank_11 : decode cX8_shopBank 11 = .ok (.iconst 4, 1) := by decide +kernel
theorem dX8_shopBank_12 : decode cX8_shopBank 12 = .ok (.irem, 1) := by decide +kernel
theorem dX8_shopBank_13 : decode cX8_shopBank 13 = .ok (.ireturn, 1) := by decide +kernel
set_option maxRecDepth 20000 in
theorem ggX8_capture_X8_isPayment : GoodIn wsX8_capture wsX8_isPayment := goodIn_r _ [14, 15, 16, 17, 13, 18, 57, 58, 59, 60, 61, 62, 63, 64, 65, 66, 67, 68, 69, 70, 71, 72, 73, 74, 75, 76, 77, 78, 79, 80, 81] (by decide +kernel) (by decide +kernel)
set_option maxRecDepth 20000 in
theorem gX8_capture_X8_isPayment : GoodIn wsX8_capture (wsV RX8 117 RX8 yX8_isPayment wsX8_isPayment) := goodIn_app (goodIn_of _ (by decide +kernel)) ggX8_capture_X8_isPayment
set_option maxRecDepth 20000 in
theorem ggX8_capture_X8_isOpen : GoodIn wsX8_capture wsX8_isOpen := goodIn_r _ [22, 23, 24, 25, 57, 58, 59, 60, 61, 62, 63, 64, 65, 66, 67, 68, 69, 70, 71, 72, 73, 74, 75, 76, 77, 78, 79, 80, 81] (by decide +kernel) (by decide +kernel)
set_option maxRecDepth 20000 in
theorem gX8_capture_X8_isOpen : GoodIn wsX8_capture (wsV RX8 120 RX8 yX8_isOpen wsX8_isOpen) := goodIn_app (goodIn_of _ (by decide +kernel)) ggX8_capture_X8_isOpen
set_option maxRecDepth 20000 in
theorem ggX8_capture_X8_isAmount : GoodIn wsX8_capture wsX8_isAmount := goodIn_r _ [28, 29, 16, 17, 13, 18] (by decide +kernel) (by decide +kernel)
set_option maxRecDepth 20000 in
theorem gX8_capture_X8_isAmount : GoodIn wsX8_capture (va_wsS RX8 104 yX8_isAmount wsX8_isAmount) := goodIn_app (goodIn_of _ (by decide +kernel)) ggX8_capture_X8_isAmount
set_option maxRecDepth 20000 in
theorem ggX8_capture_X8_fails : GoodIn wsX8_capture wsX8_fails := goodIn_r _ [33, 34, 57, 58, 59, 60, 61, 62, 63, 64, 65, 66, 67, 68, 69, 70, 71, 72, 73, 74, 75, 76, 77, 78, 79, 80, 81] (by decide +kernel) (by decide +kernel)
set_option maxRecDepth 20000 in
theorem gX8_capture_X8_fails : GoodIn wsX8_capture (wsV RX8 85 RX8 yX8_fails wsX8_fails) := goodIn_app (goodIn_of _ (by decide +kernel)) ggX8_capture_X8_fails
set_option maxRecDepth 20000 in
theorem ggX8_capture_X8_feeOf : GoodIn wsX8_capture wsX8_feeOf := goodIn_r _ [38, 39, 40, 41, 57, 58, 59, 60, 61, 62, 63, 64, 65, 66, 67, 68, 69, 70, 71, 72, 73, 74, 75, 76, 77, 78, 79, 80, 81] (by decide +kernel) (by decide +kernel)
set_option maxRecDepth 20000 in
theorem gX8_capture_X8_feeOf : GoodIn wsX8_capture (wsV RX8 90 RX8 yX8_feeOf wsX8_feeOf) := goodIn_app (goodIn_of _ (by decide +kernel)) ggX8_capture_X8_feeOf
set_option maxRecDepth 20000 in
theorem ggX8_capture_X8_cardBank : GoodIn wsX8_capture wsX8_cardBank := goodIn_r _ [45, 46, 4, 57, 58, 59, 60, 61, 62, 63, 64, 65, 66, 67, 68, 69, 70, 71, 72, 73, 74, 75, 76, 77, 78, 79, 80, 81] (by decide +kernel) (by decide +kernel)
set_option maxRecDepth 20000 in
theorem gX8_capture_X8_cardBank : GoodIn wsX8_capture (wsV RX8 126 RX8 yX8_cardBank wsX8_cardBank) := goodIn_app (goodIn_of _ (by decide +kernel)) ggX8_capture_X8_cardBank
set_option maxRecDepth 20000 in
theorem ggX8_capture_X8_shopBank : GoodIn wsX8_capture wsX8_shopBank := goodIn_r _ [50, 8, 4, 57, 58, 59, 60, 61, 62, 63, 64, 65, 66, 67, 68, 69, 70, 71, 72, 73, 74, 75, 76, 77, 78, 79, 80, 81] (by decide +kernel) (by decide +kernel)
set_option maxRecDepth 20000 in
theorem gX8_capture_X8_shopBank : GoodIn wsX8_capture (wsV RX8 129 RX8 yX8_shopBank wsX8_shopBank) := goodIn_app (goodIn_of _ (by decide +kernel)) ggX8_capture_X8_shopBank
set_option maxRecDepth 20000 in
theorem ggX8_capture_X8_pays : GoodIn wsX8_capture wsX8_pays := goodIn_r _ [54, 55, 56, 57, 58, 59, 60, 61, 62, 63, 64, 65, 66, 67, 68, 69, 70, 71, 72, 73, 74, 75, 76, 77, 78, 79, 80, 81] (by decide +kernel) (by decide +kernel)
set_option maxRecDepth 20000 in
theorem gX8_capture_X8_pays : GoodIn wsX8_capture (wsV RX8 132 RX8 yX8_pays wsX8_pays) := goodIn_app (goodIn_of _ (by decide +kernel)) ggX8_capture_X8_pays
theorem dX8_capture_0 : decode cX8_capture 0 = .ok (.aload_n 0, 1) := by decide +kernel
theorem dX8_capture_1 : decode cX8_capture 1 = .ok (.iload_n 1, 1) := by decide +kernel
theorem dX8_capture_2 : decode cX8_capture 2 = .ok (.invokevirtual 117, 3) := by decide +kernel
theorem dX8_capture_5 : decode cX8_capture 5 = .ok (.ifCond .eq 41, 3) := by decide +kernel
theorem dX8_capture_8 : decode cX8_capture 8 = .ok (.aload_n 0, 1) := by decide +kernel
theorem dX8_capture_9 : decode cX8_capture 9 = .ok (.iload_n 1, 1) := by decide +kernel
theorem dX8_capture_10 : decode cX8_capture 10 = .ok (.invokevirtual 120, 3) := by decide +kernel
theorem dX8_capture_13 : decode cX8_capture 13 = .ok (.ifCond .eq 33, 3) := by decide +kernel
theorem dX8_capture_16 : decode cX8_capture 16 = .ok (.iload_n 2, 1) := by decide +kernel
theorem dX8_capture_17 : decode cX8_capture 17 = .ok (.aload_n 0, 1) := by decide +kernel
theorem dX8_capture_18 : decode cX8_capture 18 = .ok (.getfield 25, 3) := by decide +kernel
theorem dX8_capture_21 : decode cX8_capture 21 = .ok (.iload_n 1, 1) := by decide +kernel
theorem dX8_capture_22 : decode cX8_capture 22 = .ok (.iaload, 1) := by decide +kernel
theorem dX8_capture_23 : decode cX8_capture 23 = .ok (.aload_n 0, 1) := by decide +kernel
theorem dX8_capture_24 : decode cX8_capture 24 = .ok (.getfield 28, 3) := by decide +kernel
theorem dX8_capture_27 : decode cX8_capture 27 = .ok (.iload_n 1, 1) := by decide +kernel
theorem dX8_capture_28 : decode cX8_capture 28 = .ok (.iaload, 1) := by decide +kernel
theorem dX8_capture_29 : decode cX8_capture 29 = .ok (.isub, 1) := by decide +kernel
theorem dX8_capture_30 : decode cX8_capture 30 = .ok (.if_icmp .gt 16, 3) := by decide +kernel
theorem dX8_capture_33 : decode cX8_capture 33 = .ok (.aload_n 0, 1) := by decide +kernel
theorem dX8_capture_34 : decode cX8_capture 34 = .ok (.getfield 94, 3) := by decide +kernel
theorem dX8_capture_37 : decode cX8_capture 37 = .ok (.bipush 100, 2) := by decide +kernel
theorem dX8_capture_39 : decode cX8_capture 39 = .ok (.if_icmp .ge 7, 3) := by decide +kernel
theorem dX8_capture_42 : decode cX8_capture 42 = .ok (.iconst 1, 1) := by decide +kernel
theorem dX8_capture_43 : decode cX8_capture 43 = .ok (.goto 4, 3) := by decide +kernel
theorem dX8_capture_46 : decode cX8_capture 46 = .ok (.iconst 0, 1) := by decide +kernel
theorem dX8_capture_47 : decode cX8_capture 47 = .ok (.istore_n 3, 1) := by decide +kernel
theorem dX8_capture_48 : decode cX8_capture 48 = .ok (.aload_n 0, 1) := by decide +kernel
theorem dX8_capture_49 : decode cX8_capture 49 = .ok (.aload_n 0, 1) := by decide +kernel
theorem dX8_capture_50 : decode cX8_capture 50 = .ok (.iload_n 1, 1) := by decide +kernel
theorem dX8_capture_51 : decode cX8_capture 51 = .ok (.invokevirtual 117, 3) := by decide +kernel
theorem dX8_capture_54 : decode cX8_capture 54 = .ok (.ifCond .ne 7, 3) := by decide +kernel
theorem dX8_capture_57 : decode cX8_capture 57 = .ok (.iconst 1, 1) := by decide +kernel
theorem dX8_capture_58 : decode cX8_capture 58 = .ok (.goto 23, 3) := by decide +kernel
theorem dX8_capture_61 : decode cX8_capture 61 = .ok (.iload_n 2, 1) := by decide +kernel
theorem dX8_capture_62 : decode cX8_capture 62 = .ok (.invokestatic 104, 3) := by decide +kernel
theorem dX8_capture_65 : decode cX8_capture 65 = .ok (.ifCond .ne 7, 3) := by decide +kernel
theorem dX8_capture_68 : decode cX8_capture 68 = .ok (.iconst 2, 1) := by decide +kernel
theorem dX8_capture_69 : decode cX8_capture 69 = .ok (.goto 12, 3) := by decide +kernel
theorem dX8_capture_72 : decode cX8_capture 72 = .ok (.iload_n 3, 1) := by decide +kernel
theorem dX8_capture_73 : decode cX8_capture 73 = .ok (.ifCond .eq 7, 3) := by decide +kernel
theorem dX8_capture_76 : decode cX8_capture 76 = .ok (.iconst 0, 1) := by decide +kernel
theorem dX8_capture_77 : decode cX8_capture 77 = .ok (.goto 4, 3) := by decide +kernel
theorem dX8_capture_80 : decode cX8_capture 80 = .ok (.iconst 3, 1) := by decide +kernel
theorem dX8_capture_81 : decode cX8_capture 81 = .ok (.invokevirtual 85, 3) := by decide +kernel
theorem dX8_capture_84 : decode cX8_capture 84 = .ok (.ifCond .eq 5, 3) := by decide +kernel
theorem dX8_capture_87 : decode cX8_capture 87 = .ok (.iconst 0, 1) := by decide +kernel
theorem dX8_capture_88 : decode cX8_capture 88 = .ok (.ireturn, 1) := by decide +kernel
theorem dX8_capture_89 : decode cX8_capture 89 = .ok (.aload_n 0, 1) := by decide +kernel
theorem dX8_capture_90 : decode cX8_capture 90 = .ok (.getfield 94, 3) := by decide +kernel
theorem dX8_capture_93 : decode cX8_capture 93 = .ok (.istore 4, 2) := by decide +kernel
theorem dX8_capture_95 : decode cX8_capture 95 = .ok (.aload_n 0, 1) := by decide +kernel
theorem dX8_capture_96 : decode cX8_capture 96 = .ok (.getfield 38, 3) := by decide +kernel
theorem dX8_capture_99 : decode cX8_capture 99 = .ok (.iload 4, 2) := by decide +kernel
theorem dX8_capture_101 : decode cX8_capture 101 = .ok (.iload_n 1, 1) := by decide +kernel
theorem dX8_capture_102 : decode cX8_capture 102 = .ok (.iastore, 1) := by decide +kernel
theorem dX8_capture_103 : decode cX8_capture 103 = .ok (.aload_n 0, 1) := by decide +kernel
theorem dX8_capture_104 : decode cX8_capture 104 = .ok (.getfield 41, 3) := by decide +kernel
theorem dX8_capture_107 : decode cX8_capture 107 = .ok (.iload 4, 2) := by decide +kernel
theorem dX8_capture_109 : decode cX8_capture 109 = .ok (.iload_n 2, 1) := by decide +kernel
theorem dX8_capture_110 : decode cX8_capture 110 = .ok (.iastore, 1) := by decide +kernel
theorem dX8_capture_111 : decode cX8_capture 111 = .ok (.aload_n 0, 1) := by decide +kernel
theorem dX8_capture_112 : decode cX8_capture 112 = .ok (.getfield 44, 3) := by decide +kernel
theorem dX8_capture_115 : decode cX8_capture 115 = .ok (.iload 4, 2) := by decide +kernel
theorem dX8_capture_117 : decode cX8_capture 117 = .ok (.aload_n 0, 1) := by decide +kernel
theorem dX8_capture_118 : decode cX8_capture 118 = .ok (.aload_n 0, 1) := by decide +kernel
theorem dX8_capture_119 : decode cX8_capture 119 = .ok (.getfield 7, 3) := by decide +kernel
theorem dX8_capture_122 : decode cX8_capture 122 = .ok (.aload_n 0, 1) := by decide +kernel
theorem dX8_capture_123 : decode cX8_capture 123 = .ok (.getfield 22, 3) := by decide +kernel
theorem dX8_capture_126 : decode cX8_capture 126 = .ok (.iload_n 1, 1) := by decide +kernel
theorem dX8_capture_127 : decode cX8_capture 127 = .ok (.iaload, 1) := by decide +kernel
theorem dX8_capture_128 : decode cX8_capture 128 = .ok (.iaload, 1) := by decide +kernel
theorem dX8_capture_129 : decode cX8_capture 129 = .ok (.iload_n 2, 1) := by decide +kernel
theorem dX8_capture_130 : decode cX8_capture 130 = .ok (.invokevirtual 90, 3) := by decide +kernel
theorem dX8_capture_133 : decode cX8_capture 133 = .ok (.iastore, 1) := by decide +kernel
theorem dX8_capture_134 : decode cX8_capture 134 = .ok (.aload_n 0, 1) := by decide +kernel
theorem dX8_capture_135 : decode cX8_capture 135 = .ok (.getfield 28, 3) := by decide +kernel
theorem dX8_capture_138 : decode cX8_capture 138 = .ok (.iload_n 1, 1) := by decide +kernel
theorem dX8_capture_139 : decode cX8_capture 139 = .ok (.dup2, 1) := by decide +kernel
theorem dX8_capture_140 : decode cX8_capture 140 = .ok (.iaload, 1) := by decide +kernel
theorem dX8_capture_141 : decode cX8_capture 141 = .ok (.iload_n 2, 1) := by decide +kernel
theorem dX8_capture_142 : decode cX8_capture 142 = .ok (.iadd, 1) := by decide +kernel
theorem dX8_capture_143 : decode cX8_capture 143 = .ok (.iastore, 1) := by decide +kernel
theorem dX8_capture_144 : decode cX8_capture 144 = .ok (.aload_n 0, 1) := by decide +kernel
theorem dX8_capture_145 : decode cX8_capture 145 = .ok (.dup, 1) := by decide +kernel
theorem dX8_capture_146 : decode cX8_capture 146 = .ok (.getfield 94, 3) := by decide +kernel
theorem dX8_capture_149 : decode cX8_capture 149 = .ok (.iconst 1, 1) := by decide +kernel
theorem dX8_capture_150 : decode cX8_capture 150 = .ok (.iadd, 1) := by decide +kernel
theorem dX8_capture_151 : decode cX8_capture 151 = .ok (.putfield 94, 3) := by decide +kernel
theorem dX8_capture_154 : decode cX8_capture 154 = .ok (.aload_n 0, 1) := by decide +kernel
theorem dX8_capture_155 : decode cX8_capture 155 = .ok (.dup, 1) := by decide +kernel
theorem dX8_capture_156 : decode cX8_capture 156 = .ok (.getfield 123, 3) := by decide +kernel
theorem dX8_capture_159 : decode cX8_capture 159 = .ok (.aload_n 0, 1) := by decide +kernel
theorem dX8_capture_160 : decode cX8_capture 160 = .ok (.getfield 44, 3) := by decide +kernel
theorem dX8_capture_163 : decode cX8_capture 163 = .ok (.iload 4, 2) := by decide +kernel
theorem dX8_capture_165 : decode cX8_capture 165 = .ok (.iaload, 1) := by decide +kernel
theorem dX8_capture_166 : decode cX8_capture 166 = .ok (.iadd, 1) := by decide +kernel
theorem dX8_capture_167 : decode cX8_capture 167 = .ok (.putfield 123, 3) := by decide +kernel
theorem dX8_capture_170 : decode cX8_capture 170 = .ok (.aload_n 0, 1) := by decide +kernel
theorem dX8_capture_171 : decode cX8_capture 171 = .ok (.aload_n 0, 1) := by decide +kernel
theorem dX8_capture_172 : decode cX8_capture 172 = .ok (.iload 4, 2) := by decide +kernel
theorem dX8_capture_174 : decode cX8_capture 174 = .ok (.invokevirtual 126, 3) := by decide +kernel
theorem dX8_capture_177 : decode cX8_capture 177 = .ok (.aload_n 0, 1) := by decide +kernel
theorem dX8_capture_178 : decode cX8_capture 178 = .ok (.iload 4, 2) := by decide +kernel
theorem dX8_capture_180 : decode cX8_capture 180 = .ok (.invokevirtual 129, 3) := by decide +kernel
theorem dX8_capture_183 : decode cX8_capture 183 = .ok (.iload_n 2, 1) := by decide +kernel
theorem dX8_capture_184 : decode cX8_capture 184 = .ok (.aload_n 0, 1) := by decide +kernel
theorem dX8_capture_185 : decode cX8_capture 185 = .ok (.getfield 44, 3) := by decide +kernel
theorem dX8_capture_188 : decode cX8_capture 188 = .ok (.iload 4, 2) := by decide +kernel
theorem dX8_capture_190 : decode cX8_capture 190 = .ok (.iaload, 1) := by decide +kernel
theorem dX8_capture_191 : decode cX8_capture 191 = .ok (.isub, 1) := by decide +kernel
theorem dX8_capture_192 : decode cX8_capture 192 = .ok (.invokevirtual 132, 3) := by decide +kernel
theorem dX8_capture_195 : decode cX8_capture 195 = .ok (.iload 4, 2) := by decide +kernel
theorem dX8_capture_197 : decode cX8_capture 197 = .ok (.ireturn, 1) := by decide +kernel
set_option maxRecDepth 20000 in
theorem ggX8_cancel_X8_isPayment : GoodIn wsX8_cancel wsX8_isPayment := goodIn_r _ [8, 9, 10, 11, 7, 12, 24, 25, 26, 27, 28, 29, 30, 31, 32, 33, 34, 35, 36, 37, 38, 39, 40, 41, 42, 43, 44, 45, 46, 47, 48] (by decide +kernel) (by decide +kernel)
set_option maxRecDepth 20000 in
theorem gX8_cancel_X8_isPayment : GoodIn wsX8_cancel (wsV RX8 117 RX8 yX8_isPayment wsX8_isPayment) := goodIn_app (goodIn_of _ (by decide +kernel)) ggX8_cancel_X8_isPayment
set_option maxRecDepth 20000 in
theorem ggX8_cancel_X8_isOpen : GoodIn wsX8_cancel wsX8_isOpen := goodIn_r _ [16, 1, 17, 18, 24, 25, 26, 27, 28, 29, 30, 31, 32, 33, 34, 35, 36, 37, 38, 39, 40, 41, 42, 43, 44, 45, 46, 47, 48] (by decide +kernel) (by decide +kernel)
set_option maxRecDepth 20000 in
theorem gX8_cancel_X8_isOpen : GoodIn wsX8_cancel (wsV RX8 120 RX8 yX8_isOpen wsX8_isOpen) := goodIn_app (goodIn_of _ (by decide +kernel)) ggX8_cancel_X8_isOpen
set_option maxRecDepth 20000 in
theorem ggX8_cancel_X8_fails : GoodIn wsX8_cancel wsX8_fails := goodIn_r _ [22, 23, 24, 25, 26, 27, 28, 29, 30, 31, 32, 33, 34, 35, 36, 37, 38, 39, 40, 41, 42, 43, 44, 45, 46, 47, 48] (by decide +kernel) (by decide +kernel)
set_option maxRecDepth 20000 in
theorem gX8_cancel_X8_fails : GoodIn wsX8_cancel (wsV RX8 85 RX8 yX8_fails wsX8_fails) := goodIn_app (goodIn_of _ (by decide +kernel)) ggX8_cancel_X8_fails
theorem dX8_cancel_0 : decode cX8_cancel 0 = .ok (.aload_n 0, 1) := by decide +kernel
theorem dX8_cancel_1 : decode cX8_cancel 1 = .ok (.aload_n 0, 1) := by decide +kernel
theorem dX8_cancel_2 : decode cX8_cancel 2 = .ok (.iload_n 1, 1) := by decide +kernel
theorem dX8_cancel_3 : decode cX8_cancel 3 = .ok (.invokevirtual 117, 3) := by decide +kernel
theorem dX8_cancel_6 : decode cX8_cancel 6 = .ok (.ifCond .ne 7, 3) := by decide +kernel
theorem dX8_cancel_9 : decode cX8_cancel 9 = .ok (.iconst 1, 1) := by decide +kernel
theorem dX8_cancel_10 : decode cX8_cancel 10 = .ok (.goto 16, 3) := by decide +kernel
theorem dX8_cancel_13 : decode cX8_cancel 13 = .ok (.aload_n 0, 1) := by decide +kernel
theorem dX8_cancel_14 : decode cX8_cancel 14 = .ok (.iload_n 1, 1) := by decide +kernel
theorem dX8_cancel_15 : decode cX8_cancel 15 = .ok (.invokevirtual 120, 3) := by decide +kernel
theorem dX8_cancel_18 : decode cX8_cancel 18 = .ok (.ifCond .eq 7, 3) := by decide +kernel
theorem dX8_cancel_21 : decode cX8_cancel 21 = .ok (.iconst 0, 1) := by decide +kernel
theorem dX8_cancel_22 : decode cX8_cancel 22 = .ok (.goto 4, 3) := by decide +kernel
theorem dX8_cancel_25 : decode cX8_cancel 25 = .ok (.iconst 2, 1) := by decide +kernel
theorem dX8_cancel_26 : decode cX8_cancel 26 = .ok (.invokevirtual 85, 3) := by decide +kernel
theorem dX8_cancel_29 : decode cX8_cancel 29 = .ok (.ifCond .eq 5, 3) := by decide +kernel
theorem dX8_cancel_32 : decode cX8_cancel 32 = .ok (.iconst 0, 1) := by decide +kernel
theorem dX8_cancel_33 : decode cX8_cancel 33 = .ok (.ireturn, 1) := by decide +kernel
theorem dX8_cancel_34 : decode cX8_cancel 34 = .ok (.aload_n 0, 1) := by decide +kernel
theorem dX8_cancel_35 : decode cX8_cancel 35 = .ok (.getfield 34, 3) := by decide +kernel
theorem dX8_cancel_38 : decode cX8_cancel 38 = .ok (.iload_n 1, 1) := by decide +kernel
theorem dX8_cancel_39 : decode cX8_cancel 39 = .ok (.iconst 1, 1) := by decide +kernel
theorem dX8_cancel_40 : decode cX8_cancel 40 = .ok (.bastore, 1) := by decide +kernel
theorem dX8_cancel_41 : decode cX8_cancel 41 = .ok (.aload_n 0, 1) := by decide +kernel
theorem dX8_cancel_42 : decode cX8_cancel 42 = .ok (.getfield 25, 3) := by decide +kernel
theorem dX8_cancel_45 : decode cX8_cancel 45 = .ok (.iload_n 1, 1) := by decide +kernel
theorem dX8_cancel_46 : decode cX8_cancel 46 = .ok (.iaload, 1) := by decide +kernel
theorem dX8_cancel_47 : decode cX8_cancel 47 = .ok (.aload_n 0, 1) := by decide +kernel
theorem dX8_cancel_48 : decode cX8_cancel 48 = .ok (.getfield 28, 3) := by decide +kernel
theorem dX8_cancel_51 : decode cX8_cancel 51 = .ok (.iload_n 1, 1) := by decide +kernel
theorem dX8_cancel_52 : decode cX8_cancel 52 = .ok (.iaload, 1) := by decide +kernel
theorem dX8_cancel_53 : decode cX8_cancel 53 = .ok (.isub, 1) := by decide +kernel
theorem dX8_cancel_54 : decode cX8_cancel 54 = .ok (.ireturn, 1) := by decide +kernel
set_option maxRecDepth 20000 in
theorem ggX8_isCapture_X8_isIn : GoodIn wsX8_isCapture wsX8_isIn := goodIn_r _ [5] (by decide +kernel) (by decide +kernel)
set_option maxRecDepth 20000 in
theorem gX8_isCapture_X8_isIn : GoodIn wsX8_isCapture (va_wsS RX8 74 yX8_isIn wsX8_isIn) := goodIn_app (goodIn_of _ (by decide +kernel)) ggX8_isCapture_X8_isIn
theorem dX8_isCapture_0 : decode cX8_isCapture 0 = .ok (.iload_n 1, 1) := by decide +kernel
theorem dX8_isCapture_1 : decode cX8_isCapture 1 = .ok (.iconst 0, 1) := by decide +kernel
theorem dX8_isCapture_2 : decode cX8_isCapture 2 = .ok (.aload_n 0, 1) := by decide +kernel
theorem dX8_isCapture_3 : decode cX8_isCapture 3 = .ok (.getfield 94, 3) := by decide +kernel
theorem dX8_isCapture_6 : decode cX8_isCapture 6 = .ok (.iconst 1, 1) := by decide +kernel
theorem dX8_isCapture_7 : decode cX8_isCapture 7 = .ok (.isub, 1) := by decide +kernel
theorem dX8_isCapture_8 : decode cX8_isCapture 8 = .ok (.invokestatic 74, 3) := by decide +kernel
theorem dX8_isCapture_11 : decode cX8_isCapture 11 = .ok (.ireturn, 1) := by decide +kernel
theorem dX8_givenBack_0 : decode cX8_givenBack 0 = .ok (.aload_n 0, 1) := by decide +kernel
theorem dX8_givenBack_1 : decode cX8_givenBack 1 = .ok (.getfield 47, 3) := by decide +kernel
theorem dX8_givenBack_4 : decode cX8_givenBack 4 = .ok (.iload_n 1, 1) := by decide +kernel
theorem dX8_givenBack_5 : decode cX8_givenBack 5 = .ok (.iaload, 1) := by decide +kernel
theorem dX8_givenBack_6 : decode cX8_givenBack 6 = .ok (.istore_n 2, 1) := by decide +kernel
theorem dX8_givenBack_7 : decode cX8_givenBack 7 = .ok (.iconst 0, 1) := by decide +kernel
theorem dX8_givenBack_8 : decode cX8_givenBack 8 = .ok (.istore_n 3, 1) := by decide +kernel
theorem dX8_givenBack_9 : decode cX8_givenBack 9 = .ok (.iload_n 3, 1) := by decide +kernel
theorem dX8_givenBack_10 : decode cX8_givenBack 10 = .ok (.aload_n 0, 1) := by decide +kernel
theorem dX8_givenBack_11 : decode cX8_givenBack 11 = .ok (.getfield 136, 3) := by decide +kernel
theorem dX8_givenBack_14 : decode cX8_givenBack 14 = .ok (.if_icmp .ge 42, 3) := by decide +kernel
theorem dX8_givenBack_17 : decode cX8_givenBack 17 = .ok (.iload_n 2, 1) := by decide +kernel
theorem dX8_givenBack_18 : decode cX8_givenBack 18 = .ok (.aload_n 0, 1) := by decide +kernel
theorem dX8_givenBack_19 : decode cX8_givenBack 19 = .ok (.getfield 53, 3) := by decide +kernel
theorem dX8_givenBack_22 : decode cX8_givenBack 22 = .ok (.iload_n 3, 1) := by decide +kernel
theorem dX8_givenBack_23 : decode cX8_givenBack 23 = .ok (.iaload, 1) := by decide +kernel
theorem dX8_givenBack_24 : decode cX8_givenBack 24 = .ok (.iload_n 1, 1) := by decide +kernel
theorem dX8_givenBack_25 : decode cX8_givenBack 25 = .ok (.if_icmp .ne 22, 3) := by decide +kernel
theorem dX8_givenBack_28 : decode cX8_givenBack 28 = .ok (.aload_n 0, 1) := by decide +kernel
theorem dX8_givenBack_29 : decode cX8_givenBack 29 = .ok (.getfield 50, 3) := by decide +kernel
theorem dX8_givenBack_32 : decode cX8_givenBack 32 = .ok (.iload_n 3, 1) := by decide +kernel
theorem dX8_givenBack_33 : decode cX8_givenBack 33 = .ok (.iaload, 1) := by decide +kernel
theorem dX8_givenBack_34 : decode cX8_givenBack 34 = .ok (.iconst 4, 1) := by decide +kernel
theorem dX8_givenBack_35 : decode cX8_givenBack 35 = .ok (.if_icmp .eq 12, 3) := by decide +kernel
theorem dX8_givenBack_38 : decode cX8_givenBack 38 = .ok (.aload_n 0, 1) := by decide +kernel
theorem dX8_givenBack_39 : decode cX8_givenBack 39 = .ok (.getfield 56, 3) := by decide +kernel
theorem dX8_givenBack_42 : decode cX8_givenBack 42 = .ok (.iload_n 3, 1) := by decide +kernel
theorem dX8_givenBack_43 : decode cX8_givenBack 43 = .ok (.iaload, 1) := by decide +kernel
theorem dX8_givenBack_44 : decode cX8_givenBack 44 = .ok (.goto 4, 3) := by decide +kernel
theorem dX8_givenBack_47 : decode cX8_givenBack 47 = .ok (.iconst 0, 1) := by decide +kernel
theorem dX8_givenBack_48 : decode cX8_givenBack 48 = .ok (.iadd, 1) := by decide +kernel
theorem dX8_givenBack_49 : decode cX8_givenBack 49 = .ok (.istore_n 2, 1) := by decide +kernel
theorem dX8_givenBack_50 : decode cX8_givenBack 50 = .ok (.iinc 3 1, 3) := by decide +kernel
theorem dX8_givenBack_53 : decode cX8_givenBack 53 = .ok (.goto (-44), 3) := by decide +kernel
theorem dX8_givenBack_56 : decode cX8_givenBack 56 = .ok (.iload_n 2, 1) := by decide +kernel
theorem dX8_givenBack_57 : decode cX8_givenBack 57 = .ok (.ireturn, 1) := by decide +kernel
set_option maxRecDepth 20000 in
theorem ggX8_canGive_X8_isCapture : GoodIn wsX8_canGive wsX8_isCapture := goodIn_r _ [6, 7, 8, 9, 5, 10, 20, 21, 22, 23, 24, 25, 26, 27, 28, 29, 30, 31, 32, 33, 34, 35, 36, 37, 38, 39, 40, 41, 42, 43, 44] (by decide +kernel) (by decide +kernel)
set_option maxRecDepth 20000 in
theorem gX8_canGive_X8_isCapture : GoodIn wsX8_canGive (wsV RX8 139 RX8 yX8_isCapture wsX8_isCapture) := goodIn_app (goodIn_of _ (by decide +kernel)) ggX8_canGive_X8_isCapture
set_option maxRecDepth 20000 in
theorem ggX8_canGive_X8_givenBack : GoodIn wsX8_canGive wsX8_givenBack := goodIn_r _ [14, 15, 16, 17, 18, 19, 20, 21, 22, 23, 24, 25, 26, 27, 28, 29, 30, 31, 32, 33, 34, 35, 36, 37, 38, 39, 40, 41, 42, 43, 44] (by decide +kernel) (by decide +kernel)
set_option maxRecDepth 20000 in
theorem gX8_canGive_X8_givenBack : GoodIn wsX8_canGive (wsV RX8 142 RX8 yX8_givenBack wsX8_givenBack) := goodIn_app (goodIn_of _ (by decide +kernel)) ggX8_canGive_X8_givenBack
theorem dX8_canGive_0 : decode cX8_canGive 0 = .ok (.aload_n 0, 1) := by decide +kernel
theorem dX8_canGive_1 : decode cX8_canGive 1 = .ok (.iload_n 1, 1) := by decide +kernel
theorem dX8_canGive_2 : decode cX8_canGive 2 = .ok (.invokevirtual 139, 3) := by decide +kernel
theorem dX8_canGive_5 : decode cX8_canGive 5 = .ok (.ifCond .eq 23, 3) := by decide +kernel
theorem dX8_canGive_8 : decode cX8_canGive 8 = .ok (.iload_n 2, 1) := by decide +kernel
theorem dX8_canGive_9 : decode cX8_canGive 9 = .ok (.aload_n 0, 1) := by decide +kernel
theorem dX8_canGive_10 : decode cX8_canGive 10 = .ok (.getfield 41, 3) := by decide +kernel
theorem dX8_canGive_13 : decode cX8_canGive 13 = .ok (.iload_n 1, 1) := by decide +kernel
theorem dX8_canGive_14 : decode cX8_canGive 14 = .ok (.iaload, 1) := by decide +kernel
theorem dX8_canGive_15 : decode cX8_canGive 15 = .ok (.aload_n 0, 1) := by decide +kernel
theorem dX8_canGive_16 : decode cX8_canGive 16 = .ok (.iload_n 1, 1) := by decide +kernel
theorem dX8_canGive_17 : decode cX8_canGive 17 = .ok (.invokevirtual 142, 3) := by decide +kernel
theorem dX8_canGive_20 : decode cX8_canGive 20 = .ok (.isub, 1) := by decide +kernel
theorem dX8_canGive_21 : decode cX8_canGive 21 = .ok (.if_icmp .gt 7, 3) := by decide +kernel
theorem dX8_canGive_24 : decode cX8_canGive 24 = .ok (.iconst 1, 1) := by decide +kernel
theorem dX8_canGive_25 : decode cX8_canGive 25 = .ok (.goto 4, 3) := by decide +kernel
theorem dX8_canGive_28 : decode cX8_canGive 28 = .ok (.iconst 0, 1) := by decide +kernel
theorem dX8_canGive_29 : decode cX8_canGive 29 = .ok (.ireturn, 1) := by decide +kernel
set_option maxRecDepth 20000 in
theorem ggX8_refund_X8_isCapture : GoodIn wsX8_refund wsX8_isCapture := goodIn_r _ [6, 7, 8, 9, 5, 10, 50, 51, 52, 53, 54, 55, 56, 57, 58, 59, 60, 61, 62, 63, 64, 65, 66, 67, 68, 69, 70, 71, 72, 73, 74] (by decide +kernel) (by decide +kernel)
set_option maxRecDepth 20000 in
theorem gX8_refund_X8_isCapture : GoodIn wsX8_refund (wsV RX8 139 RX8 yX8_isCapture wsX8_isCapture) := goodIn_app (goodIn_of _ (by decide +kernel)) ggX8_refund_X8_isCapture
set_option maxRecDepth 20000 in
theorem ggX8_refund_X8_isAmount : GoodIn wsX8_refund wsX8_isAmount := goodIn_r _ [13, 14, 8, 9, 5, 10] (by decide +kernel) (by decide +kernel)
set_option maxRecDepth 20000 in
theorem gX8_refund_X8_isAmount : GoodIn wsX8_refund (va_wsS RX8 104 yX8_isAmount wsX8_isAmount) := goodIn_app (goodIn_of _ (by decide +kernel)) ggX8_refund_X8_isAmount
set_option maxRecDepth 20000 in
theorem ggX8_refund_X8_canGive : GoodIn wsX8_refund wsX8_canGive := goodIn_r _ [18, 19, 2, 3, 4, 5, 6, 7, 8, 9, 10, 20, 21, 22, 23, 1, 24, 25, 26, 27, 50, 51, 52, 53, 54, 55, 56, 57, 58, 59, 60, 61, 62, 63, 64, 65, 66, 67, 68, 69, 70, 71, 72, 73, 74] (by decide +kernel) (by decide +kernel)
set_option maxRecDepth 20000 in
theorem gX8_refund_X8_canGive : GoodIn wsX8_refund (wsV RX8 145 RX8 yX8_canGive wsX8_canGive) := goodIn_app (goodIn_of _ (by decide +kernel)) ggX8_refund_X8_canGive
set_option maxRecDepth 20000 in
theorem ggX8_refund_X8_fails : GoodIn wsX8_refund wsX8_fails := goodIn_r _ [31, 32, 50, 51, 52, 53, 54, 55, 56, 57, 58, 59, 60, 61, 62, 63, 64, 65, 66, 67, 68, 69, 70, 71, 72, 73, 74] (by decide +kernel) (by decide +kernel)
set_option maxRecDepth 20000 in
theorem gX8_refund_X8_fails : GoodIn wsX8_refund (wsV RX8 85 RX8 yX8_fails wsX8_fails) := goodIn_app (goodIn_of _ (by decide +kernel)) ggX8_refund_X8_fails
set_option maxRecDepth 20000 in
theorem ggX8_refund_X8_shopBank : GoodIn wsX8_refund wsX8_shopBank := goodIn_r _ [36, 37, 38, 50, 51, 52, 53, 54, 55, 56, 57, 58, 59, 60, 61, 62, 63, 64, 65, 66, 67, 68, 69, 70, 71, 72, 73, 74] (by decide +kernel) (by decide +kernel)
set_option maxRecDepth 20000 in
theorem gX8_refund_X8_shopBank : GoodIn wsX8_refund (wsV RX8 129 RX8 yX8_shopBank wsX8_shopBank) := goodIn_app (goodIn_of _ (by decide +kernel)) ggX8_refund_X8_shopBank
set_option maxRecDepth 20000 in
theorem ggX8_refund_X8_cardBank : GoodIn wsX8_refund wsX8_cardBank := goodIn_r _ [42, 43, 38, 50, 51, 52, 53, 54, 55, 56, 57, 58, 59, 60, 61, 62, 63, 64, 65, 66, 67, 68, 69, 70, 71, 72, 73, 74] (by decide +kernel) (by decide +kernel)
set_option maxRecDepth 20000 in
theorem gX8_refund_X8_cardBank : GoodIn wsX8_refund (wsV RX8 126 RX8 yX8_cardBank wsX8_cardBank) := goodIn_app (goodIn_of _ (by decide +kernel)) ggX8_refund_X8_cardBank
set_option maxRecDepth 20000 in
theorem ggX8_refund_X8_pays : GoodIn wsX8_refund wsX8_pays := goodIn_r _ [47, 48, 49, 50, 51, 52, 53, 54, 55, 56, 57, 58, 59, 60, 61, 62, 63, 64, 65, 66, 67, 68, 69, 70, 71, 72, 73, 74] (by decide +kernel) (by decide +kernel)
set_option maxRecDepth 20000 in
theorem gX8_refund_X8_pays : GoodIn wsX8_refund (wsV RX8 132 RX8 yX8_pays wsX8_pays) := goodIn_app (goodIn_of _ (by decide +kernel)) ggX8_refund_X8_pays
set_option maxRecDepth 20000 in
theorem ggX8_refund_X8_givenBack : GoodIn wsX8_refund wsX8_givenBack := goodIn_r _ [23, 1, 24, 25, 26, 27, 50, 51, 52, 53, 54, 55, 56, 57, 58, 59, 60, 61, 62, 63, 64, 65, 66, 67, 68, 69, 70, 71, 72, 73, 74] (by decide +kernel) (by decide +kernel)
set_option maxRecDepth 20000 in
theorem gX8_refund_X8_givenBack : GoodIn wsX8_refund (wsV RX8 142 RX8 yX8_givenBack wsX8_givenBack) := goodIn_app (goodIn_of _ (by decide +kernel)) ggX8_refund_X8_givenBack
theorem dX8_refund_0 : decode cX8_refund 0 = .ok (.aload_n 0, 1) := by decide +kernel
theorem dX8_refund_1 : decode cX8_refund 1 = .ok (.aload_n 0, 1) := by decide +kernel
theorem dX8_refund_2 : decode cX8_refund 2 = .ok (.iload_n 1, 1) := by decide +kernel
theorem dX8_refund_3 : decode cX8_refund 3 = .ok (.invokevirtual 139, 3) := by decide +kernel
theorem dX8_refund_6 : decode cX8_refund 6 = .ok (.ifCond .ne 7, 3) := by decide +kernel
theorem dX8_refund_9 : decode cX8_refund 9 = .ok (.iconst 1, 1) := by decide +kernel
theorem dX8_refund_10 : decode cX8_refund 10 = .ok (.goto 28, 3) := by decide +kernel
theorem dX8_refund_13 : decode cX8_refund 13 = .ok (.iload_n 2, 1) := by decide +kernel
theorem dX8_refund_14 : decode cX8_refund 14 = .ok (.invokestatic 104, 3) := by decide +kernel
theorem dX8_refund_17 : decode cX8_refund 17 = .ok (.ifCond .ne 7, 3) := by decide +kernel
theorem dX8_refund_20 : decode cX8_refund 20 = .ok (.iconst 2, 1) := by decide +kernel
theorem dX8_refund_21 : decode cX8_refund 21 = .ok (.goto 17, 3) := by decide +kernel
theorem dX8_refund_24 : decode cX8_refund 24 = .ok (.aload_n 0, 1) := by decide +kernel
theorem dX8_refund_25 : decode cX8_refund 25 = .ok (.iload_n 1, 1) := by decide +kernel
theorem dX8_refund_26 : decode cX8_refund 26 = .ok (.iload_n 2, 1) := by decide +kernel
theorem dX8_refund_27 : decode cX8_refund 27 = .ok (.invokevirtual 145, 3) := by decide +kernel
theorem dX8_refund_30 : decode cX8_refund 30 = .ok (.ifCond .eq 7, 3) := by decide +kernel
theorem dX8_refund_33 : decode cX8_refund 33 = .ok (.iconst 0, 1) := by decide +kernel
theorem dX8_refund_34 : decode cX8_refund 34 = .ok (.goto 4, 3) := by decide +kernel
theorem dX8_refund_37 : decode cX8_refund 37 = .ok (.iconst 3, 1) := by decide +kernel
theorem dX8_refund_38 : decode cX8_refund 38 = .ok (.invokevirtual 85, 3) := by decide +kernel
theorem dX8_refund_41 : decode cX8_refund 41 = .ok (.ifCond .eq 5, 3) := by decide +kernel
theorem dX8_refund_44 : decode cX8_refund 44 = .ok (.iconst 0, 1) := by decide +kernel
theorem dX8_refund_45 : decode cX8_refund 45 = .ok (.ireturn, 1) := by decide +kernel
theorem dX8_refund_46 : decode cX8_refund 46 = .ok (.aload_n 0, 1) := by decide +kernel
theorem dX8_refund_47 : decode cX8_refund 47 = .ok (.getfield 47, 3) := by decide +kernel
theorem dX8_refund_50 : decode cX8_refund 50 = .ok (.iload_n 1, 1) := by decide +kernel
theorem dX8_refund_51 : decode cX8_refund 51 = .ok (.dup2, 1) := by decide +kernel
theorem dX8_refund_52 : decode cX8_refund 52 = .ok (.iaload, 1) := by decide +kernel
theorem dX8_refund_53 : decode cX8_refund 53 = .ok (.iload_n 2, 1) := by decide +kernel
theorem dX8_refund_54 : decode cX8_refund 54 = .ok (.iadd, 1) := by decide +kernel
theorem dX8_refund_55 : decode cX8_refund 55 = .ok (.iastore, 1) := by decide +kernel
theorem dX8_refund_56 : decode cX8_refund 56 = .ok (.aload_n 0, 1) := by decide +kernel
theorem dX8_refund_57 : decode cX8_refund 57 = .ok (.aload_n 0, 1) := by decide +kernel
theorem dX8_refund_58 : decode cX8_refund 58 = .ok (.iload_n 1, 1) := by decide +kernel
theorem dX8_refund_59 : decode cX8_refund 59 = .ok (.invokevirtual 129, 3) := by decide +kernel
theorem dX8_refund_62 : decode cX8_refund 62 = .ok (.aload_n 0, 1) := by decide +kernel
theorem dX8_refund_63 : decode cX8_refund 63 = .ok (.iload_n 1, 1) := by decide +kernel
theorem dX8_refund_64 : decode cX8_refund 64 = .ok (.invokevirtual 126, 3) := by decide +kernel
theorem dX8_refund_67 : decode cX8_refund 67 = .ok (.iload_n 2, 1) := by decide +kernel
theorem dX8_refund_68 : decode cX8_refund 68 = .ok (.invokevirtual 132, 3) := by decide +kernel
theorem dX8_refund_71 : decode cX8_refund 71 = .ok (.aload_n 0, 1) := by decide +kernel
theorem dX8_refund_72 : decode cX8_refund 72 = .ok (.iload_n 1, 1) := by decide +kernel
theorem dX8_refund_73 : decode cX8_refund 73 = .ok (.invokevirtual 142, 3) := by decide +kernel
theorem dX8_refund_76 : decode cX8_refund 76 = .ok (.ireturn, 1) := by decide +kernel
set_option maxRecDepth 20000 in
theorem ggX8_dispute_X8_canGive : GoodIn wsX8_dispute wsX8_canGive := goodIn_r _ [11, 12, 13, 14, 15, 10, 16, 17, 18, 19, 20, 21, 22, 23, 24, 25, 1, 3, 2, 4, 52, 53, 54, 55, 56, 57, 58, 59, 60, 61, 62, 63, 64, 65, 66, 67, 68, 69, 70, 71, 72, 73, 74, 75, 76] (by decide +kernel) (by decide +kernel)
set_option maxRecDepth 20000 in
theorem gX8_dispute_X8_canGive : GoodIn wsX8_dispute (wsV RX8 145 RX8 yX8_canGive wsX8_canGive) := goodIn_app (goodIn_of _ (by decide +kernel)) ggX8_dispute_X8_canGive
set_option maxRecDepth 20000 in
theorem ggX8_dispute_X8_isCapture : GoodIn wsX8_dispute wsX8_isCapture := goodIn_r _ [16, 17, 18, 19, 10, 20, 52, 53, 54, 55, 56, 57, 58, 59, 60, 61, 62, 63, 64, 65, 66, 67, 68, 69, 70, 71, 72, 73, 74, 75, 76] (by decide +kernel) (by decide +kernel)
set_option maxRecDepth 20000 in
theorem gX8_dispute_X8_isCapture : GoodIn wsX8_dispute (wsV RX8 139 RX8 yX8_isCapture wsX8_isCapture) := goodIn_app (goodIn_of _ (by decide +kernel)) ggX8_dispute_X8_isCapture
set_option maxRecDepth 20000 in
theorem ggX8_dispute_X8_isAmount : GoodIn wsX8_dispute wsX8_isAmount := goodIn_r _ [28, 29, 18, 19, 10, 20] (by decide +kernel) (by decide +kernel)
set_option maxRecDepth 20000 in
theorem gX8_dispute_X8_isAmount : GoodIn wsX8_dispute (va_wsS RX8 104 yX8_isAmount wsX8_isAmount) := goodIn_app (goodIn_of _ (by decide +kernel)) ggX8_dispute_X8_isAmount
set_option maxRecDepth 20000 in
theorem ggX8_dispute_X8_fails : GoodIn wsX8_dispute wsX8_fails := goodIn_r _ [33, 34, 52, 53, 54, 55, 56, 57, 58, 59, 60, 61, 62, 63, 64, 65, 66, 67, 68, 69, 70, 71, 72, 73, 74, 75, 76] (by decide +kernel) (by decide +kernel)
set_option maxRecDepth 20000 in
theorem gX8_dispute_X8_fails : GoodIn wsX8_dispute (wsV RX8 85 RX8 yX8_fails wsX8_fails) := goodIn_app (goodIn_of _ (by decide +kernel)) ggX8_dispute_X8_fails
set_option maxRecDepth 20000 in
theorem ggX8_dispute_X8_shopBank : GoodIn wsX8_dispute wsX8_shopBank := goodIn_r _ [38, 39, 40, 52, 53, 54, 55, 56, 57, 58, 59, 60, 61, 62, 63, 64, 65, 66, 67, 68, 69, 70, 71, 72, 73, 74, 75, 76] (by decide +kernel) (by decide +kernel)
set_option maxRecDepth 20000 in
theorem gX8_dispute_X8_shopBank : GoodIn wsX8_dispute (wsV RX8 129 RX8 yX8_shopBank wsX8_shopBank) := goodIn_app (goodIn_of _ (by decide +kernel)) ggX8_dispute_X8_shopBank
set_option maxRecDepth 20000 in
theorem ggX8_dispute_X8_cardBank : GoodIn wsX8_dispute wsX8_cardBank := goodIn_r _ [44, 45, 40, 52, 53, 54, 55, 56, 57, 58, 59, 60, 61, 62, 63, 64, 65, 66, 67, 68, 69, 70, 71, 72, 73, 74, 75, 76] (by decide +kernel) (by decide +kernel)
set_option maxRecDepth 20000 in
theorem gX8_dispute_X8_cardBank : GoodIn wsX8_dispute (wsV RX8 126 RX8 yX8_cardBank wsX8_cardBank) := goodIn_app (goodIn_of _ (by decide +kernel)) ggX8_dispute_X8_cardBank
set_option maxRecDepth 20000 in
theorem ggX8_dispute_X8_pays : GoodIn wsX8_dispute wsX8_pays := goodIn_r _ [49, 50, 51, 52, 53, 54, 55, 56, 57, 58, 59, 60, 61, 62, 63, 64, 65, 66, 67, 68, 69, 70, 71, 72, 73, 74, 75, 76] (by decide +kernel) (by decide +kernel)
set_option maxRecDepth 20000 in
theorem gX8_dispute_X8_pays : GoodIn wsX8_dispute (wsV RX8 132 RX8 yX8_pays wsX8_pays) := goodIn_app (goodIn_of _ (by decide +kernel)) ggX8_dispute_X8_pays
theorem dX8_dispute_0 : decode cX8_dispute 0 = .ok (.aload_n 0, 1) := by decide +kernel
theorem dX8_dispute_1 : decode cX8_dispute 1 = .ok (.iload_n 1, 1) := by decide +kernel
theorem dX8_dispute_2 : decode cX8_dispute 2 = .ok (.iload_n 2, 1) := by decide +kernel
theorem dX8_dispute_3 : decode cX8_dispute 3 = .ok (.invokevirtual 145, 3) := by decide +kernel
theorem dX8_dispute_6 : decode cX8_dispute 6 = .ok (.ifCond .eq 16, 3) := by decide +kernel
theorem dX8_dispute_9 : decode cX8_dispute 9 = .ok (.aload_n 0, 1) := by decide +kernel
theorem dX8_dispute_10 : decode cX8_dispute 10 = .ok (.getfield 136, 3) := by decide +kernel
theorem dX8_dispute_13 : decode cX8_dispute 13 = .ok (.bipush 60, 2) := by decide +kernel
theorem dX8_dispute_15 : decode cX8_dispute 15 = .ok (.if_icmp .ge 7, 3) := by decide +kernel
theorem dX8_dispute_18 : decode cX8_dispute 18 = .ok (.iconst 1, 1) := by decide +kernel
theorem dX8_dispute_19 : decode cX8_dispute 19 = .ok (.goto 4, 3) := by decide +kernel
theorem dX8_dispute_22 : decode cX8_dispute 22 = .ok (.iconst 0, 1) := by decide +kernel
theorem dX8_dispute_23 : decode cX8_dispute 23 = .ok (.istore_n 3, 1) := by decide +kernel
theorem dX8_dispute_24 : decode cX8_dispute 24 = .ok (.aload_n 0, 1) := by decide +kernel
theorem dX8_dispute_25 : decode cX8_dispute 25 = .ok (.aload_n 0, 1) := by decide +kernel
theorem dX8_dispute_26 : decode cX8_dispute 26 = .ok (.iload_n 1, 1) := by decide +kernel
theorem dX8_dispute_27 : decode cX8_dispute 27 = .ok (.invokevirtual 139, 3) := by decide +kernel
theorem dX8_dispute_30 : decode cX8_dispute 30 = .ok (.ifCond .ne 7, 3) := by decide +kernel
theorem dX8_dispute_33 : decode cX8_dispute 33 = .ok (.iconst 1, 1) := by decide +kernel
theorem dX8_dispute_34 : decode cX8_dispute 34 = .ok (.goto 23, 3) := by decide +kernel
theorem dX8_dispute_37 : decode cX8_dispute 37 = .ok (.iload_n 2, 1) := by decide +kernel
theorem dX8_dispute_38 : decode cX8_dispute 38 = .ok (.invokestatic 104, 3) := by decide +kernel
theorem dX8_dispute_41 : decode cX8_dispute 41 = .ok (.ifCond .ne 7, 3) := by decide +kernel
theorem dX8_dispute_44 : decode cX8_dispute 44 = .ok (.iconst 2, 1) := by decide +kernel
theorem dX8_dispute_45 : decode cX8_dispute 45 = .ok (.goto 12, 3) := by decide +kernel
theorem dX8_dispute_48 : decode cX8_dispute 48 = .ok (.iload_n 3, 1) := by decide +kernel
theorem dX8_dispute_49 : decode cX8_dispute 49 = .ok (.ifCond .eq 7, 3) := by decide +kernel
theorem dX8_dispute_52 : decode cX8_dispute 52 = .ok (.iconst 0, 1) := by decide +kernel
theorem dX8_dispute_53 : decode cX8_dispute 53 = .ok (.goto 4, 3) := by decide +kernel
theorem dX8_dispute_56 : decode cX8_dispute 56 = .ok (.iconst 3, 1) := by decide +kernel
theorem dX8_dispute_57 : decode cX8_dispute 57 = .ok (.invokevirtual 85, 3) := by decide +kernel
theorem dX8_dispute_60 : decode cX8_dispute 60 = .ok (.ifCond .eq 5, 3) := by decide +kernel
theorem dX8_dispute_63 : decode cX8_dispute 63 = .ok (.iconst 0, 1) := by decide +kernel
theorem dX8_dispute_64 : decode cX8_dispute 64 = .ok (.ireturn, 1) := by decide +kernel
theorem dX8_dispute_65 : decode cX8_dispute 65 = .ok (.aload_n 0, 1) := by decide +kernel
theorem dX8_dispute_66 : decode cX8_dispute 66 = .ok (.getfield 136, 3) := by decide +kernel
theorem dX8_dispute_69 : decode cX8_dispute 69 = .ok (.istore 4, 2) := by decide +kernel
theorem dX8_dispute_71 : decode cX8_dispute 71 = .ok (.aload_n 0, 1) := by decide +kernel
theorem dX8_dispute_72 : decode cX8_dispute 72 = .ok (.getfield 50, 3) := by decide +kernel
theorem dX8_dispute_75 : decode cX8_dispute 75 = .ok (.iload 4, 2) := by decide +kernel
theorem dX8_dispute_77 : decode cX8_dispute 77 = .ok (.iconst 0, 1) := by decide +kernel
theorem dX8_dispute_78 : decode cX8_dispute 78 = .ok (.iastore, 1) := by decide +kernel
theorem dX8_dispute_79 : decode cX8_dispute 79 = .ok (.aload_n 0, 1) := by decide +kernel
theorem dX8_dispute_80 : decode cX8_dispute 80 = .ok (.getfield 53, 3) := by decide +kernel
theorem dX8_dispute_83 : decode cX8_dispute 83 = .ok (.iload 4, 2) := by decide +kernel
theorem dX8_dispute_85 : decode cX8_dispute 85 = .ok (.iload_n 1, 1) := by decide +kernel
theorem dX8_dispute_86 : decode cX8_dispute 86 = .ok (.iastore, 1) := by decide +kernel
theorem dX8_dispute_87 : decode cX8_dispute 87 = .ok (.aload_n 0, 1) := by decide +kernel
theorem dX8_dispute_88 : decode cX8_dispute 88 = .ok (.getfield 56, 3) := by decide +kernel
theorem dX8_dispute_91 : decode cX8_dispute 91 = .ok (.iload 4, 2) := by decide +kernel
theorem dX8_dispute_93 : decode cX8_dispute 93 = .ok (.iload_n 2, 1) := by decide +kernel
theorem dX8_dispute_94 : decode cX8_dispute 94 = .ok (.iastore, 1) := by decide +kernel
theorem dX8_dispute_95 : decode cX8_dispute 95 = .ok (.aload_n 0, 1) := by decide +kernel
theorem dX8_dispute_96 : decode cX8_dispute 96 = .ok (.getfield 59, 3) := by decide +kernel
theorem dX8_dispute_99 : decode cX8_dispute 99 = .ok (.iload 4, 2) := by decide +kernel
theorem dX8_dispute_101 : decode cX8_dispute 101 = .ok (.aload_n 0, 1) := by decide +kernel
theorem dX8_dispute_102 : decode cX8_dispute 102 = .ok (.getfield 114, 3) := by decide +kernel
theorem dX8_dispute_105 : decode cX8_dispute 105 = .ok (.bipush 10, 2) := by decide +kernel
theorem dX8_dispute_107 : decode cX8_dispute 107 = .ok (.iadd, 1) := by decide +kernel
theorem dX8_dispute_108 : decode cX8_dispute 108 = .ok (.iastore, 1) := by decide +kernel
theorem dX8_dispute_109 : decode cX8_dispute 109 = .ok (.aload_n 0, 1) := by decide +kernel
theorem dX8_dispute_110 : decode cX8_dispute 110 = .ok (.dup, 1) := by decide +kernel
theorem dX8_dispute_111 : decode cX8_dispute 111 = .ok (.getfield 136, 3) := by decide +kernel
theorem dX8_dispute_114 : decode cX8_dispute 114 = .ok (.iconst 1, 1) := by decide +kernel
theorem dX8_dispute_115 : decode cX8_dispute 115 = .ok (.iadd, 1) := by decide +kernel
theorem dX8_dispute_116 : decode cX8_dispute 116 = .ok (.putfield 136, 3) := by decide +kernel
theorem dX8_dispute_119 : decode cX8_dispute 119 = .ok (.aload_n 0, 1) := by decide +kernel
theorem dX8_dispute_120 : decode cX8_dispute 120 = .ok (.aload_n 0, 1) := by decide +kernel
theorem dX8_dispute_121 : decode cX8_dispute 121 = .ok (.iload_n 1, 1) := by decide +kernel
theorem dX8_dispute_122 : decode cX8_dispute 122 = .ok (.invokevirtual 129, 3) := by decide +kernel
theorem dX8_dispute_125 : decode cX8_dispute 125 = .ok (.aload_n 0, 1) := by decide +kernel
theorem dX8_dispute_126 : decode cX8_dispute 126 = .ok (.iload_n 1, 1) := by decide +kernel
theorem dX8_dispute_127 : decode cX8_dispute 127 = .ok (.invokevirtual 126, 3) := by decide +kernel
theorem dX8_dispute_130 : decode cX8_dispute 130 = .ok (.iload_n 2, 1) := by decide +kernel
theorem dX8_dispute_131 : decode cX8_dispute 131 = .ok (.invokevirtual 132, 3) := by decide +kernel
theorem dX8_dispute_134 : decode cX8_dispute 134 = .ok (.iload 4, 2) := by decide +kernel
theorem dX8_dispute_136 : decode cX8_dispute 136 = .ok (.ireturn, 1) := by decide +kernel
set_option maxRecDepth 20000 in
theorem ggX8_misses_X8_isIn : GoodIn wsX8_misses wsX8_isIn := goodIn_r _ [6] (by decide +kernel) (by decide +kernel)
set_option maxRecDepth 20000 in
theorem gX8_misses_X8_isIn : GoodIn wsX8_misses (va_wsS RX8 74 yX8_isIn wsX8_isIn) := goodIn_app (goodIn_of _ (by decide +kernel)) ggX8_misses_X8_isIn
theorem dX8_misses_0 : decode cX8_misses 0 = .ok (.iload_n 1, 1) := by decide +kernel
theorem dX8_misses_1 : decode cX8_misses 1 = .ok (.iconst 0, 1) := by decide +kernel
theorem dX8_misses_2 : decode cX8_misses 2 = .ok (.aload_n 0, 1) := by decide +kernel
theorem dX8_misses_3 : decode cX8_misses 3 = .ok (.getfield 136, 3) := by decide +kernel
