theorem dX0_init_0 : decode cX0_init 0 = .ok (.aload_n 0, 1) := by decide +kernel
theorem dX0_init_1 : decode cX0_init 1 = .ok (.invokespecial 3, 3) := by decide +kernel
theorem dX0_init_4 : decode cX0_init 4 = .ok (.aload_n 0, 1) := by decide +kernel
theorem dX0_init_5 : decode cX0_init 5 = .ok (.iconst 0, 1) := by decide +kernel
theorem dX0_init_6 : decode cX0_init 6 = .ok (.putfield 9, 3) := by decide +kernel
theorem dX0_init_9 : decode cX0_init 9 = .ok (.aload_n 0, 1) := by decide +kernel
theorem dX0_init_10 : decode cX0_init 10 = .ok (.iload_n 1, 1) := by decide +kernel
theorem dX0_init_11 : decode cX0_init 11 = .ok (.putfield 15, 3) := by decide +kernel
theorem dX0_init_14 : decode cX0_init 14 = .ok (.aload_n 0, 1) := by decide +kernel
theorem dX0_init_15 : decode cX0_init 15 = .ok (.iload_n 2, 1) := by decide +kernel
theorem dX0_init_16 : decode cX0_init 16 = .ok (.putfield 18, 3) := by decide +kernel
theorem dX0_init_19 : decode cX0_init 19 = .ok (.return_, 1) := by decide +kernel
theorem dX0_isWaitedFor_0 : decode cX0_isWaitedFor 0 = .ok (.aload_n 0, 1) := by decide +kernel
theorem dX0_isWaitedFor_1 : decode cX0_isWaitedFor 1 = .ok (.getfield 9, 3) := by decide +kernel
theorem dX0_isWaitedFor_4 : decode cX0_isWaitedFor 4 = .ok (.iconst 1, 1) := by decide +kernel
theorem dX0_isWaitedFor_5 : decode cX0_isWaitedFor 5 = .ok (.if_icmp .eq 11, 3) := by decide +kernel
theorem dX0_isWaitedFor_8 : decode cX0_isWaitedFor 8 = .ok (.aload_n 0, 1) := by decide +kernel
theorem dX0_isWaitedFor_9 : decode cX0_isWaitedFor 9 = .ok (.getfield 9, 3) := by decide +kernel
theorem dX0_isWaitedFor_12 : decode cX0_isWaitedFor 12 = .ok (.iconst 2, 1) := by decide +kernel
theorem dX0_isWaitedFor_13 : decode cX0_isWaitedFor 13 = .ok (.if_icmp .ne 7, 3) := by decide +kernel
theorem dX0_isWaitedFor_16 : decode cX0_isWaitedFor 16 = .ok (.iconst 1, 1) := by decide +kernel
theorem dX0_isWaitedFor_17 : decode cX0_isWaitedFor 17 = .ok (.goto 4, 3) := by decide +kernel
theorem dX0_isWaitedFor_20 : decode cX0_isWaitedFor 20 = .ok (.iconst 0, 1) := by decide +kernel
theorem dX0_isWaitedFor_21 : decode cX0_isWaitedFor 21 = .ok (.ireturn, 1) := by decide +kernel
theorem dX0_spanFor_0 : decode cX0_spanFor 0 = .ok (.iload_n 1, 1) := by decide +kernel
theorem dX0_spanFor_1 : decode cX0_spanFor 1 = .ok (.iconst 1, 1) := by decide +kernel
theorem dX0_spanFor_2 : decode cX0_spanFor 2 = .ok (.if_icmp .ne 7, 3) := by decide +kernel
theorem dX0_spanFor_5 : decode cX0_spanFor 5 = .ok (.sipush 360, 3) := by decide +kernel
theorem dX0_spanFor_8 : decode cX0_spanFor 8 = .ok (.ireturn, 1) := by decide +kernel
theorem dX0_spanFor_9 : decode cX0_spanFor 9 = .ok (.aload_n 0, 1) := by decide +kernel
theorem dX0_spanFor_10 : decode cX0_spanFor 10 = .ok (.getfield 18, 3) := by decide +kernel
theorem dX0_spanFor_13 : decode cX0_spanFor 13 = .ok (.iconst 2, 1) := by decide +kernel
theorem dX0_spanFor_14 : decode cX0_spanFor 14 = .ok (.if_icmp .ne 5, 3) := by decide +kernel
theorem dX0_spanFor_17 : decode cX0_spanFor 17 = .ok (.iconst (-1), 1) := by decide +kernel
theorem dX0_spanFor_18 : decode cX0_spanFor 18 = .ok (.ireturn, 1) := by decide +kernel
theorem dX0_spanFor_19 : decode cX0_spanFor 19 = .ok (.aload_n 0, 1) := by decide +kernel
theorem dX0_spanFor_20 : decode cX0_spanFor 20 = .ok (.getfield 18, 3) := by decide +kernel
theorem dX0_spanFor_23 : decode cX0_spanFor 23 = .ok (.iconst 1, 1) := by decide +kernel
theorem dX0_spanFor_24 : decode cX0_spanFor 24 = .ok (.if_icmp .ne 8, 3) := by decide +kernel
theorem dX0_spanFor_27 : decode cX0_spanFor 27 = .ok (.bipush 14, 2) := by decide +kernel
theorem dX0_spanFor_29 : decode cX0_spanFor 29 = .ok (.goto 5, 3) := by decide +kernel
theorem dX0_spanFor_32 : decode cX0_spanFor 32 = .ok (.bipush 30, 2) := by decide +kernel
theorem dX0_spanFor_34 : decode cX0_spanFor 34 = .ok (.ireturn, 1) := by decide +kernel
set_option maxRecDepth 20000 in
theorem ggX0_feeFor_X0_gradeFee : GoodIn wsX0_feeFor wsX0_gradeFee := goodIn_r _ [6, 1, 7, 8, 9, 10, 11, 12, 13] (by decide +kernel) (by decide +kernel)
set_option maxRecDepth 20000 in
theorem gX0_feeFor_X0_gradeFee : GoodIn wsX0_feeFor (wsV RX0 24 RX0 yX0_gradeFee wsX0_gradeFee) := goodIn_app (goodIn_of _ (by decide +kernel)) ggX0_feeFor_X0_gradeFee
theorem dX0_feeFor_0 : decode cX0_feeFor 0 = .ok (.aload_n 0, 1) := by decide +kernel
theorem dX0_feeFor_1 : decode cX0_feeFor 1 = .ok (.getfield 21, 3) := by decide +kernel
theorem dX0_feeFor_4 : decode cX0_feeFor 4 = .ok (.ifCond .ne 9, 3) := by decide +kernel
theorem dX0_feeFor_7 : decode cX0_feeFor 7 = .ok (.sipush 500, 3) := by decide +kernel
theorem dX0_feeFor_10 : decode cX0_feeFor 10 = .ok (.goto 4, 3) := by decide +kernel
theorem dX0_feeFor_13 : decode cX0_feeFor 13 = .ok (.iconst 0, 1) := by decide +kernel
theorem dX0_feeFor_14 : decode cX0_feeFor 14 = .ok (.istore_n 2, 1) := by decide +kernel
theorem dX0_feeFor_15 : decode cX0_feeFor 15 = .ok (.iload_n 2, 1) := by decide +kernel
theorem dX0_feeFor_16 : decode cX0_feeFor 16 = .ok (.aload_n 0, 1) := by decide +kernel
theorem dX0_feeFor_17 : decode cX0_feeFor 17 = .ok (.iload_n 1, 1) := by decide +kernel
theorem dX0_feeFor_18 : decode cX0_feeFor 18 = .ok (.invokevirtual 24, 3) := by decide +kernel
theorem dX0_feeFor_21 : decode cX0_feeFor 21 = .ok (.iadd, 1) := by decide +kernel
theorem dX0_feeFor_22 : decode cX0_feeFor 22 = .ok (.ireturn, 1) := by decide +kernel
theorem dX0_gradeFee_0 : decode cX0_gradeFee 0 = .ok (.iload_n 1, 1) := by decide +kernel
theorem dX0_gradeFee_1 : decode cX0_gradeFee 1 = .ok (.ifCond .eq 16, 3) := by decide +kernel
theorem dX0_gradeFee_4 : decode cX0_gradeFee 4 = .ok (.aload_n 0, 1) := by decide +kernel
theorem dX0_gradeFee_5 : decode cX0_gradeFee 5 = .ok (.getfield 21, 3) := by decide +kernel
theorem dX0_gradeFee_8 : decode cX0_gradeFee 8 = .ok (.iconst 1, 1) := by decide +kernel
theorem dX0_gradeFee_9 : decode cX0_gradeFee 9 = .ok (.if_icmp .ne 10, 3) := by decide +kernel
theorem dX0_gradeFee_12 : decode cX0_gradeFee 12 = .ok (.iload_n 1, 1) := by decide +kernel
theorem dX0_gradeFee_13 : decode cX0_gradeFee 13 = .ok (.iconst 3, 1) := by decide +kernel
theorem dX0_gradeFee_14 : decode cX0_gradeFee 14 = .ok (.if_icmp .eq 5, 3) := by decide +kernel
theorem dX0_gradeFee_17 : decode cX0_gradeFee 17 = .ok (.iconst 0, 1) := by decide +kernel
theorem dX0_gradeFee_18 : decode cX0_gradeFee 18 = .ok (.ireturn, 1) := by decide +kernel
theorem dX0_gradeFee_19 : decode cX0_gradeFee 19 = .ok (.iload_n 1, 1) := by decide +kernel
theorem dX0_gradeFee_20 : decode cX0_gradeFee 20 = .ok (.iconst 1, 1) := by decide +kernel
theorem dX0_gradeFee_21 : decode cX0_gradeFee 21 = .ok (.if_icmp .ne 27, 3) := by decide +kernel
theorem dX0_gradeFee_24 : decode cX0_gradeFee 24 = .ok (.aload_n 0, 1) := by decide +kernel
theorem dX0_gradeFee_25 : decode cX0_gradeFee 25 = .ok (.getfield 18, 3) := by decide +kernel
theorem dX0_gradeFee_28 : decode cX0_gradeFee 28 = .ok (.iconst 1, 1) := by decide +kernel
theorem dX0_gradeFee_29 : decode cX0_gradeFee 29 = .ok (.if_icmp .ne 12, 3) := by decide +kernel
theorem dX0_gradeFee_32 : decode cX0_gradeFee 32 = .ok (.aload_n 0, 1) := by decide +kernel
theorem dX0_gradeFee_33 : decode cX0_gradeFee 33 = .ok (.getfield 15, 3) := by decide +kernel
theorem dX0_gradeFee_36 : decode cX0_gradeFee 36 = .ok (.iconst 2, 1) := by decide +kernel
theorem dX0_gradeFee_37 : decode cX0_gradeFee 37 = .ok (.idiv, 1) := by decide +kernel
theorem dX0_gradeFee_38 : decode cX0_gradeFee 38 = .ok (.goto 9, 3) := by decide +kernel
theorem dX0_gradeFee_41 : decode cX0_gradeFee 41 = .ok (.aload_n 0, 1) := by decide +kernel
theorem dX0_gradeFee_42 : decode cX0_gradeFee 42 = .ok (.getfield 15, 3) := by decide +kernel
theorem dX0_gradeFee_45 : decode cX0_gradeFee 45 = .ok (.iconst 5, 1) := by decide +kernel
theorem dX0_gradeFee_46 : decode cX0_gradeFee 46 = .ok (.idiv, 1) := by decide +kernel
theorem dX0_gradeFee_47 : decode cX0_gradeFee 47 = .ok (.ireturn, 1) := by decide +kernel
theorem dX0_gradeFee_48 : decode cX0_gradeFee 48 = .ok (.aload_n 0, 1) := by decide +kernel
theorem dX0_gradeFee_49 : decode cX0_gradeFee 49 = .ok (.getfield 15, 3) := by decide +kernel
theorem dX0_gradeFee_52 : decode cX0_gradeFee 52 = .ok (.ireturn, 1) := by decide +kernel
theorem dX1_init_0 : decode cX1_init 0 = .ok (.aload_n 0, 1) := by decide +kernel
theorem dX1_init_1 : decode cX1_init 1 = .ok (.invokespecial 3, 3) := by decide +kernel
theorem dX1_init_4 : decode cX1_init 4 = .ok (.aload_n 0, 1) := by decide +kernel
theorem dX1_init_5 : decode cX1_init 5 = .ok (.bipush 8, 2) := by decide +kernel
theorem dX1_init_7 : decode cX1_init 7 = .ok (.anewarray 9, 3) := by decide +kernel
theorem dX1_init_10 : decode cX1_init 10 = .ok (.putfield 11, 3) := by decide +kernel
theorem dX1_init_13 : decode cX1_init 13 = .ok (.aload_n 0, 1) := by decide +kernel
theorem dX1_init_14 : decode cX1_init 14 = .ok (.iload_n 1, 1) := by decide +kernel
theorem dX1_init_15 : decode cX1_init 15 = .ok (.putfield 17, 3) := by decide +kernel
theorem dX1_init_18 : decode cX1_init 18 = .ok (.aload_n 0, 1) := by decide +kernel
theorem dX1_init_19 : decode cX1_init 19 = .ok (.iload_n 2, 1) := by decide +kernel
theorem dX1_init_20 : decode cX1_init 20 = .ok (.putfield 21, 3) := by decide +kernel
theorem dX1_init_23 : decode cX1_init 23 = .ok (.return_, 1) := by decide +kernel
theorem dX1_hasRoom_0 : decode cX1_hasRoom 0 = .ok (.aload_n 0, 1) := by decide +kernel
theorem dX1_hasRoom_1 : decode cX1_hasRoom 1 = .ok (.getfield 24, 3) := by decide +kernel
theorem dX1_hasRoom_4 : decode cX1_hasRoom 4 = .ok (.aload_n 0, 1) := by decide +kernel
theorem dX1_hasRoom_5 : decode cX1_hasRoom 5 = .ok (.getfield 11, 3) := by decide +kernel
theorem dX1_hasRoom_8 : decode cX1_hasRoom 8 = .ok (.arraylength, 1) := by decide +kernel
theorem dX1_hasRoom_9 : decode cX1_hasRoom 9 = .ok (.if_icmp .ge 7, 3) := by decide +kernel
theorem dX1_hasRoom_12 : decode cX1_hasRoom 12 = .ok (.iconst 1, 1) := by decide +kernel
theorem dX1_hasRoom_13 : decode cX1_hasRoom 13 = .ok (.goto 4, 3) := by decide +kernel
theorem dX1_hasRoom_16 : decode cX1_hasRoom 16 = .ok (.iconst 0, 1) := by decide +kernel
theorem dX1_hasRoom_17 : decode cX1_hasRoom 17 = .ok (.ireturn, 1) := by decide +kernel
theorem dX1_addLine_0 : decode cX1_addLine 0 = .ok (.aload_n 0, 1) := by decide +kernel
theorem dX1_addLine_1 : decode cX1_addLine 1 = .ok (.getfield 24, 3) := by decide +kernel
theorem dX1_addLine_4 : decode cX1_addLine 4 = .ok (.istore_n 2, 1) := by decide +kernel
theorem dX1_addLine_5 : decode cX1_addLine 5 = .ok (.iload_n 2, 1) := by decide +kernel
theorem dX1_addLine_6 : decode cX1_addLine 6 = .ok (.ifCond .lt 29, 3) := by decide +kernel
theorem dX1_addLine_9 : decode cX1_addLine 9 = .ok (.iload_n 2, 1) := by decide +kernel
theorem dX1_addLine_10 : decode cX1_addLine 10 = .ok (.aload_n 0, 1) := by decide +kernel
theorem dX1_addLine_11 : decode cX1_addLine 11 = .ok (.getfield 11, 3) := by decide +kernel
theorem dX1_addLine_14 : decode cX1_addLine 14 = .ok (.arraylength, 1) := by decide +kernel
theorem dX1_addLine_15 : decode cX1_addLine 15 = .ok (.if_icmp .ge 20, 3) := by decide +kernel
theorem dX1_addLine_18 : decode cX1_addLine 18 = .ok (.aload_n 0, 1) := by decide +kernel
theorem dX1_addLine_19 : decode cX1_addLine 19 = .ok (.getfield 11, 3) := by decide +kernel
theorem dX1_addLine_22 : decode cX1_addLine 22 = .ok (.iload_n 2, 1) := by decide +kernel
theorem dX1_addLine_23 : decode cX1_addLine 23 = .ok (.aload_n 1, 1) := by decide +kernel
theorem dX1_addLine_24 : decode cX1_addLine 24 = .ok (.aastore, 1) := by decide +kernel
theorem dX1_addLine_25 : decode cX1_addLine 25 = .ok (.aload_n 0, 1) := by decide +kernel
theorem dX1_addLine_26 : decode cX1_addLine 26 = .ok (.dup, 1) := by decide +kernel
theorem dX1_addLine_27 : decode cX1_addLine 27 = .ok (.getfield 24, 3) := by decide +kernel
theorem dX1_addLine_30 : decode cX1_addLine 30 = .ok (.iconst 1, 1) := by decide +kernel
theorem dX1_addLine_31 : decode cX1_addLine 31 = .ok (.iadd, 1) := by decide +kernel
theorem dX1_addLine_32 : decode cX1_addLine 32 = .ok (.putfield 24, 3) := by decide +kernel
theorem dX1_addLine_35 : decode cX1_addLine 35 = .ok (.iload_n 2, 1) := by decide +kernel
theorem dX1_addLine_36 : decode cX1_addLine 36 = .ok (.ireturn, 1) := by decide +kernel
set_option maxRecDepth 20000 in
theorem ggX1_settle_X1_priceAnew : GoodIn wsX1_settle wsX1_priceAnew := goodIn_r _ [14, 15, 16, 17, 18, 19, 20, 21, 22, 23, 24, 25, 26, 27, 28, 29, 30, 31, 32, 33, 34, 35, 36] (by decide +kernel) (by decide +kernel)
set_option maxRecDepth 20000 in
theorem gX1_settle_X1_priceAnew : GoodIn wsX1_settle (wsV RX1 27 RX1 yX1_priceAnew wsX1_priceAnew) := goodIn_app (goodIn_of _ (by decide +kernel)) ggX1_settle_X1_priceAnew
theorem dX1_settle_0 : decode cX1_settle 0 = .ok (.aload_n 0, 1) := by decide +kernel
theorem dX1_settle_1 : decode cX1_settle 1 = .ok (.invokevirtual 27, 3) := by decide +kernel
theorem dX1_settle_4 : decode cX1_settle 4 = .ok (.istore 4, 2) := by decide +kernel
theorem dX1_settle_6 : decode cX1_settle 6 = .ok (.aload_n 0, 1) := by decide +kernel
theorem dX1_settle_7 : decode cX1_settle 7 = .ok (.iload_n 1, 1) := by decide +kernel
theorem dX1_settle_8 : decode cX1_settle 8 = .ok (.iload 4, 2) := by decide +kernel
theorem dX1_settle_10 : decode cX1_settle 10 = .ok (.invokestatic 31, 3) := by decide +kernel
theorem dX1_settle_13 : decode cX1_settle 13 = .ok (.putfield 37, 3) := by decide +kernel
theorem dX1_settle_16 : decode cX1_settle 16 = .ok (.aload_n 0, 1) := by decide +kernel
theorem dX1_settle_17 : decode cX1_settle 17 = .ok (.iload_n 2, 1) := by decide +kernel
theorem dX1_settle_18 : decode cX1_settle 18 = .ok (.iload 4, 2) := by decide +kernel
theorem dX1_settle_20 : decode cX1_settle 20 = .ok (.aload_n 0, 1) := by decide +kernel
theorem dX1_settle_21 : decode cX1_settle 21 = .ok (.getfield 37, 3) := by decide +kernel
theorem dX1_settle_24 : decode cX1_settle 24 = .ok (.isub, 1) := by decide +kernel
theorem dX1_settle_25 : decode cX1_settle 25 = .ok (.invokestatic 31, 3) := by decide +kernel
theorem dX1_settle_28 : decode cX1_settle 28 = .ok (.putfield 40, 3) := by decide +kernel
theorem dX1_settle_31 : decode cX1_settle 31 = .ok (.aload_n 0, 1) := by decide +kernel
theorem dX1_settle_32 : decode cX1_settle 32 = .ok (.iload 4, 2) := by decide +kernel
theorem dX1_settle_34 : decode cX1_settle 34 = .ok (.aload_n 0, 1) := by decide +kernel
theorem dX1_settle_35 : decode cX1_settle 35 = .ok (.getfield 37, 3) := by decide +kernel
theorem dX1_settle_38 : decode cX1_settle 38 = .ok (.isub, 1) := by decide +kernel
theorem dX1_settle_39 : decode cX1_settle 39 = .ok (.aload_n 0, 1) := by decide +kernel
theorem dX1_settle_40 : decode cX1_settle 40 = .ok (.getfield 40, 3) := by decide +kernel
theorem dX1_settle_43 : decode cX1_settle 43 = .ok (.isub, 1) := by decide +kernel
theorem dX1_settle_44 : decode cX1_settle 44 = .ok (.putfield 43, 3) := by decide +kernel
theorem dX1_settle_47 : decode cX1_settle 47 = .ok (.aload_n 0, 1) := by decide +kernel
theorem dX1_settle_48 : decode cX1_settle 48 = .ok (.iconst 1, 1) := by decide +kernel
theorem dX1_settle_49 : decode cX1_settle 49 = .ok (.putfield 46, 3) := by decide +kernel
theorem dX1_settle_52 : decode cX1_settle 52 = .ok (.aload_n 0, 1) := by decide +kernel
theorem dX1_settle_53 : decode cX1_settle 53 = .ok (.iload_n 3, 1) := by decide +kernel
theorem dX1_settle_54 : decode cX1_settle 54 = .ok (.putfield 50, 3) := by decide +kernel
theorem dX1_settle_57 : decode cX1_settle 57 = .ok (.return_, 1) := by decide +kernel
theorem dX1_priceAnew_0 : decode cX1_priceAnew 0 = .ok (.iconst 0, 1) := by decide +kernel
theorem dX1_priceAnew_1 : decode cX1_priceAnew 1 = .ok (.istore_n 1, 1) := by decide +kernel
theorem dX1_priceAnew_2 : decode cX1_priceAnew 2 = .ok (.aload_n 0, 1) := by decide +kernel
theorem dX1_priceAnew_3 : decode cX1_priceAnew 3 = .ok (.getfield 11, 3) := by decide +kernel
theorem dX1_priceAnew_6 : decode cX1_priceAnew 6 = .ok (.astore_n 2, 1) := by decide +kernel
theorem dX1_priceAnew_7 : decode cX1_priceAnew 7 = .ok (.aload_n 2, 1) := by decide +kernel
theorem dX1_priceAnew_8 : decode cX1_priceAnew 8 = .ok (.arraylength, 1) := by decide +kernel
theorem dX1_priceAnew_9 : decode cX1_priceAnew 9 = .ok (.istore_n 3, 1) := by decide +kernel
theorem dX1_priceAnew_10 : decode cX1_priceAnew 10 = .ok (.iconst 0, 1) := by decide +kernel
theorem dX1_priceAnew_11 : decode cX1_priceAnew 11 = .ok (.istore 4, 2) := by decide +kernel
theorem dX1_priceAnew_13 : decode cX1_priceAnew 13 = .ok (.iload 4, 2) := by decide +kernel
theorem dX1_priceAnew_15 : decode cX1_priceAnew 15 = .ok (.iload_n 3, 1) := by decide +kernel
theorem dX1_priceAnew_16 : decode cX1_priceAnew 16 = .ok (.if_icmp .ge 37, 3) := by decide +kernel
theorem dX1_priceAnew_19 : decode cX1_priceAnew 19 = .ok (.aload_n 2, 1) := by decide +kernel
theorem dX1_priceAnew_20 : decode cX1_priceAnew 20 = .ok (.iload 4, 2) := by decide +kernel
theorem dX1_priceAnew_22 : decode cX1_priceAnew 22 = .ok (.aaload, 1) := by decide +kernel
theorem dX1_priceAnew_23 : decode cX1_priceAnew 23 = .ok (.astore 5, 2) := by decide +kernel
theorem dX1_priceAnew_25 : decode cX1_priceAnew 25 = .ok (.aload 5, 2) := by decide +kernel
theorem dX1_priceAnew_27 : decode cX1_priceAnew 27 = .ok (.ifnull 20, 3) := by decide +kernel
theorem dX1_priceAnew_30 : decode cX1_priceAnew 30 = .ok (.aload 5, 2) := by decide +kernel
theorem dX1_priceAnew_32 : decode cX1_priceAnew 32 = .ok (.getfield 53, 3) := by decide +kernel
theorem dX1_priceAnew_35 : decode cX1_priceAnew 35 = .ok (.iconst 3, 1) := by decide +kernel
theorem dX1_priceAnew_36 : decode cX1_priceAnew 36 = .ok (.if_icmp .eq 11, 3) := by decide +kernel
theorem dX1_priceAnew_39 : decode cX1_priceAnew 39 = .ok (.iload_n 1, 1) := by decide +kernel
theorem dX1_priceAnew_40 : decode cX1_priceAnew 40 = .ok (.aload 5, 2) := by decide +kernel
theorem dX1_priceAnew_42 : decode cX1_priceAnew 42 = .ok (.getfield 56, 3) := by decide +kernel
theorem dX1_priceAnew_45 : decode cX1_priceAnew 45 = .ok (.iadd, 1) := by decide +kernel
theorem dX1_priceAnew_46 : decode cX1_priceAnew 46 = .ok (.istore_n 1, 1) := by decide +kernel
theorem dX1_priceAnew_47 : decode cX1_priceAnew 47 = .ok (.iinc 4 1, 3) := by decide +kernel
theorem dX1_priceAnew_50 : decode cX1_priceAnew 50 = .ok (.goto (-37), 3) := by decide +kernel
theorem dX1_priceAnew_53 : decode cX1_priceAnew 53 = .ok (.iload_n 1, 1) := by decide +kernel
theorem dX1_priceAnew_54 : decode cX1_priceAnew 54 = .ok (.aload_n 0, 1) := by decide +kernel
theorem dX1_priceAnew_55 : decode cX1_priceAnew 55 = .ok (.getfield 21, 3) := by decide +kernel
theorem dX1_priceAnew_58 : decode cX1_priceAnew 58 = .ok (.if_icmp .lt 17, 3) := by decide +kernel
theorem dX1_priceAnew_61 : decode cX1_priceAnew 61 = .ok (.iload_n 1, 1) := by decide +kernel
theorem dX1_priceAnew_62 : decode cX1_priceAnew 62 = .ok (.iload_n 1, 1) := by decide +kernel
theorem dX1_priceAnew_63 : decode cX1_priceAnew 63 = .ok (.aload_n 0, 1) := by decide +kernel
theorem dX1_priceAnew_64 : decode cX1_priceAnew 64 = .ok (.getfield 17, 3) := by decide +kernel
theorem dX1_priceAnew_67 : decode cX1_priceAnew 67 = .ok (.imul, 1) := by decide +kernel
theorem dX1_priceAnew_68 : decode cX1_priceAnew 68 = .ok (.bipush 100, 2) := by decide +kernel
theorem dX1_priceAnew_70 : decode cX1_priceAnew 70 = .ok (.idiv, 1) := by decide +kernel
theorem dX1_priceAnew_71 : decode cX1_priceAnew 71 = .ok (.isub, 1) := by decide +kernel
theorem dX1_priceAnew_72 : decode cX1_priceAnew 72 = .ok (.goto 4, 3) := by decide +kernel
theorem dX1_priceAnew_75 : decode cX1_priceAnew 75 = .ok (.iload_n 1, 1) := by decide +kernel
theorem dX1_priceAnew_76 : decode cX1_priceAnew 76 = .ok (.ireturn, 1) := by decide +kernel
set_option maxRecDepth 20000 in
theorem ggX1_owed_X1_priceAnew : GoodIn wsX1_owed wsX1_priceAnew := goodIn_r _ [7, 8, 9, 10, 11, 12, 13, 14, 15, 16, 17, 18, 19, 20, 21, 22, 23, 24, 25, 26, 27, 28, 29] (by decide +kernel) (by decide +kernel)
set_option maxRecDepth 20000 in
theorem gX1_owed_X1_priceAnew : GoodIn wsX1_owed (wsV RX1 27 RX1 yX1_priceAnew wsX1_priceAnew) := goodIn_app (goodIn_of _ (by decide +kernel)) ggX1_owed_X1_priceAnew
theorem dX1_owed_0 : decode cX1_owed 0 = .ok (.aload_n 0, 1) := by decide +kernel
theorem dX1_owed_1 : decode cX1_owed 1 = .ok (.invokevirtual 27, 3) := by decide +kernel
theorem dX1_owed_4 : decode cX1_owed 4 = .ok (.aload_n 0, 1) := by decide +kernel
theorem dX1_owed_5 : decode cX1_owed 5 = .ok (.getfield 59, 3) := by decide +kernel
theorem dX1_owed_8 : decode cX1_owed 8 = .ok (.iadd, 1) := by decide +kernel
theorem dX1_owed_9 : decode cX1_owed 9 = .ok (.aload_n 0, 1) := by decide +kernel
theorem dX1_owed_10 : decode cX1_owed 10 = .ok (.getfield 62, 3) := by decide +kernel
theorem dX1_owed_13 : decode cX1_owed 13 = .ok (.iadd, 1) := by decide +kernel
theorem dX1_owed_14 : decode cX1_owed 14 = .ok (.ireturn, 1) := by decide +kernel
theorem dX1_allTaken_0 : decode cX1_allTaken 0 = .ok (.aload_n 0, 1) := by decide +kernel
theorem dX1_allTaken_1 : decode cX1_allTaken 1 = .ok (.getfield 43, 3) := by decide +kernel
theorem dX1_allTaken_4 : decode cX1_allTaken 4 = .ok (.aload_n 0, 1) := by decide +kernel
theorem dX1_allTaken_5 : decode cX1_allTaken 5 = .ok (.getfield 40, 3) := by decide +kernel
theorem dX1_allTaken_8 : decode cX1_allTaken 8 = .ok (.iadd, 1) := by decide +kernel
theorem dX1_allTaken_9 : decode cX1_allTaken 9 = .ok (.aload_n 0, 1) := by decide +kernel
theorem dX1_allTaken_10 : decode cX1_allTaken 10 = .ok (.getfield 37, 3) := by decide +kernel
theorem dX1_allTaken_13 : decode cX1_allTaken 13 = .ok (.iadd, 1) := by decide +kernel
theorem dX1_allTaken_14 : decode cX1_allTaken 14 = .ok (.ireturn, 1) := by decide +kernel
set_option maxRecDepth 20000 in
theorem ggX1_refundSurplus_X1_allTaken : GoodIn wsX1_refundSurplus wsX1_allTaken := goodIn_r _ [16, 5, 9, 10, 32, 33, 34, 35, 36, 37, 38, 39, 40, 41, 42, 43] (by decide +kernel) (by decide +kernel)
set_option maxRecDepth 20000 in
theorem gX1_refundSurplus_X1_allTaken : GoodIn wsX1_refundSurplus (wsV RX1 65 RX1 yX1_allTaken wsX1_allTaken) := goodIn_app (goodIn_of _ (by decide +kernel)) ggX1_refundSurplus_X1_allTaken
set_option maxRecDepth 20000 in
theorem ggX1_refundSurplus_X1_owed : GoodIn wsX1_refundSurplus wsX1_owed := goodIn_r _ [20, 21, 22, 23, 24, 25, 15, 26, 27, 28, 29, 30, 31, 32, 33, 34, 35, 36, 37, 38, 39, 40, 41, 42, 43, 44, 45, 46, 47, 48] (by decide +kernel) (by decide +kernel)
set_option maxRecDepth 20000 in
theorem gX1_refundSurplus_X1_owed : GoodIn wsX1_refundSurplus (wsV RX1 68 RX1 yX1_owed wsX1_owed) := goodIn_app (goodIn_of _ (by decide +kernel)) ggX1_refundSurplus_X1_owed
theorem dX1_refundSurplus_0 : decode cX1_refundSurplus 0 = .ok (.aload_n 0, 1) := by decide +kernel
theorem dX1_refundSurplus_1 : decode cX1_refundSurplus 1 = .ok (.invokevirtual 65, 3) := by decide +kernel
theorem dX1_refundSurplus_4 : decode cX1_refundSurplus 4 = .ok (.aload_n 0, 1) := by decide +kernel
theorem dX1_refundSurplus_5 : decode cX1_refundSurplus 5 = .ok (.invokevirtual 68, 3) := by decide +kernel
theorem dX1_refundSurplus_8 : decode cX1_refundSurplus 8 = .ok (.isub, 1) := by decide +kernel
theorem dX1_refundSurplus_9 : decode cX1_refundSurplus 9 = .ok (.iconst 0, 1) := by decide +kernel
theorem dX1_refundSurplus_10 : decode cX1_refundSurplus 10 = .ok (.invokestatic 71, 3) := by decide +kernel
theorem dX1_refundSurplus_13 : decode cX1_refundSurplus 13 = .ok (.istore_n 1, 1) := by decide +kernel
theorem dX1_refundSurplus_14 : decode cX1_refundSurplus 14 = .ok (.iload_n 1, 1) := by decide +kernel
theorem dX1_refundSurplus_15 : decode cX1_refundSurplus 15 = .ok (.aload_n 0, 1) := by decide +kernel
theorem dX1_refundSurplus_16 : decode cX1_refundSurplus 16 = .ok (.getfield 43, 3) := by decide +kernel
theorem dX1_refundSurplus_19 : decode cX1_refundSurplus 19 = .ok (.invokestatic 31, 3) := by decide +kernel
theorem dX1_refundSurplus_22 : decode cX1_refundSurplus 22 = .ok (.istore_n 2, 1) := by decide +kernel
theorem dX1_refundSurplus_23 : decode cX1_refundSurplus 23 = .ok (.iload_n 1, 1) := by decide +kernel
theorem dX1_refundSurplus_24 : decode cX1_refundSurplus 24 = .ok (.iload_n 2, 1) := by decide +kernel
theorem dX1_refundSurplus_25 : decode cX1_refundSurplus 25 = .ok (.isub, 1) := by decide +kernel
theorem dX1_refundSurplus_26 : decode cX1_refundSurplus 26 = .ok (.aload_n 0, 1) := by decide +kernel
theorem dX1_refundSurplus_27 : decode cX1_refundSurplus 27 = .ok (.getfield 40, 3) := by decide +kernel
theorem dX1_refundSurplus_30 : decode cX1_refundSurplus 30 = .ok (.invokestatic 31, 3) := by decide +kernel
theorem dX1_refundSurplus_33 : decode cX1_refundSurplus 33 = .ok (.istore_n 3, 1) := by decide +kernel
theorem dX1_refundSurplus_34 : decode cX1_refundSurplus 34 = .ok (.aload_n 0, 1) := by decide +kernel
theorem dX1_refundSurplus_35 : decode cX1_refundSurplus 35 = .ok (.dup, 1) := by decide +kernel
theorem dX1_refundSurplus_36 : decode cX1_refundSurplus 36 = .ok (.getfield 43, 3) := by decide +kernel
theorem dX1_refundSurplus_39 : decode cX1_refundSurplus 39 = .ok (.iload_n 2, 1) := by decide +kernel
theorem dX1_refundSurplus_40 : decode cX1_refundSurplus 40 = .ok (.isub, 1) := by decide +kernel
theorem dX1_refundSurplus_41 : decode cX1_refundSurplus 41 = .ok (.putfield 43, 3) := by decide +kernel
theorem dX1_refundSurplus_44 : decode cX1_refundSurplus 44 = .ok (.aload_n 0, 1) := by decide +kernel
theorem dX1_refundSurplus_45 : decode cX1_refundSurplus 45 = .ok (.dup, 1) := by decide +kernel
theorem dX1_refundSurplus_46 : decode cX1_refundSurplus 46 = .ok (.getfield 40, 3) := by decide +kernel
theorem dX1_refundSurplus_49 : decode cX1_refundSurplus 49 = .ok (.iload_n 3, 1) := by decide +kernel
theorem dX1_refundSurplus_50 : decode cX1_refundSurplus 50 = .ok (.isub, 1) := by decide +kernel
theorem dX1_refundSurplus_51 : decode cX1_refundSurplus 51 = .ok (.putfield 40, 3) := by decide +kernel
theorem dX1_refundSurplus_54 : decode cX1_refundSurplus 54 = .ok (.aload_n 0, 1) := by decide +kernel
theorem dX1_refundSurplus_55 : decode cX1_refundSurplus 55 = .ok (.dup, 1) := by decide +kernel
theorem dX1_refundSurplus_56 : decode cX1_refundSurplus 56 = .ok (.getfield 37, 3) := by decide +kernel
theorem dX1_refundSurplus_59 : decode cX1_refundSurplus 59 = .ok (.iload_n 1, 1) := by decide +kernel
theorem dX1_refundSurplus_60 : decode cX1_refundSurplus 60 = .ok (.iload_n 2, 1) := by decide +kernel
theorem dX1_refundSurplus_61 : decode cX1_refundSurplus 61 = .ok (.isub, 1) := by decide +kernel
theorem dX1_refundSurplus_62 : decode cX1_refundSurplus 62 = .ok (.iload_n 3, 1) := by decide +kernel
theorem dX1_refundSurplus_63 : decode cX1_refundSurplus 63 = .ok (.isub, 1) := by decide +kernel
theorem dX1_refundSurplus_64 : decode cX1_refundSurplus 64 = .ok (.isub, 1) := by decide +kernel
theorem dX1_refundSurplus_65 : decode cX1_refundSurplus 65 = .ok (.putfield 37, 3) := by decide +kernel
theorem dX1_refundSurplus_68 : decode cX1_refundSurplus 68 = .ok (.aload_n 0, 1) := by decide +kernel
theorem dX1_refundSurplus_69 : decode cX1_refundSurplus 69 = .ok (.dup, 1) := by decide +kernel
theorem dX1_refundSurplus_70 : decode cX1_refundSurplus 70 = .ok (.getfield 74, 3) := by decide +kernel
theorem dX1_refundSurplus_73 : decode cX1_refundSurplus 73 = .ok (.iload_n 1, 1) := by decide +kernel
theorem dX1_refundSurplus_74 : decode cX1_refundSurplus 74 = .ok (.iadd, 1) := by decide +kernel
theorem dX1_refundSurplus_75 : decode cX1_refundSurplus 75 = .ok (.putfield 74, 3) := by decide +kernel
theorem dX1_refundSurplus_78 : decode cX1_refundSurplus 78 = .ok (.iload_n 1, 1) := by decide +kernel
theorem dX1_refundSurplus_79 : decode cX1_refundSurplus 79 = .ok (.ireturn, 1) := by decide +kernel
set_option maxRecDepth 20000 in
theorem ggX1_endWaits_X0_isWaitedFor : GoodIn wsX1_endWaits wsX0_isWaitedFor := goodIn_r _ [9, 10, 30, 31, 32, 33, 34] (by decide +kernel) (by decide +kernel)
set_option maxRecDepth 20000 in
theorem gX1_endWaits_X0_isWaitedFor : GoodIn wsX1_endWaits (wsV RX1 77 RX0 yX0_isWaitedFor wsX0_isWaitedFor) := goodIn_app (goodIn_of _ (by decide +kernel)) ggX1_endWaits_X0_isWaitedFor
set_option maxRecDepth 20000 in
theorem ggX1_endWaits_X1_charge : GoodIn wsX1_endWaits wsX1_charge := goodIn_r _ [15, 16, 17, 18, 19, 20, 21, 22, 23, 24, 25, 26, 27, 28, 29] (by decide +kernel) (by decide +kernel)
set_option maxRecDepth 20000 in
theorem gX1_endWaits_X1_charge : GoodIn wsX1_endWaits (wsV RX1 84 RX1 yX1_charge wsX1_charge) := goodIn_app (goodIn_of _ (by decide +kernel)) ggX1_endWaits_X1_charge
theorem dX1_endWaits_0 : decode cX1_endWaits 0 = .ok (.iconst 0, 1) := by decide +kernel
theorem dX1_endWaits_1 : decode cX1_endWaits 1 = .ok (.istore_n 2, 1) := by decide +kernel
theorem dX1_endWaits_2 : decode cX1_endWaits 2 = .ok (.aload_n 0, 1) := by decide +kernel
theorem dX1_endWaits_3 : decode cX1_endWaits 3 = .ok (.getfield 11, 3) := by decide +kernel
theorem dX1_endWaits_6 : decode cX1_endWaits 6 = .ok (.astore_n 3, 1) := by decide +kernel
theorem dX1_endWaits_7 : decode cX1_endWaits 7 = .ok (.aload_n 3, 1) := by decide +kernel
theorem dX1_endWaits_8 : decode cX1_endWaits 8 = .ok (.arraylength, 1) := by decide +kernel
theorem dX1_endWaits_9 : decode cX1_endWaits 9 = .ok (.istore 4, 2) := by decide +kernel
theorem dX1_endWaits_11 : decode cX1_endWaits 11 = .ok (.iconst 0, 1) := by decide +kernel
theorem dX1_endWaits_12 : decode cX1_endWaits 12 = .ok (.istore 5, 2) := by decide +kernel
theorem dX1_endWaits_14 : decode cX1_endWaits 14 = .ok (.iload 5, 2) := by decide +kernel
theorem dX1_endWaits_16 : decode cX1_endWaits 16 = .ok (.iload 4, 2) := by decide +kernel
theorem dX1_endWaits_18 : decode cX1_endWaits 18 = .ok (.if_icmp .ge 64, 3) := by decide +kernel
theorem dX1_endWaits_21 : decode cX1_endWaits 21 = .ok (.aload_n 3, 1) := by decide +kernel
theorem dX1_endWaits_22 : decode cX1_endWaits 22 = .ok (.iload 5, 2) := by decide +kernel
theorem dX1_endWaits_24 : decode cX1_endWaits 24 = .ok (.aaload, 1) := by decide +kernel
theorem dX1_endWaits_25 : decode cX1_endWaits 25 = .ok (.astore 6, 2) := by decide +kernel
theorem dX1_endWaits_27 : decode cX1_endWaits 27 = .ok (.aload 6, 2) := by decide +kernel
theorem dX1_endWaits_29 : decode cX1_endWaits 29 = .ok (.ifnull 47, 3) := by decide +kernel
theorem dX1_endWaits_32 : decode cX1_endWaits 32 = .ok (.aload 6, 2) := by decide +kernel
theorem dX1_endWaits_34 : decode cX1_endWaits 34 = .ok (.invokevirtual 77, 3) := by decide +kernel
theorem dX1_endWaits_37 : decode cX1_endWaits 37 = .ok (.ifCond .eq 39, 3) := by decide +kernel
theorem dX1_endWaits_40 : decode cX1_endWaits 40 = .ok (.aload 6, 2) := by decide +kernel
theorem dX1_endWaits_42 : decode cX1_endWaits 42 = .ok (.getfield 81, 3) := by decide +kernel
theorem dX1_endWaits_45 : decode cX1_endWaits 45 = .ok (.iload_n 1, 1) := by decide +kernel
theorem dX1_endWaits_46 : decode cX1_endWaits 46 = .ok (.if_icmp .gt 30, 3) := by decide +kernel
theorem dX1_endWaits_49 : decode cX1_endWaits 49 = .ok (.aload 6, 2) := by decide +kernel
theorem dX1_endWaits_51 : decode cX1_endWaits 51 = .ok (.getfield 53, 3) := by decide +kernel
theorem dX1_endWaits_54 : decode cX1_endWaits 54 = .ok (.iconst 2, 1) := by decide +kernel
theorem dX1_endWaits_55 : decode cX1_endWaits 55 = .ok (.if_icmp .ne 12, 3) := by decide +kernel
theorem dX1_endWaits_58 : decode cX1_endWaits 58 = .ok (.aload_n 0, 1) := by decide +kernel
theorem dX1_endWaits_59 : decode cX1_endWaits 59 = .ok (.aload 6, 2) := by decide +kernel
theorem dX1_endWaits_61 : decode cX1_endWaits 61 = .ok (.getfield 56, 3) := by decide +kernel
theorem dX1_endWaits_64 : decode cX1_endWaits 64 = .ok (.invokevirtual 84, 3) := by decide +kernel
theorem dX1_endWaits_67 : decode cX1_endWaits 67 = .ok (.aload 6, 2) := by decide +kernel
theorem dX1_endWaits_69 : decode cX1_endWaits 69 = .ok (.iconst 0, 1) := by decide +kernel
theorem dX1_endWaits_70 : decode cX1_endWaits 70 = .ok (.putfield 53, 3) := by decide +kernel
theorem dX1_endWaits_73 : decode cX1_endWaits 73 = .ok (.iinc 2 1, 3) := by decide +kernel
theorem dX1_endWaits_76 : decode cX1_endWaits 76 = .ok (.iinc 5 1, 3) := by decide +kernel
theorem dX1_endWaits_79 : decode cX1_endWaits 79 = .ok (.goto (-65), 3) := by decide +kernel
theorem dX1_endWaits_82 : decode cX1_endWaits 82 = .ok (.iload_n 2, 1) := by decide +kernel
theorem dX1_endWaits_83 : decode cX1_endWaits 83 = .ok (.ireturn, 1) := by decide +kernel
theorem dX1_charge_0 : decode cX1_charge 0 = .ok (.aload_n 0, 1) := by decide +kernel
theorem dX1_charge_1 : decode cX1_charge 1 = .ok (.dup, 1) := by decide +kernel
theorem dX1_charge_2 : decode cX1_charge 2 = .ok (.getfield 62, 3) := by decide +kernel
theorem dX1_charge_5 : decode cX1_charge 5 = .ok (.iload_n 1, 1) := by decide +kernel
theorem dX1_charge_6 : decode cX1_charge 6 = .ok (.iadd, 1) := by decide +kernel
theorem dX1_charge_7 : decode cX1_charge 7 = .ok (.putfield 62, 3) := by decide +kernel
theorem dX1_charge_10 : decode cX1_charge 10 = .ok (.aload_n 0, 1) := by decide +kernel
theorem dX1_charge_11 : decode cX1_charge 11 = .ok (.dup, 1) := by decide +kernel
theorem dX1_charge_12 : decode cX1_charge 12 = .ok (.getfield 43, 3) := by decide +kernel
theorem dX1_charge_15 : decode cX1_charge 15 = .ok (.iload_n 1, 1) := by decide +kernel
theorem dX1_charge_16 : decode cX1_charge 16 = .ok (.iadd, 1) := by decide +kernel
theorem dX1_charge_17 : decode cX1_charge 17 = .ok (.putfield 43, 3) := by decide +kernel
theorem dX1_charge_20 : decode cX1_charge 20 = .ok (.return_, 1) := by decide +kernel
theorem dX2_init_0 : decode cX2_init 0 = .ok (.aload_n 0, 1) := by decide +kernel
theorem dX2_init_1 : decode cX2_init 1 = .ok (.invokespecial 1, 3) := by decide +kernel
theorem dX2_init_4 : decode cX2_init 4 = .ok (.aload_n 0, 1) := by decide +kernel
theorem dX2_init_5 : decode cX2_init 5 = .ok (.bipush 30, 2) := by decide +kernel
theorem dX2_init_7 : decode cX2_init 7 = .ok (.anewarray 9, 3) := by decide +kernel
theorem dX2_init_10 : decode cX2_init 10 = .ok (.putfield 11, 3) := by decide +kernel
theorem dX2_init_13 : decode cX2_init 13 = .ok (.return_, 1) := by decide +kernel
set_option maxRecDepth 20000 in
theorem ggX2_order_X2_requireRange : GoodIn wsX2_order wsX2_requireRange := goodIn_ca (goodIn_r _ [12, 13, 14] (by decide +kernel) (by decide +kernel)) (goodIn_sub (fun _ h => List.mem_cons_of_mem _ (List.mem_append_right _ h)) (by decide +kernel))
set_option maxRecDepth 20000 in
theorem gX2_order_X2_requireRange : GoodIn wsX2_order (va_wsS RX2 15 yX2_requireRange wsX2_requireRange) := goodIn_app (goodIn_of _ (by decide +kernel)) ggX2_order_X2_requireRange
set_option maxRecDepth 20000 in
theorem ggX2_order_X1_init : GoodIn wsX2_order wsX1_init := goodIn_r _ [17, 18, 19, 20, 21, 22, 23, 24, 31, 32, 33, 34, 35, 36, 37, 38, 39, 40, 41, 42] (by decide +kernel) (by decide +kernel)
set_option maxRecDepth 20000 in
theorem gX2_order_X1_init : GoodIn wsX2_order (wsX1_init) := ggX2_order_X1_init
theorem dX2_order_0 : decode cX2_order 0 = .ok (.iload_n 1, 1) := by decide +kernel
theorem dX2_order_1 : decode cX2_order 1 = .ok (.iconst 0, 1) := by decide +kernel
theorem dX2_order_2 : decode cX2_order 2 = .ok (.bipush 90, 2) := by decide +kernel
theorem dX2_order_4 : decode cX2_order 4 = .ok (.invokestatic 15, 3) := by decide +kernel
theorem dX2_order_7 : decode cX2_order 7 = .ok (.iload_n 2, 1) := by decide +kernel
theorem dX2_order_8 : decode cX2_order 8 = .ok (.iconst 0, 1) := by decide +kernel
theorem dX2_order_9 : decode cX2_order 9 = .ok (.ldc 19, 2) := by decide +kernel
theorem dX2_order_11 : decode cX2_order 11 = .ok (.invokestatic 15, 3) := by decide +kernel
theorem dX2_order_14 : decode cX2_order 14 = .ok (.aload_n 0, 1) := by decide +kernel
theorem dX2_order_15 : decode cX2_order 15 = .ok (.getfield 20, 3) := by decide +kernel
theorem dX2_order_18 : decode cX2_order 18 = .ok (.ifCond .lt 15, 3) := by decide +kernel
theorem dX2_order_21 : decode cX2_order 21 = .ok (.aload_n 0, 1) := by decide +kernel
theorem dX2_order_22 : decode cX2_order 22 = .ok (.getfield 20, 3) := by decide +kernel
theorem dX2_order_25 : decode cX2_order 25 = .ok (.aload_n 0, 1) := by decide +kernel
theorem dX2_order_26 : decode cX2_order 26 = .ok (.getfield 11, 3) := by decide +kernel
theorem dX2_order_29 : decode cX2_order 29 = .ok (.arraylength, 1) := by decide +kernel
theorem dX2_order_30 : decode cX2_order 30 = .ok (.if_icmp .lt 13, 3) := by decide +kernel
theorem dX2_order_33 : decode cX2_order 33 = .ok (.new 24, 3) := by decide +kernel
theorem dX2_order_36 : decode cX2_order 36 = .ok (.dup, 1) := by decide +kernel
theorem dX2_order_37 : decode cX2_order 37 = .ok (.ldc 26, 2) := by decide +kernel
theorem dX2_order_39 : decode cX2_order 39 = .ok (.invokespecial 28, 3) := by decide +kernel
theorem dX2_order_42 : decode cX2_order 42 = .ok (.athrow, 1) := by decide +kernel
theorem dX2_order_43 : decode cX2_order 43 = .ok (.aload_n 0, 1) := by decide +kernel
theorem dX2_order_44 : decode cX2_order 44 = .ok (.getfield 11, 3) := by decide +kernel
theorem dX2_order_47 : decode cX2_order 47 = .ok (.aload_n 0, 1) := by decide +kernel
theorem dX2_order_48 : decode cX2_order 48 = .ok (.getfield 20, 3) := by decide +kernel
theorem dX2_order_51 : decode cX2_order 51 = .ok (.new 9, 3) := by decide +kernel
theorem dX2_order_54 : decode cX2_order 54 = .ok (.dup, 1) := by decide +kernel
theorem dX2_order_55 : decode cX2_order 55 = .ok (.iload_n 1, 1) := by decide +kernel
theorem dX2_order_56 : decode cX2_order 56 = .ok (.iload_n 2, 1) := by decide +kernel
theorem dX2_order_57 : decode cX2_order 57 = .ok (.invokespecial 31, 3) := by decide +kernel
theorem dX2_order_60 : decode cX2_order 60 = .ok (.aastore, 1) := by decide +kernel
theorem dX2_order_61 : decode cX2_order 61 = .ok (.aload_n 0, 1) := by decide +kernel
theorem dX2_order_62 : decode cX2_order 62 = .ok (.dup, 1) := by decide +kernel
theorem dX2_order_63 : decode cX2_order 63 = .ok (.getfield 20, 3) := by decide +kernel
theorem dX2_order_66 : decode cX2_order 66 = .ok (.dup_x1, 1) := by decide +kernel
theorem dX2_order_67 : decode cX2_order 67 = .ok (.iconst 1, 1) := by decide +kernel
theorem dX2_order_68 : decode cX2_order 68 = .ok (.iadd, 1) := by decide +kernel
theorem dX2_order_69 : decode cX2_order 69 = .ok (.putfield 20, 3) := by decide +kernel
theorem dX2_order_72 : decode cX2_order 72 = .ok (.ireturn, 1) := by decide +kernel
set_option maxRecDepth 20000 in
theorem ggX2_add_X2_findOrder : GoodIn wsX2_add wsX2_findOrder := goodIn_ca (goodIn_r _ [12, 13, 14, 15, 58, 59, 60, 61, 62, 63] (by decide +kernel) (by decide +kernel)) (goodIn_sub (fun _ h => List.mem_cons_of_mem _ (List.mem_append_left _ (List.mem_append_right _ h))) (by decide +kernel))
set_option maxRecDepth 20000 in
theorem gX2_add_X2_findOrder : GoodIn wsX2_add (wsV RX2 34 RX2 yX2_findOrder wsX2_findOrder) := goodIn_app (goodIn_of _ (by decide +kernel)) ggX2_add_X2_findOrder
set_option maxRecDepth 20000 in
theorem ggX2_add_X2_requireRange : GoodIn wsX2_add wsX2_requireRange := goodIn_ca (goodIn_r _ [18, 19, 20] (by decide +kernel) (by decide +kernel)) (goodIn_sub (fun _ h => List.mem_cons_of_mem _ (List.mem_append_right _ h)) (by decide +kernel))
set_option maxRecDepth 20000 in
theorem gX2_add_X2_requireRange : GoodIn wsX2_add (va_wsS RX2 15 yX2_requireRange wsX2_requireRange) := goodIn_app (goodIn_of _ (by decide +kernel)) ggX2_add_X2_requireRange
set_option maxRecDepth 20000 in
theorem ggX2_add_X1_hasRoom : GoodIn wsX2_add wsX1_hasRoom := goodIn_r _ [25, 26, 27, 41, 42, 43, 44, 45, 46, 47, 48, 49, 50, 51, 52] (by decide +kernel) (by decide +kernel)
set_option maxRecDepth 20000 in
theorem gX2_add_X1_hasRoom : GoodIn wsX2_add (wsV RX2 43 RX1 yX1_hasRoom wsX1_hasRoom) := goodIn_app (goodIn_of _ (by decide +kernel)) ggX2_add_X1_hasRoom
set_option maxRecDepth 20000 in
theorem ggX2_add_X0_init : GoodIn wsX2_add wsX0_init := goodIn_r _ [30, 31, 32, 33, 34, 35, 36, 53, 54, 55, 56, 57] (by decide +kernel) (by decide +kernel)
set_option maxRecDepth 20000 in
theorem gX2_add_X0_init : GoodIn wsX2_add (wsX0_init) := ggX2_add_X0_init
set_option maxRecDepth 20000 in
theorem ggX2_add_X1_addLine : GoodIn wsX2_add wsX1_addLine := goodIn_r _ [40, 26, 27, 41, 42, 43, 44, 45, 46, 47, 48, 49, 50, 51, 52] (by decide +kernel) (by decide +kernel)
set_option maxRecDepth 20000 in
theorem gX2_add_X1_addLine : GoodIn wsX2_add (wsV RX2 52 RX1 yX1_addLine wsX1_addLine) := goodIn_app (goodIn_of _ (by decide +kernel)) ggX2_add_X1_addLine
theorem dX2_add_0 : decode cX2_add 0 = .ok (.aload_n 0, 1) := by decide +kernel
theorem dX2_add_1 : decode cX2_add 1 = .ok (.iload_n 1, 1) := by decide +kernel
theorem dX2_add_2 : decode cX2_add 2 = .ok (.invokevirtual 34, 3) := by decide +kernel
theorem dX2_add_5 : decode cX2_add 5 = .ok (.astore 4, 2) := by decide +kernel
theorem dX2_add_7 : decode cX2_add 7 = .ok (.iload_n 2, 1) := by decide +kernel
theorem dX2_add_8 : decode cX2_add 8 = .ok (.iconst 1, 1) := by decide +kernel
theorem dX2_add_9 : decode cX2_add 9 = .ok (.ldc 38, 2) := by decide +kernel
theorem dX2_add_11 : decode cX2_add 11 = .ok (.invokestatic 15, 3) := by decide +kernel
theorem dX2_add_14 : decode cX2_add 14 = .ok (.iload_n 3, 1) := by decide +kernel
theorem dX2_add_15 : decode cX2_add 15 = .ok (.iconst 0, 1) := by decide +kernel
theorem dX2_add_16 : decode cX2_add 16 = .ok (.iconst 2, 1) := by decide +kernel
theorem dX2_add_17 : decode cX2_add 17 = .ok (.invokestatic 15, 3) := by decide +kernel
theorem dX2_add_20 : decode cX2_add 20 = .ok (.aload 4, 2) := by decide +kernel
theorem dX2_add_22 : decode cX2_add 22 = .ok (.getfield 39, 3) := by decide +kernel
theorem dX2_add_25 : decode cX2_add 25 = .ok (.ifCond .ne 11, 3) := by decide +kernel
theorem dX2_add_28 : decode cX2_add 28 = .ok (.aload 4, 2) := by decide +kernel
theorem dX2_add_30 : decode cX2_add 30 = .ok (.invokevirtual 43, 3) := by decide +kernel
theorem dX2_add_33 : decode cX2_add 33 = .ok (.ifCond .ne 13, 3) := by decide +kernel
theorem dX2_add_36 : decode cX2_add 36 = .ok (.new 24, 3) := by decide +kernel
theorem dX2_add_39 : decode cX2_add 39 = .ok (.dup, 1) := by decide +kernel
theorem dX2_add_40 : decode cX2_add 40 = .ok (.ldc 47, 2) := by decide +kernel
theorem dX2_add_42 : decode cX2_add 42 = .ok (.invokespecial 28, 3) := by decide +kernel
theorem dX2_add_45 : decode cX2_add 45 = .ok (.athrow, 1) := by decide +kernel
theorem dX2_add_46 : decode cX2_add 46 = .ok (.aload 4, 2) := by decide +kernel
theorem dX2_add_48 : decode cX2_add 48 = .ok (.new 49, 3) := by decide +kernel
theorem dX2_add_51 : decode cX2_add 51 = .ok (.dup, 1) := by decide +kernel
theorem dX2_add_52 : decode cX2_add 52 = .ok (.iload_n 2, 1) := by decide +kernel
theorem dX2_add_53 : decode cX2_add 53 = .ok (.iload_n 3, 1) := by decide +kernel
theorem dX2_add_54 : decode cX2_add 54 = .ok (.invokespecial 51, 3) := by decide +kernel
theorem dX2_add_57 : decode cX2_add 57 = .ok (.invokevirtual 52, 3) := by decide +kernel
theorem dX2_add_60 : decode cX2_add 60 = .ok (.ireturn, 1) := by decide +kernel
set_option maxRecDepth 20000 in
theorem ggX2_pay_X2_findOrder : GoodIn wsX2_pay wsX2_findOrder := goodIn_ca (goodIn_r _ [12, 13, 14, 15, 56, 57, 58, 59, 60, 61] (by decide +kernel) (by decide +kernel)) (goodIn_sub (fun _ h => List.mem_cons_of_mem _ (List.mem_append_left _ (List.mem_append_right _ h))) (by decide +kernel))
set_option maxRecDepth 20000 in
theorem gX2_pay_X2_findOrder : GoodIn wsX2_pay (wsV RX2 34 RX2 yX2_findOrder wsX2_findOrder) := goodIn_app (goodIn_of _ (by decide +kernel)) ggX2_pay_X2_findOrder
set_option maxRecDepth 20000 in
theorem ggX2_pay_X2_requireRange : GoodIn wsX2_pay wsX2_requireRange := goodIn_ca (goodIn_r _ [18, 19, 20] (by decide +kernel) (by decide +kernel)) (goodIn_sub (fun _ h => List.mem_cons_of_mem _ (List.mem_append_right _ h)) (by decide +kernel))
set_option maxRecDepth 20000 in
theorem gX2_pay_X2_requireRange : GoodIn wsX2_pay (va_wsS RX2 15 yX2_requireRange wsX2_requireRange) := goodIn_app (goodIn_of _ (by decide +kernel)) ggX2_pay_X2_requireRange
set_option maxRecDepth 20000 in
theorem ggX2_pay_X1_settle : GoodIn wsX2_pay wsX1_settle := goodIn_r _ [25, 26, 27, 28, 29, 30, 31, 32, 33, 34, 35, 36, 37, 24, 38, 39, 40, 41, 42, 43, 44, 45, 46, 47, 48, 49, 50, 51, 52, 53, 54, 55, 62, 63, 64, 65, 66] (by decide +kernel) (by decide +kernel)
set_option maxRecDepth 20000 in
theorem gX2_pay_X1_settle : GoodIn wsX2_pay (wsV RX2 64 RX1 yX1_settle wsX1_settle) := goodIn_app (goodIn_of _ (by decide +kernel)) ggX2_pay_X1_settle
theorem dX2_pay_0 : decode cX2_pay 0 = .ok (.aload_n 0, 1) := by decide +kernel
theorem dX2_pay_1 : decode cX2_pay 1 = .ok (.iload_n 1, 1) := by decide +kernel
theorem dX2_pay_2 : decode cX2_pay 2 = .ok (.invokevirtual 34, 3) := by decide +kernel
theorem dX2_pay_5 : decode cX2_pay 5 = .ok (.astore 4, 2) := by decide +kernel
theorem dX2_pay_7 : decode cX2_pay 7 = .ok (.iload_n 2, 1) := by decide +kernel
theorem dX2_pay_8 : decode cX2_pay 8 = .ok (.iconst 0, 1) := by decide +kernel
theorem dX2_pay_9 : decode cX2_pay 9 = .ok (.ldc 19, 2) := by decide +kernel
theorem dX2_pay_11 : decode cX2_pay 11 = .ok (.invokestatic 15, 3) := by decide +kernel
theorem dX2_pay_14 : decode cX2_pay 14 = .ok (.iload_n 3, 1) := by decide +kernel
theorem dX2_pay_15 : decode cX2_pay 15 = .ok (.iconst 0, 1) := by decide +kernel
theorem dX2_pay_16 : decode cX2_pay 16 = .ok (.ldc 19, 2) := by decide +kernel
theorem dX2_pay_18 : decode cX2_pay 18 = .ok (.invokestatic 15, 3) := by decide +kernel
theorem dX2_pay_21 : decode cX2_pay 21 = .ok (.aload 4, 2) := by decide +kernel
theorem dX2_pay_23 : decode cX2_pay 23 = .ok (.getfield 39, 3) := by decide +kernel
theorem dX2_pay_26 : decode cX2_pay 26 = .ok (.ifCond .ne 11, 3) := by decide +kernel
theorem dX2_pay_29 : decode cX2_pay 29 = .ok (.aload 4, 2) := by decide +kernel
theorem dX2_pay_31 : decode cX2_pay 31 = .ok (.getfield 56, 3) := by decide +kernel
theorem dX2_pay_34 : decode cX2_pay 34 = .ok (.ifCond .ne 13, 3) := by decide +kernel
theorem dX2_pay_37 : decode cX2_pay 37 = .ok (.new 24, 3) := by decide +kernel
theorem dX2_pay_40 : decode cX2_pay 40 = .ok (.dup, 1) := by decide +kernel
theorem dX2_pay_41 : decode cX2_pay 41 = .ok (.ldc 59, 2) := by decide +kernel
theorem dX2_pay_43 : decode cX2_pay 43 = .ok (.invokespecial 28, 3) := by decide +kernel
theorem dX2_pay_46 : decode cX2_pay 46 = .ok (.athrow, 1) := by decide +kernel
theorem dX2_pay_47 : decode cX2_pay 47 = .ok (.aload 4, 2) := by decide +kernel
theorem dX2_pay_49 : decode cX2_pay 49 = .ok (.iload_n 2, 1) := by decide +kernel
theorem dX2_pay_50 : decode cX2_pay 50 = .ok (.iload_n 3, 1) := by decide +kernel
theorem dX2_pay_51 : decode cX2_pay 51 = .ok (.aload_n 0, 1) := by decide +kernel
theorem dX2_pay_52 : decode cX2_pay 52 = .ok (.getfield 61, 3) := by decide +kernel
theorem dX2_pay_55 : decode cX2_pay 55 = .ok (.invokevirtual 64, 3) := by decide +kernel
theorem dX2_pay_58 : decode cX2_pay 58 = .ok (.aload 4, 2) := by decide +kernel
theorem dX2_pay_60 : decode cX2_pay 60 = .ok (.getfield 67, 3) := by decide +kernel
theorem dX2_pay_63 : decode cX2_pay 63 = .ok (.ireturn, 1) := by decide +kernel
theorem dX2_orders_0 : decode cX2_orders 0 = .ok (.aload_n 0, 1) := by decide +kernel
theorem dX2_orders_1 : decode cX2_orders 1 = .ok (.getfield 20, 3) := by decide +kernel
theorem dX2_orders_4 : decode cX2_orders 4 = .ok (.ireturn, 1) := by decide +kernel
set_option maxRecDepth 20000 in
theorem ggX2_mayComeBack_X2_findOrder : GoodIn wsX2_mayComeBack wsX2_findOrder := goodIn_ca (goodIn_r _ [5, 6, 7, 8, 32, 33, 34, 35, 36, 37] (by decide +kernel) (by decide +kernel)) (goodIn_sub (fun _ h => List.mem_cons_of_mem _ (List.mem_append_left _ (List.mem_append_right _ h))) (by decide +kernel))
set_option maxRecDepth 20000 in
theorem gX2_mayComeBack_X2_findOrder : GoodIn wsX2_mayComeBack (wsV RX2 34 RX2 yX2_findOrder wsX2_findOrder) := goodIn_app (goodIn_of _ (by decide +kernel)) ggX2_mayComeBack_X2_findOrder
set_option maxRecDepth 20000 in
theorem ggX2_mayComeBack_X2_findLine : GoodIn wsX2_mayComeBack wsX2_findLine := goodIn_ca (goodIn_r _ [11, 6, 7, 12, 38, 39, 40, 41, 42, 43, 44, 45, 46, 47, 48, 49] (by decide +kernel) (by decide +kernel)) (goodIn_sub (fun _ h => List.mem_cons_of_mem _ (List.mem_append_left _ (List.mem_append_right _ h))) (by decide +kernel))
set_option maxRecDepth 20000 in
theorem gX2_mayComeBack_X2_findLine : GoodIn wsX2_mayComeBack (va_wsS RX2 70 yX2_findLine wsX2_findLine) := goodIn_app (goodIn_of _ (by decide +kernel)) ggX2_mayComeBack_X2_findLine
set_option maxRecDepth 20000 in
theorem ggX2_mayComeBack_X2_requireRange : GoodIn wsX2_mayComeBack wsX2_requireRange := goodIn_ca (goodIn_r _ [15, 16, 17] (by decide +kernel) (by decide +kernel)) (goodIn_sub (fun _ h => List.mem_cons_of_mem _ (List.mem_append_right _ h)) (by decide +kernel))
set_option maxRecDepth 20000 in
theorem gX2_mayComeBack_X2_requireRange : GoodIn wsX2_mayComeBack (va_wsS RX2 15 yX2_requireRange wsX2_requireRange) := goodIn_app (goodIn_of _ (by decide +kernel)) ggX2_mayComeBack_X2_requireRange
set_option maxRecDepth 20000 in
theorem ggX2_mayComeBack_X2_isReturnable : GoodIn wsX2_mayComeBack wsX2_isReturnable := goodIn_r _ [21, 22, 23, 24, 25, 26, 27, 28, 29, 30, 31, 38, 39, 40, 41, 42, 43, 44, 45, 46, 47, 48, 49, 50, 51, 52, 53, 54, 32, 33, 34, 35, 36, 37] (by decide +kernel) (by decide +kernel)
set_option maxRecDepth 20000 in
theorem gX2_mayComeBack_X2_isReturnable : GoodIn wsX2_mayComeBack (wsV RX2 74 RX2 yX2_isReturnable wsX2_isReturnable) := goodIn_app (goodIn_of _ (by decide +kernel)) ggX2_mayComeBack_X2_isReturnable
theorem dX2_mayComeBack_0 : decode cX2_mayComeBack 0 = .ok (.aload_n 0, 1) := by decide +kernel
theorem dX2_mayComeBack_1 : decode cX2_mayComeBack 1 = .ok (.iload_n 1, 1) := by decide +kernel
theorem dX2_mayComeBack_2 : decode cX2_mayComeBack 2 = .ok (.invokevirtual 34, 3) := by decide +kernel
theorem dX2_mayComeBack_5 : decode cX2_mayComeBack 5 = .ok (.astore 4, 2) := by decide +kernel
theorem dX2_mayComeBack_7 : decode cX2_mayComeBack 7 = .ok (.aload 4, 2) := by decide +kernel
theorem dX2_mayComeBack_9 : decode cX2_mayComeBack 9 = .ok (.iload_n 2, 1) := by decide +kernel
theorem dX2_mayComeBack_10 : decode cX2_mayComeBack 10 = .ok (.invokestatic 70, 3) := by decide +kernel
theorem dX2_mayComeBack_13 : decode cX2_mayComeBack 13 = .ok (.astore 5, 2) := by decide +kernel
theorem dX2_mayComeBack_15 : decode cX2_mayComeBack 15 = .ok (.iload_n 3, 1) := by decide +kernel
theorem dX2_mayComeBack_16 : decode cX2_mayComeBack 16 = .ok (.iconst 0, 1) := by decide +kernel
theorem dX2_mayComeBack_17 : decode cX2_mayComeBack 17 = .ok (.iconst 1, 1) := by decide +kernel
theorem dX2_mayComeBack_18 : decode cX2_mayComeBack 18 = .ok (.invokestatic 15, 3) := by decide +kernel
theorem dX2_mayComeBack_21 : decode cX2_mayComeBack 21 = .ok (.aload_n 0, 1) := by decide +kernel
theorem dX2_mayComeBack_22 : decode cX2_mayComeBack 22 = .ok (.aload 4, 2) := by decide +kernel
theorem dX2_mayComeBack_24 : decode cX2_mayComeBack 24 = .ok (.aload 5, 2) := by decide +kernel
theorem dX2_mayComeBack_26 : decode cX2_mayComeBack 26 = .ok (.iload_n 3, 1) := by decide +kernel
theorem dX2_mayComeBack_27 : decode cX2_mayComeBack 27 = .ok (.invokevirtual 74, 3) := by decide +kernel
theorem dX2_mayComeBack_30 : decode cX2_mayComeBack 30 = .ok (.ireturn, 1) := by decide +kernel
set_option maxRecDepth 20000 in
theorem ggX2_ask_X2_startWait : GoodIn wsX2_ask wsX2_startWait := goodIn_ca (goodIn_ca (goodIn_ca (goodIn_r _ [5, 6, 7, 8, 9, 10, 11, 12, 13, 14, 4, 15, 16, 17, 18, 19, 20, 21, 22, 23, 24, 25, 26, 27, 28, 29, 30, 31, 32, 33, 34, 35, 36, 37, 38, 39, 40, 41, 42, 43, 44, 45, 46, 47, 48, 49, 50, 51, 52, 53, 54, 55, 56, 57, 58, 59, 60, 61, 62] (by decide +kernel) (by decide +kernel)) (goodIn_sub (fun _ h => List.mem_cons_of_mem _ (List.mem_append_left _ (List.mem_append_left _ (List.mem_append_right _ h)))) (by decide +kernel))) (goodIn_sub (fun _ h => List.mem_cons_of_mem _ (List.mem_append_left _ (List.mem_append_right _ h))) (by decide +kernel))) (goodIn_sub (fun _ h => List.mem_cons_of_mem _ (List.mem_append_right _ h)) (by decide +kernel))
set_option maxRecDepth 20000 in
theorem gX2_ask_X2_startWait : GoodIn wsX2_ask (wsV RX2 78 RX2 yX2_startWait wsX2_startWait) := goodIn_app (goodIn_of _ (by decide +kernel)) ggX2_ask_X2_startWait
theorem dX2_ask_0 : decode cX2_ask 0 = .ok (.aload_n 0, 1) := by decide +kernel
theorem dX2_ask_1 : decode cX2_ask 1 = .ok (.iload_n 1, 1) := by decide +kernel
theorem dX2_ask_2 : decode cX2_ask 2 = .ok (.iload_n 2, 1) := by decide +kernel
theorem dX2_ask_3 : decode cX2_ask 3 = .ok (.iload_n 3, 1) := by decide +kernel
theorem dX2_ask_4 : decode cX2_ask 4 = .ok (.iconst 1, 1) := by decide +kernel
theorem dX2_ask_5 : decode cX2_ask 5 = .ok (.invokevirtual 78, 3) := by decide +kernel
theorem dX2_ask_8 : decode cX2_ask 8 = .ok (.ireturn, 1) := by decide +kernel
set_option maxRecDepth 20000 in
theorem ggX2_exchange_X2_startWait : GoodIn wsX2_exchange wsX2_startWait := goodIn_ca (goodIn_ca (goodIn_ca (goodIn_r _ [5, 6, 7, 8, 9, 10, 11, 12, 13, 14, 4, 15, 16, 17, 18, 19, 20, 21, 22, 23, 24, 25, 26, 27, 28, 29, 30, 31, 32, 33, 34, 35, 36, 37, 38, 39, 40, 41, 42, 43, 44, 45, 46, 47, 48, 49, 50, 51, 52, 53, 54, 55, 56, 57, 58, 59, 60, 61, 62] (by decide +kernel) (by decide +kernel)) (goodIn_sub (fun _ h => List.mem_cons_of_mem _ (List.mem_append_left _ (List.mem_append_left _ (List.mem_append_right _ h)))) (by decide +kernel))) (goodIn_sub (fun _ h => List.mem_cons_of_mem _ (List.mem_append_left _ (List.mem_append_right _ h))) (by decide +kernel))) (goodIn_sub (fun _ h => List.mem_cons_of_mem _ (List.mem_append_right _ h)) (by decide +kernel))
set_option maxRecDepth 20000 in
theorem gX2_exchange_X2_startWait : GoodIn wsX2_exchange (wsV RX2 78 RX2 yX2_startWait wsX2_startWait) := goodIn_app (goodIn_of _ (by decide +kernel)) ggX2_exchange_X2_startWait
theorem dX2_exchange_0 : decode cX2_exchange 0 = .ok (.aload_n 0, 1) := by decide +kernel
theorem dX2_exchange_1 : decode cX2_exchange 1 = .ok (.iload_n 1, 1) := by decide +kernel
theorem dX2_exchange_2 : decode cX2_exchange 2 = .ok (.iload_n 2, 1) := by decide +kernel
theorem dX2_exchange_3 : decode cX2_exchange 3 = .ok (.iload_n 3, 1) := by decide +kernel
theorem dX2_exchange_4 : decode cX2_exchange 4 = .ok (.iconst 2, 1) := by decide +kernel
theorem dX2_exchange_5 : decode cX2_exchange 5 = .ok (.invokevirtual 78, 3) := by decide +kernel
theorem dX2_exchange_8 : decode cX2_exchange 8 = .ok (.ireturn, 1) := by decide +kernel
set_option maxRecDepth 20000 in
theorem ggX2_grade_X2_findOrder : GoodIn wsX2_grade wsX2_findOrder := goodIn_ca (goodIn_r _ [10, 11, 12, 13, 99, 100, 101, 102, 103, 104] (by decide +kernel) (by decide +kernel)) (goodIn_sub (fun _ h => List.mem_cons_of_mem _ (List.mem_append_left _ (List.mem_append_right _ h))) (by decide +kernel))
set_option maxRecDepth 20000 in
theorem gX2_grade_X2_findOrder : GoodIn wsX2_grade (wsV RX2 34 RX2 yX2_findOrder wsX2_findOrder) := goodIn_app (goodIn_of _ (by decide +kernel)) ggX2_grade_X2_findOrder
set_option maxRecDepth 20000 in
theorem ggX2_grade_X2_findLine : GoodIn wsX2_grade wsX2_findLine := goodIn_ca (goodIn_r _ [16, 11, 12, 17, 82, 83, 84, 85, 86, 87, 88, 89, 90, 91, 92, 93] (by decide +kernel) (by decide +kernel)) (goodIn_sub (fun _ h => List.mem_cons_of_mem _ (List.mem_append_left _ (List.mem_append_right _ h))) (by decide +kernel))
set_option maxRecDepth 20000 in
theorem gX2_grade_X2_findLine : GoodIn wsX2_grade (va_wsS RX2 70 yX2_findLine wsX2_findLine) := goodIn_app (goodIn_of _ (by decide +kernel)) ggX2_grade_X2_findLine
set_option maxRecDepth 20000 in
theorem ggX2_grade_X2_requireRange : GoodIn wsX2_grade wsX2_requireRange := goodIn_ca (goodIn_r _ [20, 21, 22] (by decide +kernel) (by decide +kernel)) (goodIn_sub (fun _ h => List.mem_cons_of_mem _ (List.mem_append_right _ h)) (by decide +kernel))
set_option maxRecDepth 20000 in
theorem gX2_grade_X2_requireRange : GoodIn wsX2_grade (va_wsS RX2 15 yX2_requireRange wsX2_requireRange) := goodIn_app (goodIn_of _ (by decide +kernel)) ggX2_grade_X2_requireRange
set_option maxRecDepth 20000 in
theorem ggX2_grade_X0_isWaitedFor : GoodIn wsX2_grade wsX0_isWaitedFor := goodIn_r _ [27, 28, 94, 95, 96, 97, 98] (by decide +kernel) (by decide +kernel)
set_option maxRecDepth 20000 in
theorem gX2_grade_X0_isWaitedFor : GoodIn wsX2_grade (wsV RX2 82 RX0 yX0_isWaitedFor wsX0_isWaitedFor) := goodIn_app (goodIn_of _ (by decide +kernel)) ggX2_grade_X0_isWaitedFor
set_option maxRecDepth 20000 in
theorem ggX2_grade_X0_feeFor : GoodIn wsX2_grade wsX0_feeFor := goodIn_r _ [32, 33, 34, 35, 36, 26, 37, 38, 39, 94, 95, 96, 97, 98] (by decide +kernel) (by decide +kernel)
set_option maxRecDepth 20000 in
theorem gX2_grade_X0_feeFor : GoodIn wsX2_grade (wsV RX2 90 RX0 yX0_feeFor wsX0_feeFor) := goodIn_app (goodIn_of _ (by decide +kernel)) ggX2_grade_X0_feeFor
set_option maxRecDepth 20000 in
theorem ggX2_grade_X2_putIntoStock : GoodIn wsX2_grade wsX2_putIntoStock := goodIn_r _ [43, 44, 45, 46, 99, 100, 101, 102, 103, 104] (by decide +kernel) (by decide +kernel)
set_option maxRecDepth 20000 in
theorem gX2_grade_X2_putIntoStock : GoodIn wsX2_grade (wsV RX2 97 RX2 yX2_putIntoStock wsX2_putIntoStock) := goodIn_app (goodIn_of _ (by decide +kernel)) ggX2_grade_X2_putIntoStock
set_option maxRecDepth 20000 in
theorem ggX2_grade_X1_refundSurplus : GoodIn wsX2_grade wsX1_refundSurplus := goodIn_r _ [51, 52, 53, 54, 55, 56, 57, 58, 59, 60, 61, 62, 63, 64, 65, 50, 66, 67, 68, 69, 70, 71, 72, 73, 74, 75, 76, 77, 78, 79, 80, 81, 82, 83, 84, 85, 86, 87, 88, 89, 90, 91, 92, 93, 94, 95, 96, 97, 98] (by decide +kernel) (by decide +kernel)
set_option maxRecDepth 20000 in
theorem gX2_grade_X1_refundSurplus : GoodIn wsX2_grade (wsV RX2 103 RX1 yX1_refundSurplus wsX1_refundSurplus) := goodIn_app (goodIn_of _ (by decide +kernel)) ggX2_grade_X1_refundSurplus
theorem dX2_grade_0 : decode cX2_grade 0 = .ok (.aload_n 0, 1) := by decide +kernel
theorem dX2_grade_1 : decode cX2_grade 1 = .ok (.iload_n 1, 1) := by decide +kernel
theorem dX2_grade_2 : decode cX2_grade 2 = .ok (.invokevirtual 34, 3) := by decide +kernel
theorem dX2_grade_5 : decode cX2_grade 5 = .ok (.astore 4, 2) := by decide +kernel
theorem dX2_grade_7 : decode cX2_grade 7 = .ok (.aload 4, 2) := by decide +kernel
theorem dX2_grade_9 : decode cX2_grade 9 = .ok (.iload_n 2, 1) := by decide +kernel
theorem dX2_grade_10 : decode cX2_grade 10 = .ok (.invokestatic 70, 3) := by decide +kernel
theorem dX2_grade_13 : decode cX2_grade 13 = .ok (.astore 5, 2) := by decide +kernel
theorem dX2_grade_15 : decode cX2_grade 15 = .ok (.iload_n 3, 1) := by decide +kernel
theorem dX2_grade_16 : decode cX2_grade 16 = .ok (.iconst 0, 1) := by decide +kernel
theorem dX2_grade_17 : decode cX2_grade 17 = .ok (.iconst 3, 1) := by decide +kernel
theorem dX2_grade_18 : decode cX2_grade 18 = .ok (.invokestatic 15, 3) := by decide +kernel
theorem dX2_grade_21 : decode cX2_grade 21 = .ok (.aload 5, 2) := by decide +kernel
theorem dX2_grade_23 : decode cX2_grade 23 = .ok (.invokevirtual 82, 3) := by decide +kernel
theorem dX2_grade_26 : decode cX2_grade 26 = .ok (.ifCond .ne 13, 3) := by decide +kernel
theorem dX2_grade_29 : decode cX2_grade 29 = .ok (.new 24, 3) := by decide +kernel
theorem dX2_grade_32 : decode cX2_grade 32 = .ok (.dup, 1) := by decide +kernel
theorem dX2_grade_33 : decode cX2_grade 33 = .ok (.ldc 85, 2) := by decide +kernel
theorem dX2_grade_35 : decode cX2_grade 35 = .ok (.invokespecial 28, 3) := by decide +kernel
theorem dX2_grade_38 : decode cX2_grade 38 = .ok (.athrow, 1) := by decide +kernel
theorem dX2_grade_39 : decode cX2_grade 39 = .ok (.aload 4, 2) := by decide +kernel
theorem dX2_grade_41 : decode cX2_grade 41 = .ok (.dup, 1) := by decide +kernel
theorem dX2_grade_42 : decode cX2_grade 42 = .ok (.getfield 87, 3) := by decide +kernel
theorem dX2_grade_45 : decode cX2_grade 45 = .ok (.aload 5, 2) := by decide +kernel
theorem dX2_grade_47 : decode cX2_grade 47 = .ok (.iload_n 3, 1) := by decide +kernel
theorem dX2_grade_48 : decode cX2_grade 48 = .ok (.invokevirtual 90, 3) := by decide +kernel
theorem dX2_grade_51 : decode cX2_grade 51 = .ok (.iadd, 1) := by decide +kernel
theorem dX2_grade_52 : decode cX2_grade 52 = .ok (.putfield 87, 3) := by decide +kernel
theorem dX2_grade_55 : decode cX2_grade 55 = .ok (.aload_n 0, 1) := by decide +kernel
theorem dX2_grade_56 : decode cX2_grade 56 = .ok (.aload 5, 2) := by decide +kernel
theorem dX2_grade_58 : decode cX2_grade 58 = .ok (.getfield 94, 3) := by decide +kernel
theorem dX2_grade_61 : decode cX2_grade 61 = .ok (.iload_n 3, 1) := by decide +kernel
theorem dX2_grade_62 : decode cX2_grade 62 = .ok (.invokevirtual 97, 3) := by decide +kernel
theorem dX2_grade_65 : decode cX2_grade 65 = .ok (.aload 5, 2) := by decide +kernel
theorem dX2_grade_67 : decode cX2_grade 67 = .ok (.aload 5, 2) := by decide +kernel
theorem dX2_grade_69 : decode cX2_grade 69 = .ok (.getfield 100, 3) := by decide +kernel
theorem dX2_grade_72 : decode cX2_grade 72 = .ok (.iconst 1, 1) := by decide +kernel
theorem dX2_grade_73 : decode cX2_grade 73 = .ok (.if_icmp .ne 7, 3) := by decide +kernel
theorem dX2_grade_76 : decode cX2_grade 76 = .ok (.iconst 3, 1) := by decide +kernel
theorem dX2_grade_77 : decode cX2_grade 77 = .ok (.goto 4, 3) := by decide +kernel
theorem dX2_grade_80 : decode cX2_grade 80 = .ok (.iconst 0, 1) := by decide +kernel
theorem dX2_grade_81 : decode cX2_grade 81 = .ok (.putfield 100, 3) := by decide +kernel
theorem dX2_grade_84 : decode cX2_grade 84 = .ok (.aload 4, 2) := by decide +kernel
theorem dX2_grade_86 : decode cX2_grade 86 = .ok (.invokevirtual 103, 3) := by decide +kernel
theorem dX2_grade_89 : decode cX2_grade 89 = .ok (.ireturn, 1) := by decide +kernel
set_option maxRecDepth 20000 in
theorem ggX2_state_X2_findOrder : GoodIn wsX2_state wsX2_findOrder := goodIn_ca (goodIn_r _ [6, 7, 8, 9, 19, 20, 21, 22, 23, 24] (by decide +kernel) (by decide +kernel)) (goodIn_sub (fun _ h => List.mem_cons_of_mem _ (List.mem_append_right _ h)) (by decide +kernel))
set_option maxRecDepth 20000 in
theorem gX2_state_X2_findOrder : GoodIn wsX2_state (wsV RX2 34 RX2 yX2_findOrder wsX2_findOrder) := goodIn_app (goodIn_of _ (by decide +kernel)) ggX2_state_X2_findOrder
set_option maxRecDepth 20000 in
theorem ggX2_state_X2_findLine : GoodIn wsX2_state wsX2_findLine := goodIn_ca (goodIn_r _ [12, 7, 8, 13, 25, 26, 27, 28, 29, 30, 31, 32, 33, 34, 35, 36] (by decide +kernel) (by decide +kernel)) (goodIn_sub (fun _ h => List.mem_cons_of_mem _ (List.mem_append_right _ h)) (by decide +kernel))
set_option maxRecDepth 20000 in
theorem gX2_state_X2_findLine : GoodIn wsX2_state (va_wsS RX2 70 yX2_findLine wsX2_findLine) := goodIn_app (goodIn_of _ (by decide +kernel)) ggX2_state_X2_findLine
theorem dX2_state_0 : decode cX2_state 0 = .ok (.aload_n 0, 1) := by decide +kernel
theorem dX2_state_1 : decode cX2_state 1 = .ok (.iload_n 1, 1) := by decide +kernel
theorem dX2_state_2 : decode cX2_state 2 = .ok (.invokevirtual 34, 3) := by decide +kernel
theorem dX2_state_5 : decode cX2_state 5 = .ok (.iload_n 2, 1) := by decide +kernel
theorem dX2_state_6 : decode cX2_state 6 = .ok (.invokestatic 70, 3) := by decide +kernel
theorem dX2_state_9 : decode cX2_state 9 = .ok (.getfield 100, 3) := by decide +kernel
theorem dX2_state_12 : decode cX2_state 12 = .ok (.ireturn, 1) := by decide +kernel
set_option maxRecDepth 20000 in
theorem ggX2_price_X2_findOrder : GoodIn wsX2_price wsX2_findOrder := goodIn_ca (goodIn_r _ [5, 6, 7, 8, 19, 20, 21, 22, 23, 24] (by decide +kernel) (by decide +kernel)) (goodIn_sub (fun _ h => List.mem_cons_of_mem _ (List.mem_append_right _ h)) (by decide +kernel))
set_option maxRecDepth 20000 in
theorem gX2_price_X2_findOrder : GoodIn wsX2_price (wsV RX2 34 RX2 yX2_findOrder wsX2_findOrder) := goodIn_app (goodIn_of _ (by decide +kernel)) ggX2_price_X2_findOrder
set_option maxRecDepth 20000 in
theorem ggX2_price_X1_priceAnew : GoodIn wsX2_price wsX1_priceAnew := goodIn_r _ [13, 14, 15, 16, 17, 18, 25, 26, 27, 28, 29, 30, 31, 32, 33, 34, 35, 36, 37, 38, 39, 40, 41] (by decide +kernel) (by decide +kernel)
set_option maxRecDepth 20000 in
theorem gX2_price_X1_priceAnew : GoodIn wsX2_price (wsV RX2 107 RX1 yX1_priceAnew wsX1_priceAnew) := goodIn_app (goodIn_of _ (by decide +kernel)) ggX2_price_X1_priceAnew
theorem dX2_price_0 : decode cX2_price 0 = .ok (.aload_n 0, 1) := by decide +kernel
theorem dX2_price_1 : decode cX2_price 1 = .ok (.iload_n 1, 1) := by decide +kernel
theorem dX2_price_2 : decode cX2_price 2 = .ok (.invokevirtual 34, 3) := by decide +kernel
theorem dX2_price_5 : decode cX2_price 5 = .ok (.invokevirtual 107, 3) := by decide +kernel
theorem dX2_price_8 : decode cX2_price 8 = .ok (.ireturn, 1) := by decide +kernel
set_option maxRecDepth 20000 in
theorem ggX2_fees_X2_findOrder : GoodIn wsX2_fees wsX2_findOrder := goodIn_ca (goodIn_r _ [6, 7, 8, 9, 22, 23, 24, 25, 26, 27] (by decide +kernel) (by decide +kernel)) (goodIn_sub (fun _ h => List.mem_cons_of_mem _ (List.mem_append_right _ h)) (by decide +kernel))
set_option maxRecDepth 20000 in
theorem gX2_fees_X2_findOrder : GoodIn wsX2_fees (wsV RX2 34 RX2 yX2_findOrder wsX2_findOrder) := goodIn_app (goodIn_of _ (by decide +kernel)) ggX2_fees_X2_findOrder
theorem dX2_fees_0 : decode cX2_fees 0 = .ok (.aload_n 0, 1) := by decide +kernel
theorem dX2_fees_1 : decode cX2_fees 1 = .ok (.iload_n 1, 1) := by decide +kernel
theorem dX2_fees_2 : decode cX2_fees 2 = .ok (.invokevirtual 34, 3) := by decide +kernel
theorem dX2_fees_5 : decode cX2_fees 5 = .ok (.getfield 87, 3) := by decide +kernel
theorem dX2_fees_8 : decode cX2_fees 8 = .ok (.ireturn, 1) := by decide +kernel
set_option maxRecDepth 20000 in
theorem ggX2_charges_X2_findOrder : GoodIn wsX2_charges wsX2_findOrder := goodIn_ca (goodIn_r _ [6, 7, 8, 9, 22, 23, 24, 25, 26, 27] (by decide +kernel) (by decide +kernel)) (goodIn_sub (fun _ h => List.mem_cons_of_mem _ (List.mem_append_right _ h)) (by decide +kernel))
set_option maxRecDepth 20000 in
theorem gX2_charges_X2_findOrder : GoodIn wsX2_charges (wsV RX2 34 RX2 yX2_findOrder wsX2_findOrder) := goodIn_app (goodIn_of _ (by decide +kernel)) ggX2_charges_X2_findOrder
theorem dX2_charges_0 : decode cX2_charges 0 = .ok (.aload_n 0, 1) := by decide +kernel
theorem dX2_charges_1 : decode cX2_charges 1 = .ok (.iload_n 1, 1) := by decide +kernel
theorem dX2_charges_2 : decode cX2_charges 2 = .ok (.invokevirtual 34, 3) := by decide +kernel
theorem dX2_charges_5 : decode cX2_charges 5 = .ok (.getfield 110, 3) := by decide +kernel
theorem dX2_charges_8 : decode cX2_charges 8 = .ok (.ireturn, 1) := by decide +kernel
set_option maxRecDepth 20000 in
theorem ggX2_taken_X2_findOrder : GoodIn wsX2_taken wsX2_findOrder := goodIn_ca (goodIn_r _ [8, 9, 10, 11, 29, 30, 31, 32, 33, 34] (by decide +kernel) (by decide +kernel)) (goodIn_sub (fun _ h => List.mem_cons_of_mem _ (List.mem_append_left _ (List.mem_append_right _ h))) (by decide +kernel))
set_option maxRecDepth 20000 in
theorem gX2_taken_X2_findOrder : GoodIn wsX2_taken (wsV RX2 34 RX2 yX2_findOrder wsX2_findOrder) := goodIn_app (goodIn_of _ (by decide +kernel)) ggX2_taken_X2_findOrder
set_option maxRecDepth 20000 in
theorem ggX2_taken_X2_requireRange : GoodIn wsX2_taken wsX2_requireRange := goodIn_ca (goodIn_r _ [14, 15, 16] (by decide +kernel) (by decide +kernel)) (goodIn_sub (fun _ h => List.mem_cons_of_mem _ (List.mem_append_right _ h)) (by decide +kernel))
set_option maxRecDepth 20000 in
theorem gX2_taken_X2_requireRange : GoodIn wsX2_taken (va_wsS RX2 15 yX2_requireRange wsX2_requireRange) := goodIn_app (goodIn_of _ (by decide +kernel)) ggX2_taken_X2_requireRange
theorem dX2_taken_0 : decode cX2_taken 0 = .ok (.aload_n 0, 1) := by decide +kernel
theorem dX2_taken_1 : decode cX2_taken 1 = .ok (.iload_n 1, 1) := by decide +kernel
theorem dX2_taken_2 : decode cX2_taken 2 = .ok (.invokevirtual 34, 3) := by decide +kernel
theorem dX2_taken_5 : decode cX2_taken 5 = .ok (.astore_n 3, 1) := by decide +kernel
theorem dX2_taken_6 : decode cX2_taken 6 = .ok (.iload_n 2, 1) := by decide +kernel
theorem dX2_taken_7 : decode cX2_taken 7 = .ok (.iconst 0, 1) := by decide +kernel
theorem dX2_taken_8 : decode cX2_taken 8 = .ok (.iconst 2, 1) := by decide +kernel
theorem dX2_taken_9 : decode cX2_taken 9 = .ok (.invokestatic 15, 3) := by decide +kernel
theorem dX2_taken_12 : decode cX2_taken 12 = .ok (.iload_n 2, 1) := by decide +kernel
theorem dX2_taken_13 : decode cX2_taken 13 = .ok (.ifCond .ne 8, 3) := by decide +kernel
theorem dX2_taken_16 : decode cX2_taken 16 = .ok (.aload_n 3, 1) := by decide +kernel
theorem dX2_taken_17 : decode cX2_taken 17 = .ok (.getfield 67, 3) := by decide +kernel
theorem dX2_taken_20 : decode cX2_taken 20 = .ok (.ireturn, 1) := by decide +kernel
theorem dX2_taken_21 : decode cX2_taken 21 = .ok (.iload_n 2, 1) := by decide +kernel
theorem dX2_taken_22 : decode cX2_taken 22 = .ok (.iconst 1, 1) := by decide +kernel
theorem dX2_taken_23 : decode cX2_taken 23 = .ok (.if_icmp .ne 10, 3) := by decide +kernel
theorem dX2_taken_26 : decode cX2_taken 26 = .ok (.aload_n 3, 1) := by decide +kernel
theorem dX2_taken_27 : decode cX2_taken 27 = .ok (.getfield 113, 3) := by decide +kernel
theorem dX2_taken_30 : decode cX2_taken 30 = .ok (.goto 7, 3) := by decide +kernel
theorem dX2_taken_33 : decode cX2_taken 33 = .ok (.aload_n 3, 1) := by decide +kernel
theorem dX2_taken_34 : decode cX2_taken 34 = .ok (.getfield 116, 3) := by decide +kernel
theorem dX2_taken_37 : decode cX2_taken 37 = .ok (.ireturn, 1) := by decide +kernel
set_option maxRecDepth 20000 in
theorem ggX2_refunded_X2_findOrder : GoodIn wsX2_refunded wsX2_findOrder := goodIn_ca (goodIn_r _ [6, 7, 8, 9, 22, 23, 24, 25, 26, 27] (by decide +kernel) (by decide +kernel)) (goodIn_sub (fun _ h => List.mem_cons_of_mem _ (List.mem_append_right _ h)) (by decide +kernel))
set_option maxRecDepth 20000 in
theorem gX2_refunded_X2_findOrder : GoodIn wsX2_refunded (wsV RX2 34 RX2 yX2_findOrder wsX2_findOrder) := goodIn_app (goodIn_of _ (by decide +kernel)) ggX2_refunded_X2_findOrder
theorem dX2_refunded_0 : decode cX2_refunded 0 = .ok (.aload_n 0, 1) := by decide +kernel
