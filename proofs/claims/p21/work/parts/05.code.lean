theorem dX2_refunded_1 : decode cX2_refunded 1 = .ok (.iload_n 1, 1) := by decide +kernel
theorem dX2_refunded_2 : decode cX2_refunded 2 = .ok (.invokevirtual 34, 3) := by decide +kernel
theorem dX2_refunded_5 : decode cX2_refunded 5 = .ok (.getfield 119, 3) := by decide +kernel
theorem dX2_refunded_8 : decode cX2_refunded 8 = .ok (.ireturn, 1) := by decide +kernel
set_option maxRecDepth 20000 in
theorem ggX2_isShortBy_X2_findOrder : GoodIn wsX2_isShortBy wsX2_findOrder := goodIn_ca (goodIn_r _ [10, 11, 12, 13, 49, 50, 51, 52, 53, 54] (by decide +kernel) (by decide +kernel)) (goodIn_sub (fun _ h => List.mem_cons_of_mem _ (List.mem_append_right _ h)) (by decide +kernel))
set_option maxRecDepth 20000 in
theorem gX2_isShortBy_X2_findOrder : GoodIn wsX2_isShortBy (wsV RX2 34 RX2 yX2_findOrder wsX2_findOrder) := goodIn_app (goodIn_of _ (by decide +kernel)) ggX2_isShortBy_X2_findOrder
set_option maxRecDepth 20000 in
theorem ggX2_isShortBy_X1_owed : GoodIn wsX2_isShortBy wsX1_owed := goodIn_r _ [18, 19, 20, 21, 22, 23, 17, 24, 25, 26, 27, 28, 29, 37, 38, 39, 40, 41, 42, 43, 44, 45, 46, 47, 48, 55, 56, 57, 58, 59] (by decide +kernel) (by decide +kernel)
set_option maxRecDepth 20000 in
theorem gX2_isShortBy_X1_owed : GoodIn wsX2_isShortBy (wsV RX2 122 RX1 yX1_owed wsX1_owed) := goodIn_app (goodIn_of _ (by decide +kernel)) ggX2_isShortBy_X1_owed
set_option maxRecDepth 20000 in
theorem ggX2_isShortBy_X1_allTaken : GoodIn wsX2_isShortBy wsX1_allTaken := goodIn_r _ [33, 34, 35, 36, 37, 38, 39, 40, 41, 42, 43, 44, 45, 46, 47, 48] (by decide +kernel) (by decide +kernel)
set_option maxRecDepth 20000 in
theorem gX2_isShortBy_X1_allTaken : GoodIn wsX2_isShortBy (wsV RX2 125 RX1 yX1_allTaken wsX1_allTaken) := goodIn_app (goodIn_of _ (by decide +kernel)) ggX2_isShortBy_X1_allTaken
theorem dX2_isShortBy_0 : decode cX2_isShortBy 0 = .ok (.aload_n 0, 1) := by decide +kernel
theorem dX2_isShortBy_1 : decode cX2_isShortBy 1 = .ok (.iload_n 1, 1) := by decide +kernel
theorem dX2_isShortBy_2 : decode cX2_isShortBy 2 = .ok (.invokevirtual 34, 3) := by decide +kernel
theorem dX2_isShortBy_5 : decode cX2_isShortBy 5 = .ok (.astore_n 2, 1) := by decide +kernel
theorem dX2_isShortBy_6 : decode cX2_isShortBy 6 = .ok (.aload_n 2, 1) := by decide +kernel
theorem dX2_isShortBy_7 : decode cX2_isShortBy 7 = .ok (.getfield 39, 3) := by decide +kernel
theorem dX2_isShortBy_10 : decode cX2_isShortBy 10 = .ok (.ifCond .eq 19, 3) := by decide +kernel
theorem dX2_isShortBy_13 : decode cX2_isShortBy 13 = .ok (.aload_n 2, 1) := by decide +kernel
theorem dX2_isShortBy_14 : decode cX2_isShortBy 14 = .ok (.invokevirtual 122, 3) := by decide +kernel
theorem dX2_isShortBy_17 : decode cX2_isShortBy 17 = .ok (.aload_n 2, 1) := by decide +kernel
theorem dX2_isShortBy_18 : decode cX2_isShortBy 18 = .ok (.invokevirtual 125, 3) := by decide +kernel
theorem dX2_isShortBy_21 : decode cX2_isShortBy 21 = .ok (.isub, 1) := by decide +kernel
theorem dX2_isShortBy_22 : decode cX2_isShortBy 22 = .ok (.iconst 0, 1) := by decide +kernel
theorem dX2_isShortBy_23 : decode cX2_isShortBy 23 = .ok (.invokestatic 128, 3) := by decide +kernel
theorem dX2_isShortBy_26 : decode cX2_isShortBy 26 = .ok (.goto 4, 3) := by decide +kernel
theorem dX2_isShortBy_29 : decode cX2_isShortBy 29 = .ok (.iconst 0, 1) := by decide +kernel
theorem dX2_isShortBy_30 : decode cX2_isShortBy 30 = .ok (.ireturn, 1) := by decide +kernel
set_option maxRecDepth 20000 in
theorem ggX2_stock_X2_requireRange : GoodIn wsX2_stock wsX2_requireRange := goodIn_ca (goodIn_r _ [7, 8, 9] (by decide +kernel) (by decide +kernel)) (goodIn_sub (fun _ h => List.mem_cons_of_mem _ (List.mem_append_right _ h)) (by decide +kernel))
set_option maxRecDepth 20000 in
theorem gX2_stock_X2_requireRange : GoodIn wsX2_stock (va_wsS RX2 15 yX2_requireRange wsX2_requireRange) := goodIn_app (goodIn_of _ (by decide +kernel)) ggX2_stock_X2_requireRange
theorem dX2_stock_0 : decode cX2_stock 0 = .ok (.iload_n 1, 1) := by decide +kernel
theorem dX2_stock_1 : decode cX2_stock 1 = .ok (.iconst 0, 1) := by decide +kernel
theorem dX2_stock_2 : decode cX2_stock 2 = .ok (.iconst 2, 1) := by decide +kernel
theorem dX2_stock_3 : decode cX2_stock 3 = .ok (.invokestatic 15, 3) := by decide +kernel
theorem dX2_stock_6 : decode cX2_stock 6 = .ok (.iload_n 1, 1) := by decide +kernel
theorem dX2_stock_7 : decode cX2_stock 7 = .ok (.ifCond .ne 8, 3) := by decide +kernel
theorem dX2_stock_10 : decode cX2_stock 10 = .ok (.aload_n 0, 1) := by decide +kernel
theorem dX2_stock_11 : decode cX2_stock 11 = .ok (.getfield 134, 3) := by decide +kernel
theorem dX2_stock_14 : decode cX2_stock 14 = .ok (.ireturn, 1) := by decide +kernel
theorem dX2_stock_15 : decode cX2_stock 15 = .ok (.iload_n 1, 1) := by decide +kernel
theorem dX2_stock_16 : decode cX2_stock 16 = .ok (.iconst 1, 1) := by decide +kernel
theorem dX2_stock_17 : decode cX2_stock 17 = .ok (.if_icmp .ne 10, 3) := by decide +kernel
theorem dX2_stock_20 : decode cX2_stock 20 = .ok (.aload_n 0, 1) := by decide +kernel
theorem dX2_stock_21 : decode cX2_stock 21 = .ok (.getfield 137, 3) := by decide +kernel
theorem dX2_stock_24 : decode cX2_stock 24 = .ok (.goto 7, 3) := by decide +kernel
theorem dX2_stock_27 : decode cX2_stock 27 = .ok (.aload_n 0, 1) := by decide +kernel
theorem dX2_stock_28 : decode cX2_stock 28 = .ok (.getfield 140, 3) := by decide +kernel
theorem dX2_stock_31 : decode cX2_stock 31 = .ok (.ireturn, 1) := by decide +kernel
set_option maxRecDepth 20000 in
theorem ggX2_pass_X2_requireRange : GoodIn wsX2_pass wsX2_requireRange := goodIn_ca (goodIn_r _ [8, 9, 10] (by decide +kernel) (by decide +kernel)) (goodIn_sub (fun _ h => List.mem_cons_of_mem _ (List.mem_append_right _ h)) (by decide +kernel))
set_option maxRecDepth 20000 in
theorem gX2_pass_X2_requireRange : GoodIn wsX2_pass (va_wsS RX2 15 yX2_requireRange wsX2_requireRange) := goodIn_app (goodIn_of _ (by decide +kernel)) ggX2_pass_X2_requireRange
set_option maxRecDepth 20000 in
theorem ggX2_pass_X1_endWaits : GoodIn wsX2_pass wsX1_endWaits := goodIn_r _ [15, 16, 17, 18, 19, 20, 21, 22, 23, 24, 25, 26, 27, 28, 14, 29, 30, 31, 38, 39, 40, 41, 42, 43, 44, 45, 46, 47, 48, 49, 50, 51, 52, 53, 54] (by decide +kernel) (by decide +kernel)
set_option maxRecDepth 20000 in
theorem gX2_pass_X1_endWaits : GoodIn wsX2_pass (wsV RX2 145 RX1 yX1_endWaits wsX1_endWaits) := goodIn_app (goodIn_of _ (by decide +kernel)) ggX2_pass_X1_endWaits
theorem dX2_pass_0 : decode cX2_pass 0 = .ok (.iload_n 1, 1) := by decide +kernel
theorem dX2_pass_1 : decode cX2_pass 1 = .ok (.iconst 1, 1) := by decide +kernel
theorem dX2_pass_2 : decode cX2_pass 2 = .ok (.sipush 400, 3) := by decide +kernel
theorem dX2_pass_5 : decode cX2_pass 5 = .ok (.invokestatic 15, 3) := by decide +kernel
theorem dX2_pass_8 : decode cX2_pass 8 = .ok (.iload_n 1, 1) := by decide +kernel
theorem dX2_pass_9 : decode cX2_pass 9 = .ok (.sipush 10000, 3) := by decide +kernel
theorem dX2_pass_12 : decode cX2_pass 12 = .ok (.aload_n 0, 1) := by decide +kernel
theorem dX2_pass_13 : decode cX2_pass 13 = .ok (.getfield 61, 3) := by decide +kernel
theorem dX2_pass_16 : decode cX2_pass 16 = .ok (.isub, 1) := by decide +kernel
theorem dX2_pass_17 : decode cX2_pass 17 = .ok (.if_icmp .le 13, 3) := by decide +kernel
theorem dX2_pass_20 : decode cX2_pass 20 = .ok (.new 24, 3) := by decide +kernel
theorem dX2_pass_23 : decode cX2_pass 23 = .ok (.dup, 1) := by decide +kernel
theorem dX2_pass_24 : decode cX2_pass 24 = .ok (.ldc 143, 2) := by decide +kernel
theorem dX2_pass_26 : decode cX2_pass 26 = .ok (.invokespecial 28, 3) := by decide +kernel
theorem dX2_pass_29 : decode cX2_pass 29 = .ok (.athrow, 1) := by decide +kernel
theorem dX2_pass_30 : decode cX2_pass 30 = .ok (.aload_n 0, 1) := by decide +kernel
theorem dX2_pass_31 : decode cX2_pass 31 = .ok (.dup, 1) := by decide +kernel
theorem dX2_pass_32 : decode cX2_pass 32 = .ok (.getfield 61, 3) := by decide +kernel
theorem dX2_pass_35 : decode cX2_pass 35 = .ok (.iload_n 1, 1) := by decide +kernel
theorem dX2_pass_36 : decode cX2_pass 36 = .ok (.iadd, 1) := by decide +kernel
theorem dX2_pass_37 : decode cX2_pass 37 = .ok (.putfield 61, 3) := by decide +kernel
theorem dX2_pass_40 : decode cX2_pass 40 = .ok (.iconst 0, 1) := by decide +kernel
theorem dX2_pass_41 : decode cX2_pass 41 = .ok (.istore_n 2, 1) := by decide +kernel
theorem dX2_pass_42 : decode cX2_pass 42 = .ok (.aload_n 0, 1) := by decide +kernel
theorem dX2_pass_43 : decode cX2_pass 43 = .ok (.getfield 11, 3) := by decide +kernel
theorem dX2_pass_46 : decode cX2_pass 46 = .ok (.astore_n 3, 1) := by decide +kernel
theorem dX2_pass_47 : decode cX2_pass 47 = .ok (.aload_n 3, 1) := by decide +kernel
theorem dX2_pass_48 : decode cX2_pass 48 = .ok (.arraylength, 1) := by decide +kernel
theorem dX2_pass_49 : decode cX2_pass 49 = .ok (.istore 4, 2) := by decide +kernel
theorem dX2_pass_51 : decode cX2_pass 51 = .ok (.iconst 0, 1) := by decide +kernel
theorem dX2_pass_52 : decode cX2_pass 52 = .ok (.istore 5, 2) := by decide +kernel
theorem dX2_pass_54 : decode cX2_pass 54 = .ok (.iload 5, 2) := by decide +kernel
theorem dX2_pass_56 : decode cX2_pass 56 = .ok (.iload 4, 2) := by decide +kernel
theorem dX2_pass_58 : decode cX2_pass 58 = .ok (.if_icmp .ge 32, 3) := by decide +kernel
theorem dX2_pass_61 : decode cX2_pass 61 = .ok (.aload_n 3, 1) := by decide +kernel
theorem dX2_pass_62 : decode cX2_pass 62 = .ok (.iload 5, 2) := by decide +kernel
theorem dX2_pass_64 : decode cX2_pass 64 = .ok (.aaload, 1) := by decide +kernel
theorem dX2_pass_65 : decode cX2_pass 65 = .ok (.astore 6, 2) := by decide +kernel
theorem dX2_pass_67 : decode cX2_pass 67 = .ok (.aload 6, 2) := by decide +kernel
theorem dX2_pass_69 : decode cX2_pass 69 = .ok (.ifnull 15, 3) := by decide +kernel
theorem dX2_pass_72 : decode cX2_pass 72 = .ok (.iload_n 2, 1) := by decide +kernel
theorem dX2_pass_73 : decode cX2_pass 73 = .ok (.aload 6, 2) := by decide +kernel
theorem dX2_pass_75 : decode cX2_pass 75 = .ok (.aload_n 0, 1) := by decide +kernel
theorem dX2_pass_76 : decode cX2_pass 76 = .ok (.getfield 61, 3) := by decide +kernel
theorem dX2_pass_79 : decode cX2_pass 79 = .ok (.invokevirtual 145, 3) := by decide +kernel
theorem dX2_pass_82 : decode cX2_pass 82 = .ok (.iadd, 1) := by decide +kernel
theorem dX2_pass_83 : decode cX2_pass 83 = .ok (.istore_n 2, 1) := by decide +kernel
theorem dX2_pass_84 : decode cX2_pass 84 = .ok (.iinc 5 1, 3) := by decide +kernel
theorem dX2_pass_87 : decode cX2_pass 87 = .ok (.goto (-33), 3) := by decide +kernel
theorem dX2_pass_90 : decode cX2_pass 90 = .ok (.iload_n 2, 1) := by decide +kernel
theorem dX2_pass_91 : decode cX2_pass 91 = .ok (.ireturn, 1) := by decide +kernel
theorem dX2_day_0 : decode cX2_day 0 = .ok (.aload_n 0, 1) := by decide +kernel
theorem dX2_day_1 : decode cX2_day 1 = .ok (.getfield 61, 3) := by decide +kernel
theorem dX2_day_4 : decode cX2_day 4 = .ok (.ireturn, 1) := by decide +kernel
theorem dX2_requireRange_0 : decode cX2_requireRange 0 = .ok (.iload_n 0, 1) := by decide +kernel
theorem dX2_requireRange_1 : decode cX2_requireRange 1 = .ok (.iload_n 1, 1) := by decide +kernel
theorem dX2_requireRange_2 : decode cX2_requireRange 2 = .ok (.if_icmp .lt 8, 3) := by decide +kernel
theorem dX2_requireRange_5 : decode cX2_requireRange 5 = .ok (.iload_n 0, 1) := by decide +kernel
theorem dX2_requireRange_6 : decode cX2_requireRange 6 = .ok (.iload_n 2, 1) := by decide +kernel
theorem dX2_requireRange_7 : decode cX2_requireRange 7 = .ok (.if_icmp .le 13, 3) := by decide +kernel
theorem dX2_requireRange_10 : decode cX2_requireRange 10 = .ok (.new 148, 3) := by decide +kernel
theorem dX2_requireRange_13 : decode cX2_requireRange 13 = .ok (.dup, 1) := by decide +kernel
theorem dX2_requireRange_14 : decode cX2_requireRange 14 = .ok (.ldc 150, 2) := by decide +kernel
theorem dX2_requireRange_16 : decode cX2_requireRange 16 = .ok (.invokespecial 152, 3) := by decide +kernel
theorem dX2_requireRange_19 : decode cX2_requireRange 19 = .ok (.athrow, 1) := by decide +kernel
theorem dX2_requireRange_20 : decode cX2_requireRange 20 = .ok (.return_, 1) := by decide +kernel
theorem dX2_findOrder_0 : decode cX2_findOrder 0 = .ok (.iload_n 1, 1) := by decide +kernel
theorem dX2_findOrder_1 : decode cX2_findOrder 1 = .ok (.ifCond .lt 21, 3) := by decide +kernel
theorem dX2_findOrder_4 : decode cX2_findOrder 4 = .ok (.iload_n 1, 1) := by decide +kernel
theorem dX2_findOrder_5 : decode cX2_findOrder 5 = .ok (.aload_n 0, 1) := by decide +kernel
theorem dX2_findOrder_6 : decode cX2_findOrder 6 = .ok (.getfield 11, 3) := by decide +kernel
theorem dX2_findOrder_9 : decode cX2_findOrder 9 = .ok (.arraylength, 1) := by decide +kernel
theorem dX2_findOrder_10 : decode cX2_findOrder 10 = .ok (.if_icmp .ge 12, 3) := by decide +kernel
theorem dX2_findOrder_13 : decode cX2_findOrder 13 = .ok (.aload_n 0, 1) := by decide +kernel
theorem dX2_findOrder_14 : decode cX2_findOrder 14 = .ok (.getfield 11, 3) := by decide +kernel
theorem dX2_findOrder_17 : decode cX2_findOrder 17 = .ok (.iload_n 1, 1) := by decide +kernel
theorem dX2_findOrder_18 : decode cX2_findOrder 18 = .ok (.aaload, 1) := by decide +kernel
theorem dX2_findOrder_19 : decode cX2_findOrder 19 = .ok (.goto 4, 3) := by decide +kernel
theorem dX2_findOrder_22 : decode cX2_findOrder 22 = .ok (.aconst_null, 1) := by decide +kernel
theorem dX2_findOrder_23 : decode cX2_findOrder 23 = .ok (.astore_n 2, 1) := by decide +kernel
theorem dX2_findOrder_24 : decode cX2_findOrder 24 = .ok (.aload_n 2, 1) := by decide +kernel
theorem dX2_findOrder_25 : decode cX2_findOrder 25 = .ok (.ifnonnull 13, 3) := by decide +kernel
theorem dX2_findOrder_28 : decode cX2_findOrder 28 = .ok (.new 153, 3) := by decide +kernel
theorem dX2_findOrder_31 : decode cX2_findOrder 31 = .ok (.dup, 1) := by decide +kernel
theorem dX2_findOrder_32 : decode cX2_findOrder 32 = .ok (.ldc 155, 2) := by decide +kernel
theorem dX2_findOrder_34 : decode cX2_findOrder 34 = .ok (.invokespecial 157, 3) := by decide +kernel
theorem dX2_findOrder_37 : decode cX2_findOrder 37 = .ok (.athrow, 1) := by decide +kernel
theorem dX2_findOrder_38 : decode cX2_findOrder 38 = .ok (.aload_n 2, 1) := by decide +kernel
theorem dX2_findOrder_39 : decode cX2_findOrder 39 = .ok (.areturn, 1) := by decide +kernel
theorem dX2_findLine_0 : decode cX2_findLine 0 = .ok (.iload_n 1, 1) := by decide +kernel
theorem dX2_findLine_1 : decode cX2_findLine 1 = .ok (.ifCond .lt 21, 3) := by decide +kernel
theorem dX2_findLine_4 : decode cX2_findLine 4 = .ok (.iload_n 1, 1) := by decide +kernel
theorem dX2_findLine_5 : decode cX2_findLine 5 = .ok (.aload_n 0, 1) := by decide +kernel
theorem dX2_findLine_6 : decode cX2_findLine 6 = .ok (.getfield 158, 3) := by decide +kernel
theorem dX2_findLine_9 : decode cX2_findLine 9 = .ok (.arraylength, 1) := by decide +kernel
theorem dX2_findLine_10 : decode cX2_findLine 10 = .ok (.if_icmp .ge 12, 3) := by decide +kernel
theorem dX2_findLine_13 : decode cX2_findLine 13 = .ok (.aload_n 0, 1) := by decide +kernel
theorem dX2_findLine_14 : decode cX2_findLine 14 = .ok (.getfield 158, 3) := by decide +kernel
theorem dX2_findLine_17 : decode cX2_findLine 17 = .ok (.iload_n 1, 1) := by decide +kernel
theorem dX2_findLine_18 : decode cX2_findLine 18 = .ok (.aaload, 1) := by decide +kernel
theorem dX2_findLine_19 : decode cX2_findLine 19 = .ok (.goto 4, 3) := by decide +kernel
theorem dX2_findLine_22 : decode cX2_findLine 22 = .ok (.aconst_null, 1) := by decide +kernel
theorem dX2_findLine_23 : decode cX2_findLine 23 = .ok (.astore_n 2, 1) := by decide +kernel
theorem dX2_findLine_24 : decode cX2_findLine 24 = .ok (.aload_n 2, 1) := by decide +kernel
theorem dX2_findLine_25 : decode cX2_findLine 25 = .ok (.ifnonnull 13, 3) := by decide +kernel
theorem dX2_findLine_28 : decode cX2_findLine 28 = .ok (.new 153, 3) := by decide +kernel
theorem dX2_findLine_31 : decode cX2_findLine 31 = .ok (.dup, 1) := by decide +kernel
theorem dX2_findLine_32 : decode cX2_findLine 32 = .ok (.ldc 162, 2) := by decide +kernel
theorem dX2_findLine_34 : decode cX2_findLine 34 = .ok (.invokespecial 157, 3) := by decide +kernel
theorem dX2_findLine_37 : decode cX2_findLine 37 = .ok (.athrow, 1) := by decide +kernel
theorem dX2_findLine_38 : decode cX2_findLine 38 = .ok (.aload_n 2, 1) := by decide +kernel
theorem dX2_findLine_39 : decode cX2_findLine 39 = .ok (.areturn, 1) := by decide +kernel
set_option maxRecDepth 20000 in
theorem ggX2_isReturnable_X0_spanFor : GoodIn wsX2_isReturnable wsX0_spanFor := goodIn_r _ [9, 10, 23, 24, 25, 26, 27] (by decide +kernel) (by decide +kernel)
set_option maxRecDepth 20000 in
theorem gX2_isReturnable_X0_spanFor : GoodIn wsX2_isReturnable (wsV RX2 167 RX0 yX0_spanFor wsX0_spanFor) := goodIn_app (goodIn_of _ (by decide +kernel)) ggX2_isReturnable_X0_spanFor
theorem dX2_isReturnable_0 : decode cX2_isReturnable 0 = .ok (.aload_n 1, 1) := by decide +kernel
theorem dX2_isReturnable_1 : decode cX2_isReturnable 1 = .ok (.getfield 39, 3) := by decide +kernel
theorem dX2_isReturnable_4 : decode cX2_isReturnable 4 = .ok (.ifCond .eq 31, 3) := by decide +kernel
theorem dX2_isReturnable_7 : decode cX2_isReturnable 7 = .ok (.aload_n 2, 1) := by decide +kernel
theorem dX2_isReturnable_8 : decode cX2_isReturnable 8 = .ok (.getfield 100, 3) := by decide +kernel
theorem dX2_isReturnable_11 : decode cX2_isReturnable 11 = .ok (.ifCond .ne 24, 3) := by decide +kernel
theorem dX2_isReturnable_14 : decode cX2_isReturnable 14 = .ok (.aload_n 0, 1) := by decide +kernel
theorem dX2_isReturnable_15 : decode cX2_isReturnable 15 = .ok (.getfield 61, 3) := by decide +kernel
theorem dX2_isReturnable_18 : decode cX2_isReturnable 18 = .ok (.aload_n 1, 1) := by decide +kernel
theorem dX2_isReturnable_19 : decode cX2_isReturnable 19 = .ok (.getfield 164, 3) := by decide +kernel
theorem dX2_isReturnable_22 : decode cX2_isReturnable 22 = .ok (.isub, 1) := by decide +kernel
theorem dX2_isReturnable_23 : decode cX2_isReturnable 23 = .ok (.aload_n 2, 1) := by decide +kernel
theorem dX2_isReturnable_24 : decode cX2_isReturnable 24 = .ok (.iload_n 3, 1) := by decide +kernel
theorem dX2_isReturnable_25 : decode cX2_isReturnable 25 = .ok (.invokevirtual 167, 3) := by decide +kernel
theorem dX2_isReturnable_28 : decode cX2_isReturnable 28 = .ok (.if_icmp .gt 7, 3) := by decide +kernel
theorem dX2_isReturnable_31 : decode cX2_isReturnable 31 = .ok (.iconst 1, 1) := by decide +kernel
theorem dX2_isReturnable_32 : decode cX2_isReturnable 32 = .ok (.goto 4, 3) := by decide +kernel
theorem dX2_isReturnable_35 : decode cX2_isReturnable 35 = .ok (.iconst 0, 1) := by decide +kernel
theorem dX2_isReturnable_36 : decode cX2_isReturnable 36 = .ok (.ireturn, 1) := by decide +kernel
set_option maxRecDepth 20000 in
theorem ggX2_startWait_X2_findOrder : GoodIn wsX2_startWait wsX2_findOrder := goodIn_ca (goodIn_r _ [11, 12, 13, 14, 41, 42, 43, 44, 45, 46] (by decide +kernel) (by decide +kernel)) (goodIn_sub (fun _ h => List.mem_cons_of_mem _ (List.mem_append_left _ (List.mem_append_right _ h))) (by decide +kernel))
set_option maxRecDepth 20000 in
theorem gX2_startWait_X2_findOrder : GoodIn wsX2_startWait (wsV RX2 34 RX2 yX2_findOrder wsX2_findOrder) := goodIn_app (goodIn_of _ (by decide +kernel)) ggX2_startWait_X2_findOrder
set_option maxRecDepth 20000 in
theorem ggX2_startWait_X2_findLine : GoodIn wsX2_startWait wsX2_findLine := goodIn_ca (goodIn_r _ [17, 12, 13, 18, 47, 48, 49, 50, 51, 52, 53, 54, 55, 56, 57, 58] (by decide +kernel) (by decide +kernel)) (goodIn_sub (fun _ h => List.mem_cons_of_mem _ (List.mem_append_left _ (List.mem_append_right _ h))) (by decide +kernel))
set_option maxRecDepth 20000 in
theorem gX2_startWait_X2_findLine : GoodIn wsX2_startWait (va_wsS RX2 70 yX2_findLine wsX2_findLine) := goodIn_app (goodIn_of _ (by decide +kernel)) ggX2_startWait_X2_findLine
set_option maxRecDepth 20000 in
theorem ggX2_startWait_X2_requireRange : GoodIn wsX2_startWait wsX2_requireRange := goodIn_ca (goodIn_r _ [21, 22, 23] (by decide +kernel) (by decide +kernel)) (goodIn_sub (fun _ h => List.mem_cons_of_mem _ (List.mem_append_right _ h)) (by decide +kernel))
set_option maxRecDepth 20000 in
theorem gX2_startWait_X2_requireRange : GoodIn wsX2_startWait (va_wsS RX2 15 yX2_requireRange wsX2_requireRange) := goodIn_app (goodIn_of _ (by decide +kernel)) ggX2_startWait_X2_requireRange
set_option maxRecDepth 20000 in
theorem ggX2_startWait_X2_isReturnable : GoodIn wsX2_startWait wsX2_isReturnable := goodIn_r _ [27, 28, 3, 5, 29, 30, 31, 32, 33, 34, 35, 47, 48, 49, 50, 51, 52, 53, 54, 55, 56, 57, 58, 36, 37, 38, 39, 40, 41, 42, 43, 44, 45, 46] (by decide +kernel) (by decide +kernel)
set_option maxRecDepth 20000 in
theorem gX2_startWait_X2_isReturnable : GoodIn wsX2_startWait (wsV RX2 74 RX2 yX2_isReturnable wsX2_isReturnable) := goodIn_app (goodIn_of _ (by decide +kernel)) ggX2_startWait_X2_isReturnable
theorem dX2_startWait_0 : decode cX2_startWait 0 = .ok (.aload_n 0, 1) := by decide +kernel
theorem dX2_startWait_1 : decode cX2_startWait 1 = .ok (.iload_n 1, 1) := by decide +kernel
theorem dX2_startWait_2 : decode cX2_startWait 2 = .ok (.invokevirtual 34, 3) := by decide +kernel
theorem dX2_startWait_5 : decode cX2_startWait 5 = .ok (.astore 5, 2) := by decide +kernel
theorem dX2_startWait_7 : decode cX2_startWait 7 = .ok (.aload 5, 2) := by decide +kernel
theorem dX2_startWait_9 : decode cX2_startWait 9 = .ok (.iload_n 2, 1) := by decide +kernel
theorem dX2_startWait_10 : decode cX2_startWait 10 = .ok (.invokestatic 70, 3) := by decide +kernel
theorem dX2_startWait_13 : decode cX2_startWait 13 = .ok (.astore 6, 2) := by decide +kernel
theorem dX2_startWait_15 : decode cX2_startWait 15 = .ok (.iload_n 3, 1) := by decide +kernel
theorem dX2_startWait_16 : decode cX2_startWait 16 = .ok (.iconst 0, 1) := by decide +kernel
theorem dX2_startWait_17 : decode cX2_startWait 17 = .ok (.iconst 1, 1) := by decide +kernel
theorem dX2_startWait_18 : decode cX2_startWait 18 = .ok (.invokestatic 15, 3) := by decide +kernel
theorem dX2_startWait_21 : decode cX2_startWait 21 = .ok (.aload_n 0, 1) := by decide +kernel
theorem dX2_startWait_22 : decode cX2_startWait 22 = .ok (.aload 5, 2) := by decide +kernel
theorem dX2_startWait_24 : decode cX2_startWait 24 = .ok (.aload 6, 2) := by decide +kernel
theorem dX2_startWait_26 : decode cX2_startWait 26 = .ok (.iload_n 3, 1) := by decide +kernel
theorem dX2_startWait_27 : decode cX2_startWait 27 = .ok (.invokevirtual 74, 3) := by decide +kernel
theorem dX2_startWait_30 : decode cX2_startWait 30 = .ok (.ifCond .ne 13, 3) := by decide +kernel
theorem dX2_startWait_33 : decode cX2_startWait 33 = .ok (.new 24, 3) := by decide +kernel
theorem dX2_startWait_36 : decode cX2_startWait 36 = .ok (.dup, 1) := by decide +kernel
theorem dX2_startWait_37 : decode cX2_startWait 37 = .ok (.ldc 170, 2) := by decide +kernel
theorem dX2_startWait_39 : decode cX2_startWait 39 = .ok (.invokespecial 28, 3) := by decide +kernel
theorem dX2_startWait_42 : decode cX2_startWait 42 = .ok (.athrow, 1) := by decide +kernel
theorem dX2_startWait_43 : decode cX2_startWait 43 = .ok (.aload 6, 2) := by decide +kernel
theorem dX2_startWait_45 : decode cX2_startWait 45 = .ok (.iload 4, 2) := by decide +kernel
theorem dX2_startWait_47 : decode cX2_startWait 47 = .ok (.putfield 100, 3) := by decide +kernel
theorem dX2_startWait_50 : decode cX2_startWait 50 = .ok (.aload 6, 2) := by decide +kernel
theorem dX2_startWait_52 : decode cX2_startWait 52 = .ok (.iload_n 3, 1) := by decide +kernel
theorem dX2_startWait_53 : decode cX2_startWait 53 = .ok (.putfield 94, 3) := by decide +kernel
theorem dX2_startWait_56 : decode cX2_startWait 56 = .ok (.aload 6, 2) := by decide +kernel
theorem dX2_startWait_58 : decode cX2_startWait 58 = .ok (.aload_n 0, 1) := by decide +kernel
theorem dX2_startWait_59 : decode cX2_startWait 59 = .ok (.getfield 61, 3) := by decide +kernel
theorem dX2_startWait_62 : decode cX2_startWait 62 = .ok (.bipush 21, 2) := by decide +kernel
theorem dX2_startWait_64 : decode cX2_startWait 64 = .ok (.iadd, 1) := by decide +kernel
theorem dX2_startWait_65 : decode cX2_startWait 65 = .ok (.putfield 172, 3) := by decide +kernel
theorem dX2_startWait_68 : decode cX2_startWait 68 = .ok (.aload 6, 2) := by decide +kernel
theorem dX2_startWait_70 : decode cX2_startWait 70 = .ok (.getfield 172, 3) := by decide +kernel
theorem dX2_startWait_73 : decode cX2_startWait 73 = .ok (.ireturn, 1) := by decide +kernel
theorem dX2_putIntoStock_0 : decode cX2_putIntoStock 0 = .ok (.iload_n 2, 1) := by decide +kernel
theorem dX2_putIntoStock_1 : decode cX2_putIntoStock 1 = .ok (.ifCond .ne 16, 3) := by decide +kernel
theorem dX2_putIntoStock_4 : decode cX2_putIntoStock 4 = .ok (.aload_n 0, 1) := by decide +kernel
theorem dX2_putIntoStock_5 : decode cX2_putIntoStock 5 = .ok (.dup, 1) := by decide +kernel
theorem dX2_putIntoStock_6 : decode cX2_putIntoStock 6 = .ok (.getfield 134, 3) := by decide +kernel
theorem dX2_putIntoStock_9 : decode cX2_putIntoStock 9 = .ok (.iconst 1, 1) := by decide +kernel
theorem dX2_putIntoStock_10 : decode cX2_putIntoStock 10 = .ok (.iadd, 1) := by decide +kernel
theorem dX2_putIntoStock_11 : decode cX2_putIntoStock 11 = .ok (.putfield 134, 3) := by decide +kernel
theorem dX2_putIntoStock_14 : decode cX2_putIntoStock 14 = .ok (.goto 40, 3) := by decide +kernel
theorem dX2_putIntoStock_17 : decode cX2_putIntoStock 17 = .ok (.iload_n 2, 1) := by decide +kernel
theorem dX2_putIntoStock_18 : decode cX2_putIntoStock 18 = .ok (.iconst 1, 1) := by decide +kernel
theorem dX2_putIntoStock_19 : decode cX2_putIntoStock 19 = .ok (.if_icmp .ne 20, 3) := by decide +kernel
theorem dX2_putIntoStock_22 : decode cX2_putIntoStock 22 = .ok (.iload_n 1, 1) := by decide +kernel
theorem dX2_putIntoStock_23 : decode cX2_putIntoStock 23 = .ok (.ifCond .ne 16, 3) := by decide +kernel
theorem dX2_putIntoStock_26 : decode cX2_putIntoStock 26 = .ok (.aload_n 0, 1) := by decide +kernel
theorem dX2_putIntoStock_27 : decode cX2_putIntoStock 27 = .ok (.dup, 1) := by decide +kernel
theorem dX2_putIntoStock_28 : decode cX2_putIntoStock 28 = .ok (.getfield 137, 3) := by decide +kernel
theorem dX2_putIntoStock_31 : decode cX2_putIntoStock 31 = .ok (.iconst 1, 1) := by decide +kernel
theorem dX2_putIntoStock_32 : decode cX2_putIntoStock 32 = .ok (.iadd, 1) := by decide +kernel
theorem dX2_putIntoStock_33 : decode cX2_putIntoStock 33 = .ok (.putfield 137, 3) := by decide +kernel
theorem dX2_putIntoStock_36 : decode cX2_putIntoStock 36 = .ok (.goto 18, 3) := by decide +kernel
theorem dX2_putIntoStock_39 : decode cX2_putIntoStock 39 = .ok (.iload_n 2, 1) := by decide +kernel
theorem dX2_putIntoStock_40 : decode cX2_putIntoStock 40 = .ok (.iconst 3, 1) := by decide +kernel
theorem dX2_putIntoStock_41 : decode cX2_putIntoStock 41 = .ok (.if_icmp .eq 13, 3) := by decide +kernel
theorem dX2_putIntoStock_44 : decode cX2_putIntoStock 44 = .ok (.aload_n 0, 1) := by decide +kernel
theorem dX2_putIntoStock_45 : decode cX2_putIntoStock 45 = .ok (.dup, 1) := by decide +kernel
theorem dX2_putIntoStock_46 : decode cX2_putIntoStock 46 = .ok (.getfield 140, 3) := by decide +kernel
theorem dX2_putIntoStock_49 : decode cX2_putIntoStock 49 = .ok (.iconst 1, 1) := by decide +kernel
theorem dX2_putIntoStock_50 : decode cX2_putIntoStock 50 = .ok (.iadd, 1) := by decide +kernel
theorem dX2_putIntoStock_51 : decode cX2_putIntoStock 51 = .ok (.putfield 140, 3) := by decide +kernel
theorem dX2_putIntoStock_54 : decode cX2_putIntoStock 54 = .ok (.return_, 1) := by decide +kernel
theorem dL_low_0 : decode cL_low 0 = .ok (.iload_n 0, 1) := by decide +kernel
theorem dL_low_1 : decode cL_low 1 = .ok (.ldc 7, 2) := by decide +kernel
theorem dL_low_3 : decode cL_low 3 = .ok (.iand, 1) := by decide +kernel
theorem dL_low_4 : decode cL_low 4 = .ok (.iload_n 1, 1) := by decide +kernel
theorem dL_low_5 : decode cL_low 5 = .ok (.irem, 1) := by decide +kernel
theorem dL_low_6 : decode cL_low 6 = .ok (.ireturn, 1) := by decide +kernel
theorem dL_cell_0 : decode cL_cell 0 = .ok (.iload_n 1, 1) := by decide +kernel
theorem dL_cell_1 : decode cL_cell 1 = .ok (.aload_n 0, 1) := by decide +kernel
theorem dL_cell_2 : decode cL_cell 2 = .ok (.arraylength, 1) := by decide +kernel
theorem dL_cell_3 : decode cL_cell 3 = .ok (.if_icmp .ge 9, 3) := by decide +kernel
theorem dL_cell_6 : decode cL_cell 6 = .ok (.aload_n 0, 1) := by decide +kernel
theorem dL_cell_7 : decode cL_cell 7 = .ok (.iload_n 1, 1) := by decide +kernel
theorem dL_cell_8 : decode cL_cell 8 = .ok (.iaload, 1) := by decide +kernel
theorem dL_cell_9 : decode cL_cell 9 = .ok (.goto 11, 3) := by decide +kernel
theorem dL_cell_12 : decode cL_cell 12 = .ok (.ldc 8, 2) := by decide +kernel
theorem dL_cell_14 : decode cL_cell 14 = .ok (.iload_n 1, 1) := by decide +kernel
theorem dL_cell_15 : decode cL_cell 15 = .ok (.imul, 1) := by decide +kernel
theorem dL_cell_16 : decode cL_cell 16 = .ok (.sipush 977, 3) := by decide +kernel
theorem dL_cell_19 : decode cL_cell 19 = .ok (.iadd, 1) := by decide +kernel
theorem dL_cell_20 : decode cL_cell 20 = .ok (.ireturn, 1) := by decide +kernel
set_option maxRecDepth 20000 in
theorem ggL_order_X2_order : GoodIn wsL_order wsX2_order := goodIn_ca (goodIn_ca (goodIn_r _ [6, 7, 8, 9, 10, 11, 12, 13, 14, 15, 16, 5, 17, 18, 19, 20, 21, 22, 23, 24, 25, 26, 27, 28, 29, 30, 31, 32, 33, 34, 35, 36, 37, 38, 39, 40, 41, 42, 43, 44, 45, 46, 47] (by decide +kernel) (by decide +kernel)) (goodIn_sub (fun _ h => List.mem_cons_of_mem _ (List.mem_append_left _ (List.mem_append_right _ h))) (by decide +kernel))) (goodIn_sub (fun _ h => List.mem_cons_of_mem _ (List.mem_append_right _ h)) (by decide +kernel))
set_option maxRecDepth 20000 in
theorem gL_order_X2_order : GoodIn wsL_order (wsV RL 9 RX2 yX2_order wsX2_order) := goodIn_app (goodIn_of _ (by decide +kernel)) ggL_order_X2_order
theorem dL_order_0 : decode cL_order 0 = .ok (.aload_n 0, 1) := by decide +kernel
theorem dL_order_1 : decode cL_order 1 = .ok (.iload_n 1, 1) := by decide +kernel
theorem dL_order_2 : decode cL_order 2 = .ok (.iload_n 2, 1) := by decide +kernel
theorem dL_order_3 : decode cL_order 3 = .ok (.invokevirtual 9, 3) := by decide +kernel
theorem dL_order_6 : decode cL_order 6 = .ok (.ireturn, 1) := by decide +kernel
theorem dL_order_7 : decode cL_order 7 = .ok (.astore_n 3, 1) := by decide +kernel
theorem dL_order_8 : decode cL_order 8 = .ok (.bipush (-3), 2) := by decide +kernel
theorem dL_order_10 : decode cL_order 10 = .ok (.ireturn, 1) := by decide +kernel
set_option maxRecDepth 20000 in
theorem ggL_add_X2_add : GoodIn wsL_add wsX2_add := goodIn_ca (goodIn_ca (goodIn_ca (goodIn_r _ [6, 7, 8, 9, 10, 11, 12, 13, 14, 15, 16, 5, 17, 18, 19, 20, 21, 22, 23, 24, 25, 26, 27, 28, 29, 30, 31, 32, 33, 34, 35, 36, 37, 38, 39, 40, 41, 42, 43, 44, 45, 46, 47, 48, 49, 50, 51, 52, 53, 54, 55, 56, 57, 58, 59, 60, 61, 62, 63, 64, 65, 66, 67, 68] (by decide +kernel) (by decide +kernel)) (goodIn_sub (fun _ h => List.mem_cons_of_mem _ (List.mem_append_left _ (List.mem_append_left _ (List.mem_append_right _ h)))) (by decide +kernel))) (goodIn_sub (fun _ h => List.mem_cons_of_mem _ (List.mem_append_left _ (List.mem_append_right _ h))) (by decide +kernel))) (goodIn_sub (fun _ h => List.mem_cons_of_mem _ (List.mem_append_right _ h)) (by decide +kernel))
set_option maxRecDepth 20000 in
theorem gL_add_X2_add : GoodIn wsL_add (wsV RL 17 RX2 yX2_add wsX2_add) := goodIn_app (goodIn_of _ (by decide +kernel)) ggL_add_X2_add
theorem dL_add_0 : decode cL_add 0 = .ok (.aload_n 0, 1) := by decide +kernel
theorem dL_add_1 : decode cL_add 1 = .ok (.iload_n 1, 1) := by decide +kernel
theorem dL_add_2 : decode cL_add 2 = .ok (.iload_n 2, 1) := by decide +kernel
theorem dL_add_3 : decode cL_add 3 = .ok (.iload_n 3, 1) := by decide +kernel
theorem dL_add_4 : decode cL_add 4 = .ok (.invokevirtual 17, 3) := by decide +kernel
theorem dL_add_7 : decode cL_add 7 = .ok (.ireturn, 1) := by decide +kernel
theorem dL_add_8 : decode cL_add 8 = .ok (.astore 4, 2) := by decide +kernel
theorem dL_add_10 : decode cL_add 10 = .ok (.bipush (-3), 2) := by decide +kernel
theorem dL_add_12 : decode cL_add 12 = .ok (.ireturn, 1) := by decide +kernel
set_option maxRecDepth 20000 in
theorem ggL_pay_X2_pay : GoodIn wsL_pay wsX2_pay := goodIn_ca (goodIn_ca (goodIn_ca (goodIn_r _ [6, 7, 8, 9, 10, 11, 12, 13, 14, 15, 16, 5, 17, 18, 19, 20, 21, 22, 23, 24, 25, 26, 27, 28, 29, 30, 31, 32, 33, 34, 35, 36, 37, 38, 39, 40, 41, 42, 43, 44, 45, 46, 47, 48, 49, 50, 51, 52, 53, 54, 55, 56, 57, 58, 59, 60, 61, 62, 63, 64, 65, 66, 67, 68, 69, 70, 71] (by decide +kernel) (by decide +kernel)) (goodIn_sub (fun _ h => List.mem_cons_of_mem _ (List.mem_append_left _ (List.mem_append_left _ (List.mem_append_right _ h)))) (by decide +kernel))) (goodIn_sub (fun _ h => List.mem_cons_of_mem _ (List.mem_append_left _ (List.mem_append_right _ h))) (by decide +kernel))) (goodIn_sub (fun _ h => List.mem_cons_of_mem _ (List.mem_append_right _ h)) (by decide +kernel))
set_option maxRecDepth 20000 in
theorem gL_pay_X2_pay : GoodIn wsL_pay (wsV RL 21 RX2 yX2_pay wsX2_pay) := goodIn_app (goodIn_of _ (by decide +kernel)) ggL_pay_X2_pay
theorem dL_pay_0 : decode cL_pay 0 = .ok (.aload_n 0, 1) := by decide +kernel
theorem dL_pay_1 : decode cL_pay 1 = .ok (.iload_n 1, 1) := by decide +kernel
theorem dL_pay_2 : decode cL_pay 2 = .ok (.iload_n 2, 1) := by decide +kernel
theorem dL_pay_3 : decode cL_pay 3 = .ok (.iload_n 3, 1) := by decide +kernel
theorem dL_pay_4 : decode cL_pay 4 = .ok (.invokevirtual 21, 3) := by decide +kernel
theorem dL_pay_7 : decode cL_pay 7 = .ok (.ireturn, 1) := by decide +kernel
theorem dL_pay_8 : decode cL_pay 8 = .ok (.astore 4, 2) := by decide +kernel
theorem dL_pay_10 : decode cL_pay 10 = .ok (.bipush (-3), 2) := by decide +kernel
theorem dL_pay_12 : decode cL_pay 12 = .ok (.ireturn, 1) := by decide +kernel
set_option maxRecDepth 20000 in
theorem ggL_ask_X2_ask : GoodIn wsL_ask wsX2_ask := goodIn_ca (goodIn_ca (goodIn_ca (goodIn_r _ [6, 7, 8, 9, 5, 10, 11, 12, 13, 14, 15, 16, 17, 18, 19, 20, 21, 22, 23, 24, 25, 26, 27, 28, 29, 30, 31, 32, 33, 34, 35, 36, 37, 38, 39, 40, 41, 42, 43, 44, 45, 46, 47, 48, 49, 50, 51, 52, 53, 54, 55, 56, 57, 58, 59, 60, 61, 62, 63, 64, 65, 66, 67] (by decide +kernel) (by decide +kernel)) (goodIn_sub (fun _ h => List.mem_cons_of_mem _ (List.mem_append_left _ (List.mem_append_left _ (List.mem_append_right _ h)))) (by decide +kernel))) (goodIn_sub (fun _ h => List.mem_cons_of_mem _ (List.mem_append_left _ (List.mem_append_right _ h))) (by decide +kernel))) (goodIn_sub (fun _ h => List.mem_cons_of_mem _ (List.mem_append_right _ h)) (by decide +kernel))
set_option maxRecDepth 20000 in
theorem gL_ask_X2_ask : GoodIn wsL_ask (wsV RL 24 RX2 yX2_ask wsX2_ask) := goodIn_app (goodIn_of _ (by decide +kernel)) ggL_ask_X2_ask
theorem dL_ask_0 : decode cL_ask 0 = .ok (.aload_n 0, 1) := by decide +kernel
theorem dL_ask_1 : decode cL_ask 1 = .ok (.iload_n 1, 1) := by decide +kernel
theorem dL_ask_2 : decode cL_ask 2 = .ok (.iload_n 2, 1) := by decide +kernel
theorem dL_ask_3 : decode cL_ask 3 = .ok (.iload_n 3, 1) := by decide +kernel
theorem dL_ask_4 : decode cL_ask 4 = .ok (.invokevirtual 24, 3) := by decide +kernel
theorem dL_ask_7 : decode cL_ask 7 = .ok (.ireturn, 1) := by decide +kernel
theorem dL_ask_8 : decode cL_ask 8 = .ok (.astore 4, 2) := by decide +kernel
theorem dL_ask_10 : decode cL_ask 10 = .ok (.bipush (-3), 2) := by decide +kernel
theorem dL_ask_12 : decode cL_ask 12 = .ok (.ireturn, 1) := by decide +kernel
set_option maxRecDepth 20000 in
theorem ggL_exchange_X2_exchange : GoodIn wsL_exchange wsX2_exchange := goodIn_ca (goodIn_ca (goodIn_ca (goodIn_r _ [6, 7, 8, 9, 5, 10, 11, 12, 13, 14, 15, 16, 17, 18, 19, 20, 21, 22, 23, 24, 25, 26, 27, 28, 29, 30, 31, 32, 33, 34, 35, 36, 37, 38, 39, 40, 41, 42, 43, 44, 45, 46, 47, 48, 49, 50, 51, 52, 53, 54, 55, 56, 57, 58, 59, 60, 61, 62, 63, 64, 65, 66, 67] (by decide +kernel) (by decide +kernel)) (goodIn_sub (fun _ h => List.mem_cons_of_mem _ (List.mem_append_left _ (List.mem_append_left _ (List.mem_append_right _ h)))) (by decide +kernel))) (goodIn_sub (fun _ h => List.mem_cons_of_mem _ (List.mem_append_left _ (List.mem_append_right _ h))) (by decide +kernel))) (goodIn_sub (fun _ h => List.mem_cons_of_mem _ (List.mem_append_right _ h)) (by decide +kernel))
set_option maxRecDepth 20000 in
theorem gL_exchange_X2_exchange : GoodIn wsL_exchange (wsV RL 27 RX2 yX2_exchange wsX2_exchange) := goodIn_app (goodIn_of _ (by decide +kernel)) ggL_exchange_X2_exchange
theorem dL_exchange_0 : decode cL_exchange 0 = .ok (.aload_n 0, 1) := by decide +kernel
theorem dL_exchange_1 : decode cL_exchange 1 = .ok (.iload_n 1, 1) := by decide +kernel
theorem dL_exchange_2 : decode cL_exchange 2 = .ok (.iload_n 2, 1) := by decide +kernel
theorem dL_exchange_3 : decode cL_exchange 3 = .ok (.iload_n 3, 1) := by decide +kernel
theorem dL_exchange_4 : decode cL_exchange 4 = .ok (.invokevirtual 27, 3) := by decide +kernel
theorem dL_exchange_7 : decode cL_exchange 7 = .ok (.ireturn, 1) := by decide +kernel
theorem dL_exchange_8 : decode cL_exchange 8 = .ok (.astore 4, 2) := by decide +kernel
theorem dL_exchange_10 : decode cL_exchange 10 = .ok (.bipush (-3), 2) := by decide +kernel
theorem dL_exchange_12 : decode cL_exchange 12 = .ok (.ireturn, 1) := by decide +kernel
set_option maxRecDepth 20000 in
theorem ggL_grade_X2_grade : GoodIn wsL_grade wsX2_grade := goodIn_ca (goodIn_ca (goodIn_ca (goodIn_r _ [6, 7, 8, 9, 10, 11, 12, 13, 14, 5, 15, 16, 17, 18, 19, 20, 21, 22, 23, 24, 25, 26, 27, 28, 29, 30, 31, 32, 33, 34, 35, 36, 37, 38, 39, 40, 41, 42, 43, 44, 45, 46, 47, 48, 49, 50, 51, 52, 53, 54, 55, 56, 57, 58, 59, 60, 61, 62, 63, 64, 65, 66, 67, 68, 69, 70, 71, 72, 73, 74, 75, 76, 77, 78, 79, 80, 81, 82, 83, 84, 85, 86, 87, 88, 89, 90, 91, 92, 93, 94, 95, 96, 97, 98, 99, 100, 101, 102, 103, 104, 105, 106, 107, 108, 109] (by decide +kernel) (by decide +kernel)) (goodIn_sub (fun _ h => List.mem_cons_of_mem _ (List.mem_append_left _ (List.mem_append_left _ (List.mem_append_right _ h)))) (by decide +kernel))) (goodIn_sub (fun _ h => List.mem_cons_of_mem _ (List.mem_append_left _ (List.mem_append_right _ h))) (by decide +kernel))) (goodIn_sub (fun _ h => List.mem_cons_of_mem _ (List.mem_append_right _ h)) (by decide +kernel))
set_option maxRecDepth 20000 in
theorem gL_grade_X2_grade : GoodIn wsL_grade (wsV RL 30 RX2 yX2_grade wsX2_grade) := goodIn_app (goodIn_of _ (by decide +kernel)) ggL_grade_X2_grade
theorem dL_grade_0 : decode cL_grade 0 = .ok (.aload_n 0, 1) := by decide +kernel
theorem dL_grade_1 : decode cL_grade 1 = .ok (.iload_n 1, 1) := by decide +kernel
theorem dL_grade_2 : decode cL_grade 2 = .ok (.iload_n 2, 1) := by decide +kernel
theorem dL_grade_3 : decode cL_grade 3 = .ok (.iload_n 3, 1) := by decide +kernel
theorem dL_grade_4 : decode cL_grade 4 = .ok (.invokevirtual 30, 3) := by decide +kernel
theorem dL_grade_7 : decode cL_grade 7 = .ok (.ireturn, 1) := by decide +kernel
theorem dL_grade_8 : decode cL_grade 8 = .ok (.astore 4, 2) := by decide +kernel
theorem dL_grade_10 : decode cL_grade 10 = .ok (.bipush (-3), 2) := by decide +kernel
theorem dL_grade_12 : decode cL_grade 12 = .ok (.ireturn, 1) := by decide +kernel
set_option maxRecDepth 20000 in
theorem ggL_all_X2_taken : GoodIn wsL_all wsX2_taken := goodIn_ca (goodIn_ca (goodIn_r _ [5, 6, 7, 8, 9, 10, 11, 4, 12, 13, 14, 15, 16, 17, 18, 19, 20, 21, 22, 23, 24, 25, 26, 27, 28, 29, 30, 31, 32, 33, 34, 35, 36, 37, 38] (by decide +kernel) (by decide +kernel)) (goodIn_sub (fun _ h => List.mem_cons_of_mem _ (List.mem_append_left _ (List.mem_append_right _ h))) (by decide +kernel))) (goodIn_sub (fun _ h => List.mem_cons_of_mem _ (List.mem_append_right _ h)) (by decide +kernel))
set_option maxRecDepth 20000 in
theorem gL_all_X2_taken : GoodIn wsL_all (wsV RL 33 RX2 yX2_taken wsX2_taken) := goodIn_app (goodIn_of _ (by decide +kernel)) ggL_all_X2_taken
theorem dL_all_0 : decode cL_all 0 = .ok (.aload_n 0, 1) := by decide +kernel
theorem dL_all_1 : decode cL_all 1 = .ok (.iload_n 1, 1) := by decide +kernel
theorem dL_all_2 : decode cL_all 2 = .ok (.iconst 0, 1) := by decide +kernel
theorem dL_all_3 : decode cL_all 3 = .ok (.invokevirtual 33, 3) := by decide +kernel
theorem dL_all_6 : decode cL_all 6 = .ok (.aload_n 0, 1) := by decide +kernel
theorem dL_all_7 : decode cL_all 7 = .ok (.iload_n 1, 1) := by decide +kernel
theorem dL_all_8 : decode cL_all 8 = .ok (.iconst 1, 1) := by decide +kernel
theorem dL_all_9 : decode cL_all 9 = .ok (.invokevirtual 33, 3) := by decide +kernel
theorem dL_all_12 : decode cL_all 12 = .ok (.iadd, 1) := by decide +kernel
theorem dL_all_13 : decode cL_all 13 = .ok (.aload_n 0, 1) := by decide +kernel
theorem dL_all_14 : decode cL_all 14 = .ok (.iload_n 1, 1) := by decide +kernel
theorem dL_all_15 : decode cL_all 15 = .ok (.iconst 2, 1) := by decide +kernel
theorem dL_all_16 : decode cL_all 16 = .ok (.invokevirtual 33, 3) := by decide +kernel
theorem dL_all_19 : decode cL_all 19 = .ok (.iadd, 1) := by decide +kernel
theorem dL_all_20 : decode cL_all 20 = .ok (.ireturn, 1) := by decide +kernel
set_option maxRecDepth 20000 in
theorem ggL_sums_X2_price : GoodIn wsL_sums wsX2_price := goodIn_ca (goodIn_r _ [5, 6, 7, 8, 4, 9, 10, 11, 12, 13, 14, 15, 16, 17, 18, 19, 20, 21, 22, 77, 78, 79, 80, 81, 82, 83, 84, 85, 86, 87, 88, 89, 90, 91, 92, 93, 94, 95, 96, 97, 98, 99] (by decide +kernel) (by decide +kernel)) (goodIn_sub (fun _ h => List.mem_cons_of_mem _ (List.mem_append_left _ (List.mem_append_right _ h))) (by decide +kernel))
set_option maxRecDepth 20000 in
theorem gL_sums_X2_price : GoodIn wsL_sums (wsV RL 36 RX2 yX2_price wsX2_price) := goodIn_app (goodIn_of _ (by decide +kernel)) ggL_sums_X2_price
set_option maxRecDepth 20000 in
theorem ggL_sums_X2_fees : GoodIn wsL_sums wsX2_fees := goodIn_ca (goodIn_r _ [26, 27, 6, 7, 8, 4, 9, 10, 11, 12, 83, 84, 85, 86, 87, 88, 89, 90, 91, 92, 93, 94, 77, 78, 79, 80, 81, 82] (by decide +kernel) (by decide +kernel)) (goodIn_sub (fun _ h => List.mem_cons_of_mem _ (List.mem_append_left _ (List.mem_append_right _ h))) (by decide +kernel))
set_option maxRecDepth 20000 in
theorem gL_sums_X2_fees : GoodIn wsL_sums (wsV RL 40 RX2 yX2_fees wsX2_fees) := goodIn_app (goodIn_of _ (by decide +kernel)) ggL_sums_X2_fees
set_option maxRecDepth 20000 in
theorem ggL_sums_X2_charges : GoodIn wsL_sums wsX2_charges := goodIn_ca (goodIn_r _ [31, 32, 6, 7, 8, 4, 9, 10, 11, 12, 83, 84, 85, 86, 87, 88, 89, 90, 91, 92, 93, 94, 77, 78, 79, 80, 81, 82] (by decide +kernel) (by decide +kernel)) (goodIn_sub (fun _ h => List.mem_cons_of_mem _ (List.mem_append_left _ (List.mem_append_right _ h))) (by decide +kernel))
set_option maxRecDepth 20000 in
theorem gL_sums_X2_charges : GoodIn wsL_sums (wsV RL 43 RX2 yX2_charges wsX2_charges) := goodIn_app (goodIn_of _ (by decide +kernel)) ggL_sums_X2_charges
set_option maxRecDepth 20000 in
theorem ggL_sums_L_all : GoodIn wsL_sums wsL_all := goodIn_ca (goodIn_ca (goodIn_r _ [36, 37, 38, 39, 4, 40, 41, 42, 43, 6, 7, 8, 9, 10, 11, 12, 44, 45, 46, 47, 48, 83, 84, 85, 86, 87, 88, 89, 90, 91, 92, 93, 94, 77, 78, 79, 80, 81, 82] (by decide +kernel) (by decide +kernel)) (goodIn_sub (fun _ h => List.mem_cons_of_mem _ (List.mem_append_left _ (List.mem_append_right _ h))) (by decide +kernel))) (goodIn_sub (fun _ h => List.mem_cons_of_mem _ (List.mem_append_right _ h)) (by decide +kernel))
set_option maxRecDepth 20000 in
theorem gL_sums_L_all : GoodIn wsL_sums (va_wsS RL 46 yL_all wsL_all) := goodIn_app (goodIn_of _ (by decide +kernel)) ggL_sums_L_all
set_option maxRecDepth 20000 in
theorem ggL_sums_X2_taken : GoodIn wsL_sums wsX2_taken := goodIn_ca (goodIn_ca (goodIn_r _ [40, 41, 42, 43, 6, 7, 8, 4, 9, 10, 11, 12, 44, 45, 46, 47, 48, 83, 84, 85, 86, 87, 88, 89, 90, 91, 92, 93, 94, 77, 78, 79, 80, 81, 82] (by decide +kernel) (by decide +kernel)) (goodIn_sub (fun _ h => List.mem_cons_of_mem _ (List.mem_append_left _ (List.mem_append_right _ h))) (by decide +kernel))) (goodIn_sub (fun _ h => List.mem_cons_of_mem _ (List.mem_append_right _ h)) (by decide +kernel))
set_option maxRecDepth 20000 in
theorem gL_sums_X2_taken : GoodIn wsL_sums (wsV RL 33 RX2 yX2_taken wsX2_taken) := goodIn_app (goodIn_of _ (by decide +kernel)) ggL_sums_X2_taken
set_option maxRecDepth 20000 in
theorem ggL_sums_X2_refunded : GoodIn wsL_sums wsX2_refunded := goodIn_ca (goodIn_r _ [52, 53, 6, 7, 8, 4, 9, 10, 11, 12, 83, 84, 85, 86, 87, 88, 89, 90, 91, 92, 93, 94, 77, 78, 79, 80, 81, 82] (by decide +kernel) (by decide +kernel)) (goodIn_sub (fun _ h => List.mem_cons_of_mem _ (List.mem_append_left _ (List.mem_append_right _ h))) (by decide +kernel))
set_option maxRecDepth 20000 in
theorem gL_sums_X2_refunded : GoodIn wsL_sums (wsV RL 52 RX2 yX2_refunded wsX2_refunded) := goodIn_app (goodIn_of _ (by decide +kernel)) ggL_sums_X2_refunded
set_option maxRecDepth 20000 in
theorem ggL_sums_X2_isShortBy : GoodIn wsL_sums wsX2_isShortBy := goodIn_ca (goodIn_r _ [57, 58, 59, 60, 61, 62, 6, 7, 8, 4, 9, 10, 11, 12, 63, 64, 65, 16, 66, 67, 68, 69, 14, 15, 17, 18, 19, 20, 21, 22, 70, 71, 72, 73, 74, 75, 76, 83, 84, 85, 86, 87, 88, 89, 90, 91, 92, 93, 94, 77, 78, 79, 80, 81, 82, 95, 96, 97, 98, 99] (by decide +kernel) (by decide +kernel)) (goodIn_sub (fun _ h => List.mem_cons_of_mem _ (List.mem_append_left _ (List.mem_append_right _ h))) (by decide +kernel))
set_option maxRecDepth 20000 in
theorem gL_sums_X2_isShortBy : GoodIn wsL_sums (wsV RL 55 RX2 yX2_isShortBy wsX2_isShortBy) := goodIn_app (goodIn_of _ (by decide +kernel)) ggL_sums_X2_isShortBy
theorem dL_sums_0 : decode cL_sums 0 = .ok (.aload_n 0, 1) := by decide +kernel
theorem dL_sums_1 : decode cL_sums 1 = .ok (.iload_n 1, 1) := by decide +kernel
theorem dL_sums_2 : decode cL_sums 2 = .ok (.invokevirtual 36, 3) := by decide +kernel
theorem dL_sums_5 : decode cL_sums 5 = .ok (.aload_n 0, 1) := by decide +kernel
theorem dL_sums_6 : decode cL_sums 6 = .ok (.iload_n 1, 1) := by decide +kernel
theorem dL_sums_7 : decode cL_sums 7 = .ok (.invokevirtual 40, 3) := by decide +kernel
theorem dL_sums_10 : decode cL_sums 10 = .ok (.iadd, 1) := by decide +kernel
theorem dL_sums_11 : decode cL_sums 11 = .ok (.aload_n 0, 1) := by decide +kernel
theorem dL_sums_12 : decode cL_sums 12 = .ok (.iload_n 1, 1) := by decide +kernel
theorem dL_sums_13 : decode cL_sums 13 = .ok (.invokevirtual 43, 3) := by decide +kernel
theorem dL_sums_16 : decode cL_sums 16 = .ok (.iadd, 1) := by decide +kernel
theorem dL_sums_17 : decode cL_sums 17 = .ok (.istore_n 3, 1) := by decide +kernel
theorem dL_sums_18 : decode cL_sums 18 = .ok (.aload_n 0, 1) := by decide +kernel
theorem dL_sums_19 : decode cL_sums 19 = .ok (.iload_n 1, 1) := by decide +kernel
theorem dL_sums_20 : decode cL_sums 20 = .ok (.invokestatic 46, 3) := by decide +kernel
theorem dL_sums_23 : decode cL_sums 23 = .ok (.istore 4, 2) := by decide +kernel
theorem dL_sums_25 : decode cL_sums 25 = .ok (.aload_n 0, 1) := by decide +kernel
theorem dL_sums_26 : decode cL_sums 26 = .ok (.iload_n 1, 1) := by decide +kernel
theorem dL_sums_27 : decode cL_sums 27 = .ok (.iconst 0, 1) := by decide +kernel
theorem dL_sums_28 : decode cL_sums 28 = .ok (.invokevirtual 33, 3) := by decide +kernel
theorem dL_sums_31 : decode cL_sums 31 = .ok (.ifCond .lt 49, 3) := by decide +kernel
theorem dL_sums_34 : decode cL_sums 34 = .ok (.aload_n 0, 1) := by decide +kernel
theorem dL_sums_35 : decode cL_sums 35 = .ok (.iload_n 1, 1) := by decide +kernel
theorem dL_sums_36 : decode cL_sums 36 = .ok (.iconst 1, 1) := by decide +kernel
theorem dL_sums_37 : decode cL_sums 37 = .ok (.invokevirtual 33, 3) := by decide +kernel
theorem dL_sums_40 : decode cL_sums 40 = .ok (.ifCond .lt 40, 3) := by decide +kernel
theorem dL_sums_43 : decode cL_sums 43 = .ok (.aload_n 0, 1) := by decide +kernel
theorem dL_sums_44 : decode cL_sums 44 = .ok (.iload_n 1, 1) := by decide +kernel
theorem dL_sums_45 : decode cL_sums 45 = .ok (.iconst 2, 1) := by decide +kernel
theorem dL_sums_46 : decode cL_sums 46 = .ok (.invokevirtual 33, 3) := by decide +kernel
theorem dL_sums_49 : decode cL_sums 49 = .ok (.ifCond .lt 31, 3) := by decide +kernel
theorem dL_sums_52 : decode cL_sums 52 = .ok (.aload_n 0, 1) := by decide +kernel
theorem dL_sums_53 : decode cL_sums 53 = .ok (.iload_n 1, 1) := by decide +kernel
theorem dL_sums_54 : decode cL_sums 54 = .ok (.invokevirtual 52, 3) := by decide +kernel
theorem dL_sums_57 : decode cL_sums 57 = .ok (.ifCond .lt 23, 3) := by decide +kernel
theorem dL_sums_60 : decode cL_sums 60 = .ok (.aload_n 0, 1) := by decide +kernel
theorem dL_sums_61 : decode cL_sums 61 = .ok (.iload_n 1, 1) := by decide +kernel
theorem dL_sums_62 : decode cL_sums 62 = .ok (.invokevirtual 40, 3) := by decide +kernel
theorem dL_sums_65 : decode cL_sums 65 = .ok (.ifCond .lt 15, 3) := by decide +kernel
theorem dL_sums_68 : decode cL_sums 68 = .ok (.aload_n 0, 1) := by decide +kernel
theorem dL_sums_69 : decode cL_sums 69 = .ok (.iload_n 1, 1) := by decide +kernel
theorem dL_sums_70 : decode cL_sums 70 = .ok (.invokevirtual 43, 3) := by decide +kernel
theorem dL_sums_73 : decode cL_sums 73 = .ok (.ifCond .lt 7, 3) := by decide +kernel
theorem dL_sums_76 : decode cL_sums 76 = .ok (.iconst 1, 1) := by decide +kernel
theorem dL_sums_77 : decode cL_sums 77 = .ok (.goto 4, 3) := by decide +kernel
theorem dL_sums_80 : decode cL_sums 80 = .ok (.iconst 0, 1) := by decide +kernel
theorem dL_sums_81 : decode cL_sums 81 = .ok (.istore 5, 2) := by decide +kernel
theorem dL_sums_83 : decode cL_sums 83 = .ok (.iload 5, 2) := by decide +kernel
theorem dL_sums_85 : decode cL_sums 85 = .ok (.ifCond .eq 58, 3) := by decide +kernel
theorem dL_sums_88 : decode cL_sums 88 = .ok (.aload_n 0, 1) := by decide +kernel
theorem dL_sums_89 : decode cL_sums 89 = .ok (.iload_n 1, 1) := by decide +kernel
theorem dL_sums_90 : decode cL_sums 90 = .ok (.invokevirtual 55, 3) := by decide +kernel
theorem dL_sums_93 : decode cL_sums 93 = .ok (.iload_n 2, 1) := by decide +kernel
theorem dL_sums_94 : decode cL_sums 94 = .ok (.ifCond .eq 16, 3) := by decide +kernel
theorem dL_sums_97 : decode cL_sums 97 = .ok (.iload_n 3, 1) := by decide +kernel
theorem dL_sums_98 : decode cL_sums 98 = .ok (.iload 4, 2) := by decide +kernel
theorem dL_sums_100 : decode cL_sums 100 = .ok (.if_icmp .le 10, 3) := by decide +kernel
theorem dL_sums_103 : decode cL_sums 103 = .ok (.iload_n 3, 1) := by decide +kernel
theorem dL_sums_104 : decode cL_sums 104 = .ok (.iload 4, 2) := by decide +kernel
theorem dL_sums_106 : decode cL_sums 106 = .ok (.isub, 1) := by decide +kernel
theorem dL_sums_107 : decode cL_sums 107 = .ok (.goto 4, 3) := by decide +kernel
theorem dL_sums_110 : decode cL_sums 110 = .ok (.iconst 0, 1) := by decide +kernel
theorem dL_sums_111 : decode cL_sums 111 = .ok (.if_icmp .ne 32, 3) := by decide +kernel
theorem dL_sums_114 : decode cL_sums 114 = .ok (.iload_n 2, 1) := by decide +kernel
theorem dL_sums_115 : decode cL_sums 115 = .ok (.ifCond .ne 24, 3) := by decide +kernel
theorem dL_sums_118 : decode cL_sums 118 = .ok (.iload 4, 2) := by decide +kernel
theorem dL_sums_120 : decode cL_sums 120 = .ok (.ifCond .ne 23, 3) := by decide +kernel
theorem dL_sums_123 : decode cL_sums 123 = .ok (.aload_n 0, 1) := by decide +kernel
theorem dL_sums_124 : decode cL_sums 124 = .ok (.iload_n 1, 1) := by decide +kernel
theorem dL_sums_125 : decode cL_sums 125 = .ok (.invokevirtual 52, 3) := by decide +kernel
theorem dL_sums_128 : decode cL_sums 128 = .ok (.ifCond .ne 15, 3) := by decide +kernel
theorem dL_sums_131 : decode cL_sums 131 = .ok (.aload_n 0, 1) := by decide +kernel
theorem dL_sums_132 : decode cL_sums 132 = .ok (.iload_n 1, 1) := by decide +kernel
theorem dL_sums_133 : decode cL_sums 133 = .ok (.invokevirtual 40, 3) := by decide +kernel
theorem dL_sums_136 : decode cL_sums 136 = .ok (.ifCond .ne 7, 3) := by decide +kernel
theorem dL_sums_139 : decode cL_sums 139 = .ok (.iconst 1, 1) := by decide +kernel
theorem dL_sums_140 : decode cL_sums 140 = .ok (.goto 4, 3) := by decide +kernel
theorem dL_sums_143 : decode cL_sums 143 = .ok (.iconst 0, 1) := by decide +kernel
theorem dL_sums_144 : decode cL_sums 144 = .ok (.ireturn, 1) := by decide +kernel
set_option maxRecDepth 20000 in
theorem ggL_returns_X2_state : GoodIn wsL_returns wsX2_state := goodIn_ca (goodIn_r _ [5, 6, 7, 8, 9, 4, 10, 11, 12, 13, 14, 15, 16, 17, 163, 164, 165, 166, 167, 168, 169, 170, 171, 172, 173, 174, 175, 176, 177, 178, 179, 180, 181, 182, 183, 184, 185] (by decide +kernel) (by decide +kernel)) (goodIn_sub (fun _ h => List.mem_cons_of_mem _ (List.mem_append_left _ (List.mem_append_left _ (List.mem_append_right _ h)))) (by decide +kernel))
set_option maxRecDepth 20000 in
theorem gL_returns_X2_state : GoodIn wsL_returns (wsV RL 58 RX2 yX2_state wsX2_state) := goodIn_app (goodIn_of _ (by decide +kernel)) ggL_returns_X2_state
set_option maxRecDepth 20000 in
theorem ggL_returns_L_low : GoodIn wsL_returns wsL_low := goodIn_r _ [21, 22] (by decide +kernel) (by decide +kernel)
set_option maxRecDepth 20000 in
theorem gL_returns_L_low : GoodIn wsL_returns (va_wsS RL 61 yL_low wsL_low) := goodIn_app (goodIn_of _ (by decide +kernel)) ggL_returns_L_low
set_option maxRecDepth 20000 in
theorem ggL_returns_L_all : GoodIn wsL_returns wsL_all := goodIn_ca (goodIn_ca (goodIn_r _ [25, 26, 27, 28, 4, 29, 30, 31, 32, 7, 8, 9, 10, 11, 12, 13, 33, 34, 35, 36, 37, 174, 175, 176, 177, 178, 179, 180, 181, 182, 183, 184, 185, 168, 169, 170, 171, 172, 173] (by decide +kernel) (by decide +kernel)) (goodIn_sub (fun _ h => List.mem_cons_of_mem _ (List.mem_append_left _ (List.mem_append_left _ (List.mem_append_right _ h)))) (by decide +kernel))) (goodIn_sub (fun _ h => List.mem_cons_of_mem _ (List.mem_append_left _ (List.mem_append_right _ h))) (by decide +kernel))
set_option maxRecDepth 20000 in
theorem gL_returns_L_all : GoodIn wsL_returns (va_wsS RL 46 yL_all wsL_all) := goodIn_app (goodIn_of _ (by decide +kernel)) ggL_returns_L_all
set_option maxRecDepth 20000 in
theorem ggL_returns_X2_refunded : GoodIn wsL_returns wsX2_refunded := goodIn_ca (goodIn_r _ [41, 42, 7, 8, 9, 4, 10, 11, 12, 13, 174, 175, 176, 177, 178, 179, 180, 181, 182, 183, 184, 185, 168, 169, 170, 171, 172, 173] (by decide +kernel) (by decide +kernel)) (goodIn_sub (fun _ h => List.mem_cons_of_mem _ (List.mem_append_left _ (List.mem_append_left _ (List.mem_append_right _ h)))) (by decide +kernel))
set_option maxRecDepth 20000 in
theorem gL_returns_X2_refunded : GoodIn wsL_returns (wsV RL 52 RX2 yX2_refunded wsX2_refunded) := goodIn_app (goodIn_of _ (by decide +kernel)) ggL_returns_X2_refunded
set_option maxRecDepth 20000 in
theorem ggL_returns_X2_stock : GoodIn wsL_returns wsX2_stock := goodIn_ca (goodIn_r _ [46, 47, 48, 49, 33, 34, 4, 35, 36, 37, 168, 169, 170, 171, 172, 173] (by decide +kernel) (by decide +kernel)) (goodIn_sub (fun _ h => List.mem_cons_of_mem _ (List.mem_append_left _ (List.mem_append_right _ h))) (by decide +kernel))
set_option maxRecDepth 20000 in
theorem gL_returns_X2_stock : GoodIn wsL_returns (wsV RL 64 RX2 yX2_stock wsX2_stock) := goodIn_app (goodIn_of _ (by decide +kernel)) ggL_returns_X2_stock
set_option maxRecDepth 20000 in
theorem ggL_returns_X2_grade : GoodIn wsL_returns wsX2_grade := goodIn_ca (goodIn_ca (goodIn_ca (goodIn_r _ [53, 54, 55, 56, 57, 6, 7, 8, 9, 4, 10, 11, 12, 13, 14, 15, 16, 17, 33, 34, 35, 36, 37, 58, 59, 60, 61, 62, 63, 64, 65, 66, 67, 68, 69, 70, 71, 72, 73, 74, 75, 76, 77, 78, 47, 48, 49, 79, 80, 81, 82, 83, 84, 85, 86, 87, 88, 89, 90, 91, 92, 93, 94, 95, 96, 97, 98, 99, 100, 101, 102, 103, 104, 105, 106, 107, 108, 109, 110, 111, 112, 113, 174, 175, 176, 177, 178, 179, 180, 181, 182, 183, 184, 185, 163, 164, 165, 166, 167, 168, 169, 170, 171, 172, 173] (by decide +kernel) (by decide +kernel)) (goodIn_sub (fun _ h => List.mem_cons_of_mem _ (List.mem_append_right _ h)) (by decide +kernel))) (goodIn_sub (fun _ h => List.mem_cons_of_mem _ (List.mem_append_left _ (List.mem_append_left _ (List.mem_append_right _ h)))) (by decide +kernel))) (goodIn_sub (fun _ h => List.mem_cons_of_mem _ (List.mem_append_left _ (List.mem_append_right _ h))) (by decide +kernel))
set_option maxRecDepth 20000 in
theorem gL_returns_X2_grade : GoodIn wsL_returns (wsV RL 30 RX2 yX2_grade wsX2_grade) := goodIn_app (goodIn_of _ (by decide +kernel)) ggL_returns_X2_grade
set_option maxRecDepth 20000 in
theorem ggL_returns_X2_isShortBy : GoodIn wsL_returns wsX2_isShortBy := goodIn_ca (goodIn_r _ [117, 118, 119, 85, 86, 87, 7, 8, 9, 4, 10, 11, 12, 13, 120, 100, 101, 82, 102, 103, 104, 105, 106, 107, 108, 109, 110, 111, 112, 113, 121, 96, 97, 98, 88, 92, 93, 174, 175, 176, 177, 178, 179, 180, 181, 182, 183, 184, 185, 168, 169, 170, 171, 172, 173, 163, 164, 165, 166, 167] (by decide +kernel) (by decide +kernel)) (goodIn_sub (fun _ h => List.mem_cons_of_mem _ (List.mem_append_left _ (List.mem_append_left _ (List.mem_append_right _ h)))) (by decide +kernel))
set_option maxRecDepth 20000 in
theorem gL_returns_X2_isShortBy : GoodIn wsL_returns (wsV RL 55 RX2 yX2_isShortBy wsX2_isShortBy) := goodIn_app (goodIn_of _ (by decide +kernel)) ggL_returns_X2_isShortBy
set_option maxRecDepth 20000 in
theorem ggL_returns_X2_mayComeBack : GoodIn wsL_returns wsX2_mayComeBack := goodIn_ca (goodIn_ca (goodIn_r _ [125, 7, 8, 9, 4, 10, 11, 12, 13, 14, 15, 16, 17, 33, 34, 35, 36, 37, 126, 127, 128, 129, 118, 6, 130, 131, 132, 133, 134, 61, 135, 73, 168, 169, 170, 171, 172, 173, 174, 175, 176, 177, 178, 179, 180, 181, 182, 183, 184, 185, 163, 164, 165, 166, 167] (by decide +kernel) (by decide +kernel)) (goodIn_sub (fun _ h => List.mem_cons_of_mem _ (List.mem_append_left _ (List.mem_append_left _ (List.mem_append_right _ h)))) (by decide +kernel))) (goodIn_sub (fun _ h => List.mem_cons_of_mem _ (List.mem_append_left _ (List.mem_append_right _ h))) (by decide +kernel))
set_option maxRecDepth 20000 in
theorem gL_returns_X2_mayComeBack : GoodIn wsL_returns (wsV RL 67 RX2 yX2_mayComeBack wsX2_mayComeBack) := goodIn_app (goodIn_of _ (by decide +kernel)) ggL_returns_X2_mayComeBack
set_option maxRecDepth 20000 in
theorem ggL_returns_L_ask : GoodIn wsL_returns wsL_ask := goodIn_ca (goodIn_ca (goodIn_ca (goodIn_r _ [138, 139, 140, 141, 142, 4, 143, 144, 145, 146, 147, 54, 55, 6, 57, 130, 148, 7, 8, 9, 10, 11, 12, 13, 14, 15, 16, 17, 33, 34, 35, 36, 37, 126, 127, 128, 129, 118, 131, 132, 133, 134, 61, 135, 73, 163, 164, 165, 166, 167, 168, 169, 170, 171, 172, 173, 174, 175, 176, 177, 178, 179, 180, 181, 182, 183, 184, 185] (by decide +kernel) (by decide +kernel)) (goodIn_sub (fun _ h => List.mem_cons_of_mem _ (List.mem_append_right _ h)) (by decide +kernel))) (goodIn_sub (fun _ h => List.mem_cons_of_mem _ (List.mem_append_left _ (List.mem_append_left _ (List.mem_append_right _ h)))) (by decide +kernel))) (goodIn_sub (fun _ h => List.mem_cons_of_mem _ (List.mem_append_left _ (List.mem_append_right _ h))) (by decide +kernel))
set_option maxRecDepth 20000 in
theorem gL_returns_L_ask : GoodIn wsL_returns (va_wsS RL 71 yL_ask wsL_ask) := goodIn_app (goodIn_of _ (by decide +kernel)) ggL_returns_L_ask
set_option maxRecDepth 20000 in
theorem ggL_returns_L_exchange : GoodIn wsL_returns wsL_exchange := goodIn_ca (goodIn_ca (goodIn_ca (goodIn_r _ [151, 139, 152, 153, 154, 4, 155, 144, 145, 146, 147, 54, 55, 6, 57, 130, 148, 7, 8, 9, 10, 11, 12, 13, 14, 15, 16, 17, 33, 34, 35, 36, 37, 126, 127, 128, 129, 118, 131, 132, 133, 134, 61, 135, 73, 163, 164, 165, 166, 167, 168, 169, 170, 171, 172, 173, 174, 175, 176, 177, 178, 179, 180, 181, 182, 183, 184, 185] (by decide +kernel) (by decide +kernel)) (goodIn_sub (fun _ h => List.mem_cons_of_mem _ (List.mem_append_right _ h)) (by decide +kernel))) (goodIn_sub (fun _ h => List.mem_cons_of_mem _ (List.mem_append_left _ (List.mem_append_left _ (List.mem_append_right _ h)))) (by decide +kernel))) (goodIn_sub (fun _ h => List.mem_cons_of_mem _ (List.mem_append_left _ (List.mem_append_right _ h))) (by decide +kernel))
set_option maxRecDepth 20000 in
theorem gL_returns_L_exchange : GoodIn wsL_returns (va_wsS RL 74 yL_exchange wsL_exchange) := goodIn_app (goodIn_of _ (by decide +kernel)) ggL_returns_L_exchange
set_option maxRecDepth 20000 in
theorem ggL_returns_L_grade : GoodIn wsL_returns wsL_grade := goodIn_ca (goodIn_ca (goodIn_ca (goodIn_r _ [158, 139, 50, 51, 52, 4, 53, 54, 55, 56, 57, 6, 7, 8, 9, 10, 11, 12, 13, 14, 15, 16, 17, 33, 34, 35, 36, 37, 58, 59, 60, 61, 62, 63, 64, 65, 66, 67, 68, 69, 70, 71, 72, 73, 74, 75, 76, 77, 78, 47, 48, 49, 79, 80, 81, 82, 83, 84, 85, 86, 87, 88, 89, 90, 91, 92, 93, 94, 95, 96, 97, 98, 99, 100, 101, 102, 103, 104, 105, 106, 107, 108, 109, 110, 111, 112, 113, 174, 175, 176, 177, 178, 179, 180, 181, 182, 183, 184, 185, 163, 164, 165, 166, 167, 168, 169, 170, 171, 172, 173] (by decide +kernel) (by decide +kernel)) (goodIn_sub (fun _ h => List.mem_cons_of_mem _ (List.mem_append_right _ h)) (by decide +kernel))) (goodIn_sub (fun _ h => List.mem_cons_of_mem _ (List.mem_append_left _ (List.mem_append_left _ (List.mem_append_right _ h)))) (by decide +kernel))) (goodIn_sub (fun _ h => List.mem_cons_of_mem _ (List.mem_append_left _ (List.mem_append_right _ h))) (by decide +kernel))
set_option maxRecDepth 20000 in
theorem gL_returns_L_grade : GoodIn wsL_returns (va_wsS RL 76 yL_grade wsL_grade) := goodIn_app (goodIn_of _ (by decide +kernel)) ggL_returns_L_grade
set_option maxRecDepth 20000 in
theorem ggL_returns_X2_day : GoodIn wsL_returns wsX2_day := goodIn_r _ [162, 130, 168, 169, 170, 171, 172, 173] (by decide +kernel) (by decide +kernel)
set_option maxRecDepth 20000 in
theorem gL_returns_X2_day : GoodIn wsL_returns (wsV RL 78 RX2 yX2_day wsX2_day) := goodIn_app (goodIn_of _ (by decide +kernel)) ggL_returns_X2_day
theorem dL_returns_0 : decode cL_returns 0 = .ok (.aload_n 0, 1) := by decide +kernel
theorem dL_returns_1 : decode cL_returns 1 = .ok (.iload_n 1, 1) := by decide +kernel
theorem dL_returns_2 : decode cL_returns 2 = .ok (.iload_n 2, 1) := by decide +kernel
theorem dL_returns_3 : decode cL_returns 3 = .ok (.invokevirtual 58, 3) := by decide +kernel
theorem dL_returns_6 : decode cL_returns 6 = .ok (.istore 4, 2) := by decide +kernel
theorem dL_returns_8 : decode cL_returns 8 = .ok (.iload_n 3, 1) := by decide +kernel
theorem dL_returns_9 : decode cL_returns 9 = .ok (.iconst 2, 1) := by decide +kernel
theorem dL_returns_10 : decode cL_returns 10 = .ok (.invokestatic 61, 3) := by decide +kernel
theorem dL_returns_13 : decode cL_returns 13 = .ok (.istore 5, 2) := by decide +kernel
theorem dL_returns_15 : decode cL_returns 15 = .ok (.iload 4, 2) := by decide +kernel
theorem dL_returns_17 : decode cL_returns 17 = .ok (.iconst 1, 1) := by decide +kernel
theorem dL_returns_18 : decode cL_returns 18 = .ok (.if_icmp .eq 9, 3) := by decide +kernel
theorem dL_returns_21 : decode cL_returns 21 = .ok (.iload 4, 2) := by decide +kernel
theorem dL_returns_23 : decode cL_returns 23 = .ok (.iconst 2, 1) := by decide +kernel
theorem dL_returns_24 : decode cL_returns 24 = .ok (.if_icmp .ne 159, 3) := by decide +kernel
theorem dL_returns_27 : decode cL_returns 27 = .ok (.aload_n 0, 1) := by decide +kernel
theorem dL_returns_28 : decode cL_returns 28 = .ok (.iload_n 1, 1) := by decide +kernel
theorem dL_returns_29 : decode cL_returns 29 = .ok (.invokestatic 46, 3) := by decide +kernel
theorem dL_returns_32 : decode cL_returns 32 = .ok (.istore 6, 2) := by decide +kernel
theorem dL_returns_34 : decode cL_returns 34 = .ok (.aload_n 0, 1) := by decide +kernel
theorem dL_returns_35 : decode cL_returns 35 = .ok (.iload_n 1, 1) := by decide +kernel
theorem dL_returns_36 : decode cL_returns 36 = .ok (.invokevirtual 52, 3) := by decide +kernel
theorem dL_returns_39 : decode cL_returns 39 = .ok (.istore 7, 2) := by decide +kernel
theorem dL_returns_41 : decode cL_returns 41 = .ok (.aload_n 0, 1) := by decide +kernel
theorem dL_returns_42 : decode cL_returns 42 = .ok (.iconst 0, 1) := by decide +kernel
theorem dL_returns_43 : decode cL_returns 43 = .ok (.invokevirtual 64, 3) := by decide +kernel
theorem dL_returns_46 : decode cL_returns 46 = .ok (.aload_n 0, 1) := by decide +kernel
theorem dL_returns_47 : decode cL_returns 47 = .ok (.iconst 1, 1) := by decide +kernel
theorem dL_returns_48 : decode cL_returns 48 = .ok (.invokevirtual 64, 3) := by decide +kernel
theorem dL_returns_51 : decode cL_returns 51 = .ok (.iadd, 1) := by decide +kernel
theorem dL_returns_52 : decode cL_returns 52 = .ok (.aload_n 0, 1) := by decide +kernel
theorem dL_returns_53 : decode cL_returns 53 = .ok (.iconst 2, 1) := by decide +kernel
theorem dL_returns_54 : decode cL_returns 54 = .ok (.invokevirtual 64, 3) := by decide +kernel
theorem dL_returns_57 : decode cL_returns 57 = .ok (.iadd, 1) := by decide +kernel
theorem dL_returns_58 : decode cL_returns 58 = .ok (.istore 8, 2) := by decide +kernel
theorem dL_returns_60 : decode cL_returns 60 = .ok (.iload_n 3, 1) := by decide +kernel
theorem dL_returns_61 : decode cL_returns 61 = .ok (.iconst 3, 1) := by decide +kernel
theorem dL_returns_62 : decode cL_returns 62 = .ok (.ishr, 1) := by decide +kernel
theorem dL_returns_63 : decode cL_returns 63 = .ok (.iconst 4, 1) := by decide +kernel
theorem dL_returns_64 : decode cL_returns 64 = .ok (.invokestatic 61, 3) := by decide +kernel
theorem dL_returns_67 : decode cL_returns 67 = .ok (.istore 9, 2) := by decide +kernel
theorem dL_returns_69 : decode cL_returns 69 = .ok (.aload_n 0, 1) := by decide +kernel
theorem dL_returns_70 : decode cL_returns 70 = .ok (.iload_n 1, 1) := by decide +kernel
theorem dL_returns_71 : decode cL_returns 71 = .ok (.iload_n 2, 1) := by decide +kernel
theorem dL_returns_72 : decode cL_returns 72 = .ok (.iload 9, 2) := by decide +kernel
theorem dL_returns_74 : decode cL_returns 74 = .ok (.invokevirtual 30, 3) := by decide +kernel
theorem dL_returns_77 : decode cL_returns 77 = .ok (.istore 10, 2) := by decide +kernel
theorem dL_returns_79 : decode cL_returns 79 = .ok (.iload 10, 2) := by decide +kernel
theorem dL_returns_81 : decode cL_returns 81 = .ok (.ifCond .lt 100, 3) := by decide +kernel
theorem dL_returns_84 : decode cL_returns 84 = .ok (.aload_n 0, 1) := by decide +kernel
theorem dL_returns_85 : decode cL_returns 85 = .ok (.iload_n 1, 1) := by decide +kernel
theorem dL_returns_86 : decode cL_returns 86 = .ok (.invokestatic 46, 3) := by decide +kernel
theorem dL_returns_89 : decode cL_returns 89 = .ok (.iload 6, 2) := by decide +kernel
theorem dL_returns_91 : decode cL_returns 91 = .ok (.iload 10, 2) := by decide +kernel
theorem dL_returns_93 : decode cL_returns 93 = .ok (.isub, 1) := by decide +kernel
theorem dL_returns_94 : decode cL_returns 94 = .ok (.if_icmp .ne 87, 3) := by decide +kernel
theorem dL_returns_97 : decode cL_returns 97 = .ok (.aload_n 0, 1) := by decide +kernel
theorem dL_returns_98 : decode cL_returns 98 = .ok (.iload_n 1, 1) := by decide +kernel
theorem dL_returns_99 : decode cL_returns 99 = .ok (.invokevirtual 52, 3) := by decide +kernel
theorem dL_returns_102 : decode cL_returns 102 = .ok (.iload 7, 2) := by decide +kernel
theorem dL_returns_104 : decode cL_returns 104 = .ok (.iload 10, 2) := by decide +kernel
theorem dL_returns_106 : decode cL_returns 106 = .ok (.iadd, 1) := by decide +kernel
theorem dL_returns_107 : decode cL_returns 107 = .ok (.if_icmp .ne 74, 3) := by decide +kernel
theorem dL_returns_110 : decode cL_returns 110 = .ok (.aload_n 0, 1) := by decide +kernel
theorem dL_returns_111 : decode cL_returns 111 = .ok (.iload_n 1, 1) := by decide +kernel
theorem dL_returns_112 : decode cL_returns 112 = .ok (.iload_n 2, 1) := by decide +kernel
theorem dL_returns_113 : decode cL_returns 113 = .ok (.invokevirtual 58, 3) := by decide +kernel
theorem dL_returns_116 : decode cL_returns 116 = .ok (.iload 4, 2) := by decide +kernel
theorem dL_returns_118 : decode cL_returns 118 = .ok (.iconst 1, 1) := by decide +kernel
theorem dL_returns_119 : decode cL_returns 119 = .ok (.if_icmp .ne 7, 3) := by decide +kernel
theorem dL_returns_122 : decode cL_returns 122 = .ok (.iconst 3, 1) := by decide +kernel
theorem dL_returns_123 : decode cL_returns 123 = .ok (.goto 4, 3) := by decide +kernel
theorem dL_returns_126 : decode cL_returns 126 = .ok (.iconst 0, 1) := by decide +kernel
theorem dL_returns_127 : decode cL_returns 127 = .ok (.if_icmp .ne 54, 3) := by decide +kernel
theorem dL_returns_130 : decode cL_returns 130 = .ok (.aload_n 0, 1) := by decide +kernel
theorem dL_returns_131 : decode cL_returns 131 = .ok (.iconst 0, 1) := by decide +kernel
theorem dL_returns_132 : decode cL_returns 132 = .ok (.invokevirtual 64, 3) := by decide +kernel
theorem dL_returns_135 : decode cL_returns 135 = .ok (.aload_n 0, 1) := by decide +kernel
theorem dL_returns_136 : decode cL_returns 136 = .ok (.iconst 1, 1) := by decide +kernel
theorem dL_returns_137 : decode cL_returns 137 = .ok (.invokevirtual 64, 3) := by decide +kernel
theorem dL_returns_140 : decode cL_returns 140 = .ok (.iadd, 1) := by decide +kernel
theorem dL_returns_141 : decode cL_returns 141 = .ok (.aload_n 0, 1) := by decide +kernel
theorem dL_returns_142 : decode cL_returns 142 = .ok (.iconst 2, 1) := by decide +kernel
theorem dL_returns_143 : decode cL_returns 143 = .ok (.invokevirtual 64, 3) := by decide +kernel
theorem dL_returns_146 : decode cL_returns 146 = .ok (.iadd, 1) := by decide +kernel
theorem dL_returns_147 : decode cL_returns 147 = .ok (.iload 8, 2) := by decide +kernel
theorem dL_returns_149 : decode cL_returns 149 = .ok (.iload 9, 2) := by decide +kernel
theorem dL_returns_151 : decode cL_returns 151 = .ok (.iconst 3, 1) := by decide +kernel
theorem dL_returns_152 : decode cL_returns 152 = .ok (.if_icmp .ne 7, 3) := by decide +kernel
theorem dL_returns_155 : decode cL_returns 155 = .ok (.iconst 0, 1) := by decide +kernel
theorem dL_returns_156 : decode cL_returns 156 = .ok (.goto 4, 3) := by decide +kernel
theorem dL_returns_159 : decode cL_returns 159 = .ok (.iconst 1, 1) := by decide +kernel
theorem dL_returns_160 : decode cL_returns 160 = .ok (.iadd, 1) := by decide +kernel
theorem dL_returns_161 : decode cL_returns 161 = .ok (.if_icmp .ne 20, 3) := by decide +kernel
theorem dL_returns_164 : decode cL_returns 164 = .ok (.iload 10, 2) := by decide +kernel
theorem dL_returns_166 : decode cL_returns 166 = .ok (.ifCond .eq 11, 3) := by decide +kernel
theorem dL_returns_169 : decode cL_returns 169 = .ok (.aload_n 0, 1) := by decide +kernel
theorem dL_returns_170 : decode cL_returns 170 = .ok (.iload_n 1, 1) := by decide +kernel
theorem dL_returns_171 : decode cL_returns 171 = .ok (.invokevirtual 55, 3) := by decide +kernel
theorem dL_returns_174 : decode cL_returns 174 = .ok (.ifCond .ne 7, 3) := by decide +kernel
theorem dL_returns_177 : decode cL_returns 177 = .ok (.iconst 1, 1) := by decide +kernel
theorem dL_returns_178 : decode cL_returns 178 = .ok (.goto 4, 3) := by decide +kernel
theorem dL_returns_181 : decode cL_returns 181 = .ok (.iconst 0, 1) := by decide +kernel
theorem dL_returns_182 : decode cL_returns 182 = .ok (.ireturn, 1) := by decide +kernel
theorem dL_returns_183 : decode cL_returns 183 = .ok (.aload_n 0, 1) := by decide +kernel
theorem dL_returns_184 : decode cL_returns 184 = .ok (.iload_n 1, 1) := by decide +kernel
theorem dL_returns_185 : decode cL_returns 185 = .ok (.iload_n 2, 1) := by decide +kernel
theorem dL_returns_186 : decode cL_returns 186 = .ok (.iload 5, 2) := by decide +kernel
theorem dL_returns_188 : decode cL_returns 188 = .ok (.invokevirtual 67, 3) := by decide +kernel
theorem dL_returns_191 : decode cL_returns 191 = .ok (.istore 6, 2) := by decide +kernel
theorem dL_returns_193 : decode cL_returns 193 = .ok (.iload_n 3, 1) := by decide +kernel
theorem dL_returns_194 : decode cL_returns 194 = .ok (.iconst 5, 1) := by decide +kernel
theorem dL_returns_195 : decode cL_returns 195 = .ok (.ishr, 1) := by decide +kernel
theorem dL_returns_196 : decode cL_returns 196 = .ok (.iconst 2, 1) := by decide +kernel
theorem dL_returns_197 : decode cL_returns 197 = .ok (.invokestatic 61, 3) := by decide +kernel
theorem dL_returns_200 : decode cL_returns 200 = .ok (.ifCond .ne 14, 3) := by decide +kernel
theorem dL_returns_203 : decode cL_returns 203 = .ok (.aload_n 0, 1) := by decide +kernel
theorem dL_returns_204 : decode cL_returns 204 = .ok (.iload_n 1, 1) := by decide +kernel
theorem dL_returns_205 : decode cL_returns 205 = .ok (.iload_n 2, 1) := by decide +kernel
theorem dL_returns_206 : decode cL_returns 206 = .ok (.iload 5, 2) := by decide +kernel
theorem dL_returns_208 : decode cL_returns 208 = .ok (.invokestatic 71, 3) := by decide +kernel
theorem dL_returns_211 : decode cL_returns 211 = .ok (.goto 11, 3) := by decide +kernel
theorem dL_returns_214 : decode cL_returns 214 = .ok (.aload_n 0, 1) := by decide +kernel
theorem dL_returns_215 : decode cL_returns 215 = .ok (.iload_n 1, 1) := by decide +kernel
theorem dL_returns_216 : decode cL_returns 216 = .ok (.iload_n 2, 1) := by decide +kernel
theorem dL_returns_217 : decode cL_returns 217 = .ok (.iload 5, 2) := by decide +kernel
theorem dL_returns_219 : decode cL_returns 219 = .ok (.invokestatic 74, 3) := by decide +kernel
theorem dL_returns_222 : decode cL_returns 222 = .ok (.istore 7, 2) := by decide +kernel
theorem dL_returns_224 : decode cL_returns 224 = .ok (.aload_n 0, 1) := by decide +kernel
theorem dL_returns_225 : decode cL_returns 225 = .ok (.iload_n 1, 1) := by decide +kernel
theorem dL_returns_226 : decode cL_returns 226 = .ok (.iload_n 2, 1) := by decide +kernel
theorem dL_returns_227 : decode cL_returns 227 = .ok (.iconst 0, 1) := by decide +kernel
theorem dL_returns_228 : decode cL_returns 228 = .ok (.invokestatic 76, 3) := by decide +kernel
theorem dL_returns_231 : decode cL_returns 231 = .ok (.bipush (-3), 2) := by decide +kernel
theorem dL_returns_233 : decode cL_returns 233 = .ok (.if_icmp .ne 7, 3) := by decide +kernel
theorem dL_returns_236 : decode cL_returns 236 = .ok (.iconst 1, 1) := by decide +kernel
theorem dL_returns_237 : decode cL_returns 237 = .ok (.goto 4, 3) := by decide +kernel
theorem dL_returns_240 : decode cL_returns 240 = .ok (.iconst 0, 1) := by decide +kernel
theorem dL_returns_241 : decode cL_returns 241 = .ok (.iload 6, 2) := by decide +kernel
theorem dL_returns_243 : decode cL_returns 243 = .ok (.ifCond .ne 7, 3) := by decide +kernel
theorem dL_returns_246 : decode cL_returns 246 = .ok (.iconst 1, 1) := by decide +kernel
theorem dL_returns_247 : decode cL_returns 247 = .ok (.goto 4, 3) := by decide +kernel
theorem dL_returns_250 : decode cL_returns 250 = .ok (.iconst 0, 1) := by decide +kernel
theorem dL_returns_251 : decode cL_returns 251 = .ok (.if_icmp .ne 45, 3) := by decide +kernel
theorem dL_returns_254 : decode cL_returns 254 = .ok (.iload 6, 2) := by decide +kernel
theorem dL_returns_256 : decode cL_returns 256 = .ok (.ifCond .eq 18, 3) := by decide +kernel
theorem dL_returns_259 : decode cL_returns 259 = .ok (.iload 7, 2) := by decide +kernel
theorem dL_returns_261 : decode cL_returns 261 = .ok (.aload_n 0, 1) := by decide +kernel
theorem dL_returns_262 : decode cL_returns 262 = .ok (.invokevirtual 78, 3) := by decide +kernel
theorem dL_returns_265 : decode cL_returns 265 = .ok (.bipush 21, 2) := by decide +kernel
theorem dL_returns_267 : decode cL_returns 267 = .ok (.iadd, 1) := by decide +kernel
theorem dL_returns_268 : decode cL_returns 268 = .ok (.if_icmp .ne 28, 3) := by decide +kernel
theorem dL_returns_271 : decode cL_returns 271 = .ok (.goto 21, 3) := by decide +kernel
theorem dL_returns_274 : decode cL_returns 274 = .ok (.iload 7, 2) := by decide +kernel
theorem dL_returns_276 : decode cL_returns 276 = .ok (.bipush (-3), 2) := by decide +kernel
theorem dL_returns_278 : decode cL_returns 278 = .ok (.if_icmp .ne 18, 3) := by decide +kernel
theorem dL_returns_281 : decode cL_returns 281 = .ok (.aload_n 0, 1) := by decide +kernel
theorem dL_returns_282 : decode cL_returns 282 = .ok (.iload_n 1, 1) := by decide +kernel
theorem dL_returns_283 : decode cL_returns 283 = .ok (.iload_n 2, 1) := by decide +kernel
theorem dL_returns_284 : decode cL_returns 284 = .ok (.invokevirtual 58, 3) := by decide +kernel
theorem dL_returns_287 : decode cL_returns 287 = .ok (.iload 4, 2) := by decide +kernel
theorem dL_returns_289 : decode cL_returns 289 = .ok (.if_icmp .ne 7, 3) := by decide +kernel
theorem dL_returns_292 : decode cL_returns 292 = .ok (.iconst 1, 1) := by decide +kernel
theorem dL_returns_293 : decode cL_returns 293 = .ok (.goto 4, 3) := by decide +kernel
theorem dL_returns_296 : decode cL_returns 296 = .ok (.iconst 0, 1) := by decide +kernel
theorem dL_returns_297 : decode cL_returns 297 = .ok (.ireturn, 1) := by decide +kernel
