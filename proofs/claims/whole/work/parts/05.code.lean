theorem dX3_priced_3 : decode cX3_priced 3 = .ok (.istore_n 3, 1) := by decide +kernel
theorem dX3_priced_4 : decode cX3_priced 4 = .ok (.iload_n 3, 1) := by decide +kernel
theorem dX3_priced_5 : decode cX3_priced 5 = .ok (.aload_n 0, 1) := by decide +kernel
theorem dX3_priced_6 : decode cX3_priced 6 = .ok (.getfield 16, 3) := by decide +kernel
theorem dX3_priced_9 : decode cX3_priced 9 = .ok (.iload_n 1, 1) := by decide +kernel
theorem dX3_priced_10 : decode cX3_priced 10 = .ok (.iaload, 1) := by decide +kernel
theorem dX3_priced_11 : decode cX3_priced 11 = .ok (.if_icmp .ge 42, 3) := by decide +kernel
theorem dX3_priced_14 : decode cX3_priced 14 = .ok (.iload_n 2, 1) := by decide +kernel
theorem dX3_priced_15 : decode cX3_priced 15 = .ok (.aload_n 0, 1) := by decide +kernel
theorem dX3_priced_16 : decode cX3_priced 16 = .ok (.getfield 40, 3) := by decide +kernel
theorem dX3_priced_19 : decode cX3_priced 19 = .ok (.bipush 8, 2) := by decide +kernel
theorem dX3_priced_21 : decode cX3_priced 21 = .ok (.iload_n 1, 1) := by decide +kernel
theorem dX3_priced_22 : decode cX3_priced 22 = .ok (.imul, 1) := by decide +kernel
theorem dX3_priced_23 : decode cX3_priced 23 = .ok (.iload_n 3, 1) := by decide +kernel
theorem dX3_priced_24 : decode cX3_priced 24 = .ok (.iadd, 1) := by decide +kernel
theorem dX3_priced_25 : decode cX3_priced 25 = .ok (.iaload, 1) := by decide +kernel
theorem dX3_priced_26 : decode cX3_priced 26 = .ok (.iconst 3, 1) := by decide +kernel
theorem dX3_priced_27 : decode cX3_priced 27 = .ok (.if_icmp .ne 7, 3) := by decide +kernel
theorem dX3_priced_30 : decode cX3_priced 30 = .ok (.iconst 0, 1) := by decide +kernel
theorem dX3_priced_31 : decode cX3_priced 31 = .ok (.goto 14, 3) := by decide +kernel
theorem dX3_priced_34 : decode cX3_priced 34 = .ok (.aload_n 0, 1) := by decide +kernel
theorem dX3_priced_35 : decode cX3_priced 35 = .ok (.getfield 34, 3) := by decide +kernel
theorem dX3_priced_38 : decode cX3_priced 38 = .ok (.bipush 8, 2) := by decide +kernel
theorem dX3_priced_40 : decode cX3_priced 40 = .ok (.iload_n 1, 1) := by decide +kernel
theorem dX3_priced_41 : decode cX3_priced 41 = .ok (.imul, 1) := by decide +kernel
theorem dX3_priced_42 : decode cX3_priced 42 = .ok (.iload_n 3, 1) := by decide +kernel
theorem dX3_priced_43 : decode cX3_priced 43 = .ok (.iadd, 1) := by decide +kernel
theorem dX3_priced_44 : decode cX3_priced 44 = .ok (.iaload, 1) := by decide +kernel
theorem dX3_priced_45 : decode cX3_priced 45 = .ok (.iadd, 1) := by decide +kernel
theorem dX3_priced_46 : decode cX3_priced 46 = .ok (.istore_n 2, 1) := by decide +kernel
theorem dX3_priced_47 : decode cX3_priced 47 = .ok (.iinc 3 1, 3) := by decide +kernel
theorem dX3_priced_50 : decode cX3_priced 50 = .ok (.goto (-46), 3) := by decide +kernel
theorem dX3_priced_53 : decode cX3_priced 53 = .ok (.iload_n 2, 1) := by decide +kernel
theorem dX3_priced_54 : decode cX3_priced 54 = .ok (.aload_n 0, 1) := by decide +kernel
theorem dX3_priced_55 : decode cX3_priced 55 = .ok (.getfield 13, 3) := by decide +kernel
theorem dX3_priced_58 : decode cX3_priced 58 = .ok (.iload_n 1, 1) := by decide +kernel
theorem dX3_priced_59 : decode cX3_priced 59 = .ok (.iaload, 1) := by decide +kernel
theorem dX3_priced_60 : decode cX3_priced 60 = .ok (.if_icmp .lt 19, 3) := by decide +kernel
theorem dX3_priced_63 : decode cX3_priced 63 = .ok (.iload_n 2, 1) := by decide +kernel
theorem dX3_priced_64 : decode cX3_priced 64 = .ok (.iload_n 2, 1) := by decide +kernel
theorem dX3_priced_65 : decode cX3_priced 65 = .ok (.aload_n 0, 1) := by decide +kernel
theorem dX3_priced_66 : decode cX3_priced 66 = .ok (.getfield 7, 3) := by decide +kernel
theorem dX3_priced_69 : decode cX3_priced 69 = .ok (.iload_n 1, 1) := by decide +kernel
theorem dX3_priced_70 : decode cX3_priced 70 = .ok (.iaload, 1) := by decide +kernel
theorem dX3_priced_71 : decode cX3_priced 71 = .ok (.imul, 1) := by decide +kernel
theorem dX3_priced_72 : decode cX3_priced 72 = .ok (.bipush 100, 2) := by decide +kernel
theorem dX3_priced_74 : decode cX3_priced 74 = .ok (.idiv, 1) := by decide +kernel
theorem dX3_priced_75 : decode cX3_priced 75 = .ok (.isub, 1) := by decide +kernel
theorem dX3_priced_76 : decode cX3_priced 76 = .ok (.goto 4, 3) := by decide +kernel
theorem dX3_priced_79 : decode cX3_priced 79 = .ok (.iload_n 2, 1) := by decide +kernel
theorem dX3_priced_80 : decode cX3_priced 80 = .ok (.ireturn, 1) := by decide +kernel
theorem dX3_least_0 : decode cX3_least 0 = .ok (.iload_n 0, 1) := by decide +kernel
theorem dX3_least_1 : decode cX3_least 1 = .ok (.iload_n 1, 1) := by decide +kernel
theorem dX3_least_2 : decode cX3_least 2 = .ok (.if_icmp .ge 7, 3) := by decide +kernel
theorem dX3_least_5 : decode cX3_least 5 = .ok (.iload_n 0, 1) := by decide +kernel
theorem dX3_least_6 : decode cX3_least 6 = .ok (.goto 4, 3) := by decide +kernel
theorem dX3_least_9 : decode cX3_least 9 = .ok (.iload_n 1, 1) := by decide +kernel
theorem dX3_least_10 : decode cX3_least 10 = .ok (.ireturn, 1) := by decide +kernel
set_option maxRecDepth 20000 in
theorem ggX3_pay_X3_isOrder : GoodIn wsX3_pay wsX3_isOrder := goodIn_r _ [10, 11, 12, 13, 14, 9, 15, 31, 32, 33, 34, 35, 36, 37, 38, 39, 40, 41, 42, 43, 44, 45, 46, 47] (by decide +kernel) (by decide +kernel)
set_option maxRecDepth 20000 in
theorem gX3_pay_X3_isOrder : GoodIn wsX3_pay (wsV RX3 64 RX3 yX3_isOrder wsX3_isOrder) := goodIn_app (goodIn_of _ (by decide +kernel)) ggX3_pay_X3_isOrder
set_option maxRecDepth 20000 in
theorem ggX3_pay_X3_in : GoodIn wsX3_pay wsX3_in := goodIn_r _ [15] (by decide +kernel) (by decide +kernel)
set_option maxRecDepth 20000 in
theorem gX3_pay_X3_in : GoodIn wsX3_pay (va_wsS RX3 59 yX3_in wsX3_in) := goodIn_app (goodIn_of _ (by decide +kernel)) ggX3_pay_X3_in
set_option maxRecDepth 20000 in
theorem ggX3_pay_X3_fails : GoodIn wsX3_pay wsX3_fails := goodIn_r _ [19, 12, 31, 32, 33, 34, 35, 36, 37, 38, 39, 40, 41, 42, 43, 44, 45, 46, 47] (by decide +kernel) (by decide +kernel)
set_option maxRecDepth 20000 in
theorem gX3_pay_X3_fails : GoodIn wsX3_pay (wsV RX3 69 RX3 yX3_fails wsX3_fails) := goodIn_app (goodIn_of _ (by decide +kernel)) ggX3_pay_X3_fails
set_option maxRecDepth 20000 in
theorem ggX3_pay_X3_priced : GoodIn wsX3_pay wsX3_priced := goodIn_r _ [23, 3, 24, 25, 26, 27, 31, 32, 33, 34, 35, 36, 37, 38, 39, 40, 41, 42, 43, 44, 45, 46, 47] (by decide +kernel) (by decide +kernel)
set_option maxRecDepth 20000 in
theorem gX3_pay_X3_priced : GoodIn wsX3_pay (wsV RX3 73 RX3 yX3_priced wsX3_priced) := goodIn_app (goodIn_of _ (by decide +kernel)) ggX3_pay_X3_priced
set_option maxRecDepth 20000 in
theorem ggX3_pay_X3_least : GoodIn wsX3_pay wsX3_least := goodIn_r _ [30] (by decide +kernel) (by decide +kernel)
set_option maxRecDepth 20000 in
theorem gX3_pay_X3_least : GoodIn wsX3_pay (va_wsS RX3 76 yX3_least wsX3_least) := goodIn_app (goodIn_of _ (by decide +kernel)) ggX3_pay_X3_least
theorem dX3_pay_0 : decode cX3_pay 0 = .ok (.aload_n 0, 1) := by decide +kernel
theorem dX3_pay_1 : decode cX3_pay 1 = .ok (.iload_n 1, 1) := by decide +kernel
theorem dX3_pay_2 : decode cX3_pay 2 = .ok (.invokevirtual 64, 3) := by decide +kernel
theorem dX3_pay_5 : decode cX3_pay 5 = .ok (.ifCond .ne 5, 3) := by decide +kernel
theorem dX3_pay_8 : decode cX3_pay 8 = .ok (.iconst 0, 1) := by decide +kernel
theorem dX3_pay_9 : decode cX3_pay 9 = .ok (.ireturn, 1) := by decide +kernel
theorem dX3_pay_10 : decode cX3_pay 10 = .ok (.iload_n 2, 1) := by decide +kernel
theorem dX3_pay_11 : decode cX3_pay 11 = .ok (.iconst 0, 1) := by decide +kernel
theorem dX3_pay_12 : decode cX3_pay 12 = .ok (.ldc 63, 2) := by decide +kernel
theorem dX3_pay_14 : decode cX3_pay 14 = .ok (.invokestatic 59, 3) := by decide +kernel
theorem dX3_pay_17 : decode cX3_pay 17 = .ok (.ifCond .eq 13, 3) := by decide +kernel
theorem dX3_pay_20 : decode cX3_pay 20 = .ok (.iload_n 3, 1) := by decide +kernel
theorem dX3_pay_21 : decode cX3_pay 21 = .ok (.iconst 0, 1) := by decide +kernel
theorem dX3_pay_22 : decode cX3_pay 22 = .ok (.ldc 63, 2) := by decide +kernel
theorem dX3_pay_24 : decode cX3_pay 24 = .ok (.invokestatic 59, 3) := by decide +kernel
theorem dX3_pay_27 : decode cX3_pay 27 = .ok (.ifCond .ne 9, 3) := by decide +kernel
theorem dX3_pay_30 : decode cX3_pay 30 = .ok (.aload_n 0, 1) := by decide +kernel
theorem dX3_pay_31 : decode cX3_pay 31 = .ok (.iconst 2, 1) := by decide +kernel
theorem dX3_pay_32 : decode cX3_pay 32 = .ok (.invokevirtual 69, 3) := by decide +kernel
theorem dX3_pay_35 : decode cX3_pay 35 = .ok (.ireturn, 1) := by decide +kernel
theorem dX3_pay_36 : decode cX3_pay 36 = .ok (.aload_n 0, 1) := by decide +kernel
theorem dX3_pay_37 : decode cX3_pay 37 = .ok (.getfield 19, 3) := by decide +kernel
theorem dX3_pay_40 : decode cX3_pay 40 = .ok (.iload_n 1, 1) := by decide +kernel
theorem dX3_pay_41 : decode cX3_pay 41 = .ok (.iaload, 1) := by decide +kernel
theorem dX3_pay_42 : decode cX3_pay 42 = .ok (.ifCond .gt 12, 3) := by decide +kernel
theorem dX3_pay_45 : decode cX3_pay 45 = .ok (.aload_n 0, 1) := by decide +kernel
theorem dX3_pay_46 : decode cX3_pay 46 = .ok (.getfield 16, 3) := by decide +kernel
theorem dX3_pay_49 : decode cX3_pay 49 = .ok (.iload_n 1, 1) := by decide +kernel
theorem dX3_pay_50 : decode cX3_pay 50 = .ok (.iaload, 1) := by decide +kernel
theorem dX3_pay_51 : decode cX3_pay 51 = .ok (.ifCond .ne 9, 3) := by decide +kernel
theorem dX3_pay_54 : decode cX3_pay 54 = .ok (.aload_n 0, 1) := by decide +kernel
theorem dX3_pay_55 : decode cX3_pay 55 = .ok (.iconst 3, 1) := by decide +kernel
theorem dX3_pay_56 : decode cX3_pay 56 = .ok (.invokevirtual 69, 3) := by decide +kernel
theorem dX3_pay_59 : decode cX3_pay 59 = .ok (.ireturn, 1) := by decide +kernel
theorem dX3_pay_60 : decode cX3_pay 60 = .ok (.aload_n 0, 1) := by decide +kernel
theorem dX3_pay_61 : decode cX3_pay 61 = .ok (.iload_n 1, 1) := by decide +kernel
theorem dX3_pay_62 : decode cX3_pay 62 = .ok (.invokevirtual 73, 3) := by decide +kernel
theorem dX3_pay_65 : decode cX3_pay 65 = .ok (.istore 4, 2) := by decide +kernel
theorem dX3_pay_67 : decode cX3_pay 67 = .ok (.aload_n 0, 1) := by decide +kernel
theorem dX3_pay_68 : decode cX3_pay 68 = .ok (.getfield 31, 3) := by decide +kernel
theorem dX3_pay_71 : decode cX3_pay 71 = .ok (.iconst 3, 1) := by decide +kernel
theorem dX3_pay_72 : decode cX3_pay 72 = .ok (.iload_n 1, 1) := by decide +kernel
theorem dX3_pay_73 : decode cX3_pay 73 = .ok (.imul, 1) := by decide +kernel
theorem dX3_pay_74 : decode cX3_pay 74 = .ok (.iconst 2, 1) := by decide +kernel
theorem dX3_pay_75 : decode cX3_pay 75 = .ok (.iadd, 1) := by decide +kernel
theorem dX3_pay_76 : decode cX3_pay 76 = .ok (.iload_n 2, 1) := by decide +kernel
theorem dX3_pay_77 : decode cX3_pay 77 = .ok (.iload 4, 2) := by decide +kernel
theorem dX3_pay_79 : decode cX3_pay 79 = .ok (.invokestatic 76, 3) := by decide +kernel
theorem dX3_pay_82 : decode cX3_pay 82 = .ok (.iastore, 1) := by decide +kernel
theorem dX3_pay_83 : decode cX3_pay 83 = .ok (.iload 4, 2) := by decide +kernel
theorem dX3_pay_85 : decode cX3_pay 85 = .ok (.aload_n 0, 1) := by decide +kernel
theorem dX3_pay_86 : decode cX3_pay 86 = .ok (.getfield 31, 3) := by decide +kernel
theorem dX3_pay_89 : decode cX3_pay 89 = .ok (.iconst 3, 1) := by decide +kernel
theorem dX3_pay_90 : decode cX3_pay 90 = .ok (.iload_n 1, 1) := by decide +kernel
theorem dX3_pay_91 : decode cX3_pay 91 = .ok (.imul, 1) := by decide +kernel
theorem dX3_pay_92 : decode cX3_pay 92 = .ok (.iconst 2, 1) := by decide +kernel
theorem dX3_pay_93 : decode cX3_pay 93 = .ok (.iadd, 1) := by decide +kernel
theorem dX3_pay_94 : decode cX3_pay 94 = .ok (.iaload, 1) := by decide +kernel
theorem dX3_pay_95 : decode cX3_pay 95 = .ok (.isub, 1) := by decide +kernel
theorem dX3_pay_96 : decode cX3_pay 96 = .ok (.istore 4, 2) := by decide +kernel
theorem dX3_pay_98 : decode cX3_pay 98 = .ok (.aload_n 0, 1) := by decide +kernel
theorem dX3_pay_99 : decode cX3_pay 99 = .ok (.getfield 31, 3) := by decide +kernel
theorem dX3_pay_102 : decode cX3_pay 102 = .ok (.iconst 3, 1) := by decide +kernel
theorem dX3_pay_103 : decode cX3_pay 103 = .ok (.iload_n 1, 1) := by decide +kernel
theorem dX3_pay_104 : decode cX3_pay 104 = .ok (.imul, 1) := by decide +kernel
theorem dX3_pay_105 : decode cX3_pay 105 = .ok (.iconst 1, 1) := by decide +kernel
theorem dX3_pay_106 : decode cX3_pay 106 = .ok (.iadd, 1) := by decide +kernel
theorem dX3_pay_107 : decode cX3_pay 107 = .ok (.iload_n 3, 1) := by decide +kernel
theorem dX3_pay_108 : decode cX3_pay 108 = .ok (.iload 4, 2) := by decide +kernel
theorem dX3_pay_110 : decode cX3_pay 110 = .ok (.invokestatic 76, 3) := by decide +kernel
theorem dX3_pay_113 : decode cX3_pay 113 = .ok (.iastore, 1) := by decide +kernel
theorem dX3_pay_114 : decode cX3_pay 114 = .ok (.aload_n 0, 1) := by decide +kernel
theorem dX3_pay_115 : decode cX3_pay 115 = .ok (.getfield 31, 3) := by decide +kernel
theorem dX3_pay_118 : decode cX3_pay 118 = .ok (.iconst 3, 1) := by decide +kernel
theorem dX3_pay_119 : decode cX3_pay 119 = .ok (.iload_n 1, 1) := by decide +kernel
theorem dX3_pay_120 : decode cX3_pay 120 = .ok (.imul, 1) := by decide +kernel
theorem dX3_pay_121 : decode cX3_pay 121 = .ok (.iload 4, 2) := by decide +kernel
theorem dX3_pay_123 : decode cX3_pay 123 = .ok (.aload_n 0, 1) := by decide +kernel
theorem dX3_pay_124 : decode cX3_pay 124 = .ok (.getfield 31, 3) := by decide +kernel
theorem dX3_pay_127 : decode cX3_pay 127 = .ok (.iconst 3, 1) := by decide +kernel
theorem dX3_pay_128 : decode cX3_pay 128 = .ok (.iload_n 1, 1) := by decide +kernel
theorem dX3_pay_129 : decode cX3_pay 129 = .ok (.imul, 1) := by decide +kernel
theorem dX3_pay_130 : decode cX3_pay 130 = .ok (.iconst 1, 1) := by decide +kernel
theorem dX3_pay_131 : decode cX3_pay 131 = .ok (.iadd, 1) := by decide +kernel
theorem dX3_pay_132 : decode cX3_pay 132 = .ok (.iaload, 1) := by decide +kernel
theorem dX3_pay_133 : decode cX3_pay 133 = .ok (.isub, 1) := by decide +kernel
theorem dX3_pay_134 : decode cX3_pay 134 = .ok (.iastore, 1) := by decide +kernel
theorem dX3_pay_135 : decode cX3_pay 135 = .ok (.aload_n 0, 1) := by decide +kernel
theorem dX3_pay_136 : decode cX3_pay 136 = .ok (.getfield 19, 3) := by decide +kernel
theorem dX3_pay_139 : decode cX3_pay 139 = .ok (.iload_n 1, 1) := by decide +kernel
theorem dX3_pay_140 : decode cX3_pay 140 = .ok (.aload_n 0, 1) := by decide +kernel
theorem dX3_pay_141 : decode cX3_pay 141 = .ok (.getfield 80, 3) := by decide +kernel
theorem dX3_pay_144 : decode cX3_pay 144 = .ok (.iconst 1, 1) := by decide +kernel
theorem dX3_pay_145 : decode cX3_pay 145 = .ok (.iadd, 1) := by decide +kernel
theorem dX3_pay_146 : decode cX3_pay 146 = .ok (.iastore, 1) := by decide +kernel
theorem dX3_pay_147 : decode cX3_pay 147 = .ok (.aload_n 0, 1) := by decide +kernel
theorem dX3_pay_148 : decode cX3_pay 148 = .ok (.getfield 31, 3) := by decide +kernel
theorem dX3_pay_151 : decode cX3_pay 151 = .ok (.iconst 3, 1) := by decide +kernel
theorem dX3_pay_152 : decode cX3_pay 152 = .ok (.iload_n 1, 1) := by decide +kernel
theorem dX3_pay_153 : decode cX3_pay 153 = .ok (.imul, 1) := by decide +kernel
theorem dX3_pay_154 : decode cX3_pay 154 = .ok (.iaload, 1) := by decide +kernel
theorem dX3_pay_155 : decode cX3_pay 155 = .ok (.ireturn, 1) := by decide +kernel
theorem dX3_orders_0 : decode cX3_orders 0 = .ok (.aload_n 0, 1) := by decide +kernel
theorem dX3_orders_1 : decode cX3_orders 1 = .ok (.iconst 0, 1) := by decide +kernel
theorem dX3_orders_2 : decode cX3_orders 2 = .ok (.putfield 52, 3) := by decide +kernel
theorem dX3_orders_5 : decode cX3_orders 5 = .ok (.aload_n 0, 1) := by decide +kernel
theorem dX3_orders_6 : decode cX3_orders 6 = .ok (.getfield 56, 3) := by decide +kernel
theorem dX3_orders_9 : decode cX3_orders 9 = .ok (.ireturn, 1) := by decide +kernel
theorem dX3_may_0 : decode cX3_may 0 = .ok (.bipush 8, 2) := by decide +kernel
theorem dX3_may_2 : decode cX3_may 2 = .ok (.iload_n 1, 1) := by decide +kernel
theorem dX3_may_3 : decode cX3_may 3 = .ok (.imul, 1) := by decide +kernel
theorem dX3_may_4 : decode cX3_may 4 = .ok (.iload_n 2, 1) := by decide +kernel
theorem dX3_may_5 : decode cX3_may 5 = .ok (.iadd, 1) := by decide +kernel
theorem dX3_may_6 : decode cX3_may 6 = .ok (.istore 4, 2) := by decide +kernel
theorem dX3_may_8 : decode cX3_may 8 = .ok (.aload_n 0, 1) := by decide +kernel
theorem dX3_may_9 : decode cX3_may 9 = .ok (.getfield 80, 3) := by decide +kernel
theorem dX3_may_12 : decode cX3_may 12 = .ok (.aload_n 0, 1) := by decide +kernel
theorem dX3_may_13 : decode cX3_may 13 = .ok (.getfield 19, 3) := by decide +kernel
theorem dX3_may_16 : decode cX3_may 16 = .ok (.iload_n 1, 1) := by decide +kernel
theorem dX3_may_17 : decode cX3_may 17 = .ok (.iaload, 1) := by decide +kernel
theorem dX3_may_18 : decode cX3_may 18 = .ok (.isub, 1) := by decide +kernel
theorem dX3_may_19 : decode cX3_may 19 = .ok (.iconst 1, 1) := by decide +kernel
theorem dX3_may_20 : decode cX3_may 20 = .ok (.iadd, 1) := by decide +kernel
theorem dX3_may_21 : decode cX3_may 21 = .ok (.istore 5, 2) := by decide +kernel
theorem dX3_may_23 : decode cX3_may 23 = .ok (.iload_n 3, 1) := by decide +kernel
theorem dX3_may_24 : decode cX3_may 24 = .ok (.iconst 1, 1) := by decide +kernel
theorem dX3_may_25 : decode cX3_may 25 = .ok (.if_icmp .ne 9, 3) := by decide +kernel
theorem dX3_may_28 : decode cX3_may 28 = .ok (.sipush 360, 3) := by decide +kernel
theorem dX3_may_31 : decode cX3_may 31 = .ok (.goto 35, 3) := by decide +kernel
theorem dX3_may_34 : decode cX3_may 34 = .ok (.aload_n 0, 1) := by decide +kernel
theorem dX3_may_35 : decode cX3_may 35 = .ok (.getfield 37, 3) := by decide +kernel
theorem dX3_may_38 : decode cX3_may 38 = .ok (.iload 4, 2) := by decide +kernel
theorem dX3_may_40 : decode cX3_may 40 = .ok (.iaload, 1) := by decide +kernel
theorem dX3_may_41 : decode cX3_may 41 = .ok (.ifCond .ne 8, 3) := by decide +kernel
theorem dX3_may_44 : decode cX3_may 44 = .ok (.bipush 30, 2) := by decide +kernel
theorem dX3_may_46 : decode cX3_may 46 = .ok (.goto 20, 3) := by decide +kernel
theorem dX3_may_49 : decode cX3_may 49 = .ok (.aload_n 0, 1) := by decide +kernel
theorem dX3_may_50 : decode cX3_may 50 = .ok (.getfield 37, 3) := by decide +kernel
theorem dX3_may_53 : decode cX3_may 53 = .ok (.iload 4, 2) := by decide +kernel
theorem dX3_may_55 : decode cX3_may 55 = .ok (.iaload, 1) := by decide +kernel
theorem dX3_may_56 : decode cX3_may 56 = .ok (.iconst 1, 1) := by decide +kernel
theorem dX3_may_57 : decode cX3_may 57 = .ok (.if_icmp .ne 8, 3) := by decide +kernel
theorem dX3_may_60 : decode cX3_may 60 = .ok (.bipush 14, 2) := by decide +kernel
theorem dX3_may_62 : decode cX3_may 62 = .ok (.goto 4, 3) := by decide +kernel
theorem dX3_may_65 : decode cX3_may 65 = .ok (.iconst (-1), 1) := by decide +kernel
theorem dX3_may_66 : decode cX3_may 66 = .ok (.istore 6, 2) := by decide +kernel
theorem dX3_may_68 : decode cX3_may 68 = .ok (.aload_n 0, 1) := by decide +kernel
theorem dX3_may_69 : decode cX3_may 69 = .ok (.getfield 19, 3) := by decide +kernel
theorem dX3_may_72 : decode cX3_may 72 = .ok (.iload_n 1, 1) := by decide +kernel
theorem dX3_may_73 : decode cX3_may 73 = .ok (.iaload, 1) := by decide +kernel
theorem dX3_may_74 : decode cX3_may 74 = .ok (.ifCond .le 24, 3) := by decide +kernel
theorem dX3_may_77 : decode cX3_may 77 = .ok (.aload_n 0, 1) := by decide +kernel
theorem dX3_may_78 : decode cX3_may 78 = .ok (.getfield 40, 3) := by decide +kernel
theorem dX3_may_81 : decode cX3_may 81 = .ok (.iload 4, 2) := by decide +kernel
theorem dX3_may_83 : decode cX3_may 83 = .ok (.iaload, 1) := by decide +kernel
theorem dX3_may_84 : decode cX3_may 84 = .ok (.ifCond .ne 14, 3) := by decide +kernel
theorem dX3_may_87 : decode cX3_may 87 = .ok (.iload 5, 2) := by decide +kernel
theorem dX3_may_89 : decode cX3_may 89 = .ok (.iload 6, 2) := by decide +kernel
theorem dX3_may_91 : decode cX3_may 91 = .ok (.if_icmp .gt 7, 3) := by decide +kernel
theorem dX3_may_94 : decode cX3_may 94 = .ok (.iconst 1, 1) := by decide +kernel
theorem dX3_may_95 : decode cX3_may 95 = .ok (.goto 4, 3) := by decide +kernel
theorem dX3_may_98 : decode cX3_may 98 = .ok (.iconst 0, 1) := by decide +kernel
theorem dX3_may_99 : decode cX3_may 99 = .ok (.ireturn, 1) := by decide +kernel
set_option maxRecDepth 20000 in
theorem ggX3_isReason_X3_isLine : GoodIn wsX3_isReason wsX3_isLine := goodIn_r _ [6, 7, 8, 1, 9, 10, 5, 11, 12, 13, 14, 15, 16, 17, 18, 19, 20, 21, 22, 23, 24, 25, 26, 27, 28] (by decide +kernel) (by decide +kernel)
set_option maxRecDepth 20000 in
theorem gX3_isReason_X3_isLine : GoodIn wsX3_isReason (wsV RX3 83 RX3 yX3_isLine wsX3_isLine) := goodIn_app (goodIn_of _ (by decide +kernel)) ggX3_isReason_X3_isLine
set_option maxRecDepth 20000 in
theorem ggX3_isReason_X3_in : GoodIn wsX3_isReason wsX3_in := goodIn_r _ [11] (by decide +kernel) (by decide +kernel)
set_option maxRecDepth 20000 in
theorem gX3_isReason_X3_in : GoodIn wsX3_isReason (va_wsS RX3 59 yX3_in wsX3_in) := goodIn_app (goodIn_of _ (by decide +kernel)) ggX3_isReason_X3_in
theorem dX3_isReason_0 : decode cX3_isReason 0 = .ok (.aload_n 0, 1) := by decide +kernel
theorem dX3_isReason_1 : decode cX3_isReason 1 = .ok (.iload_n 1, 1) := by decide +kernel
theorem dX3_isReason_2 : decode cX3_isReason 2 = .ok (.iload_n 2, 1) := by decide +kernel
theorem dX3_isReason_3 : decode cX3_isReason 3 = .ok (.invokevirtual 83, 3) := by decide +kernel
theorem dX3_isReason_6 : decode cX3_isReason 6 = .ok (.ifCond .eq 21, 3) := by decide +kernel
theorem dX3_isReason_9 : decode cX3_isReason 9 = .ok (.aload_n 0, 1) := by decide +kernel
theorem dX3_isReason_10 : decode cX3_isReason 10 = .ok (.iload_n 3, 1) := by decide +kernel
theorem dX3_isReason_11 : decode cX3_isReason 11 = .ok (.iconst 0, 1) := by decide +kernel
theorem dX3_isReason_12 : decode cX3_isReason 12 = .ok (.iconst 1, 1) := by decide +kernel
theorem dX3_isReason_13 : decode cX3_isReason 13 = .ok (.invokestatic 59, 3) := by decide +kernel
theorem dX3_isReason_16 : decode cX3_isReason 16 = .ok (.ifCond .eq 7, 3) := by decide +kernel
theorem dX3_isReason_19 : decode cX3_isReason 19 = .ok (.iconst 0, 1) := by decide +kernel
theorem dX3_isReason_20 : decode cX3_isReason 20 = .ok (.goto 4, 3) := by decide +kernel
theorem dX3_isReason_23 : decode cX3_isReason 23 = .ok (.iconst 2, 1) := by decide +kernel
theorem dX3_isReason_24 : decode cX3_isReason 24 = .ok (.putfield 52, 3) := by decide +kernel
theorem dX3_isReason_27 : decode cX3_isReason 27 = .ok (.aload_n 0, 1) := by decide +kernel
theorem dX3_isReason_28 : decode cX3_isReason 28 = .ok (.getfield 52, 3) := by decide +kernel
theorem dX3_isReason_31 : decode cX3_isReason 31 = .ok (.ifCond .ne 7, 3) := by decide +kernel
theorem dX3_isReason_34 : decode cX3_isReason 34 = .ok (.iconst 1, 1) := by decide +kernel
theorem dX3_isReason_35 : decode cX3_isReason 35 = .ok (.goto 4, 3) := by decide +kernel
theorem dX3_isReason_38 : decode cX3_isReason 38 = .ok (.iconst 0, 1) := by decide +kernel
theorem dX3_isReason_39 : decode cX3_isReason 39 = .ok (.ireturn, 1) := by decide +kernel
set_option maxRecDepth 20000 in
theorem ggX3_mayComeBack_X3_isReason : GoodIn wsX3_mayComeBack wsX3_isReason := goodIn_r _ [5, 6, 7, 8, 9, 4, 10, 11, 12, 13, 14, 15, 24, 25, 26, 27, 28, 29, 30, 31, 32, 33, 34, 35, 36, 37, 38, 39, 40] (by decide +kernel) (by decide +kernel)
set_option maxRecDepth 20000 in
theorem gX3_mayComeBack_X3_isReason : GoodIn wsX3_mayComeBack (wsV RX3 87 RX3 yX3_isReason wsX3_isReason) := goodIn_app (goodIn_of _ (by decide +kernel)) ggX3_mayComeBack_X3_isReason
set_option maxRecDepth 20000 in
theorem ggX3_mayComeBack_X3_may : GoodIn wsX3_mayComeBack wsX3_may := goodIn_r _ [19, 20, 21, 22, 23, 24, 25, 26, 27, 28, 29, 30, 31, 32, 33, 34, 35, 36, 37, 38, 39, 40] (by decide +kernel) (by decide +kernel)
set_option maxRecDepth 20000 in
theorem gX3_mayComeBack_X3_may : GoodIn wsX3_mayComeBack (wsV RX3 90 RX3 yX3_may wsX3_may) := goodIn_app (goodIn_of _ (by decide +kernel)) ggX3_mayComeBack_X3_may
theorem dX3_mayComeBack_0 : decode cX3_mayComeBack 0 = .ok (.aload_n 0, 1) := by decide +kernel
theorem dX3_mayComeBack_1 : decode cX3_mayComeBack 1 = .ok (.iload_n 1, 1) := by decide +kernel
theorem dX3_mayComeBack_2 : decode cX3_mayComeBack 2 = .ok (.iload_n 2, 1) := by decide +kernel
theorem dX3_mayComeBack_3 : decode cX3_mayComeBack 3 = .ok (.iload_n 3, 1) := by decide +kernel
theorem dX3_mayComeBack_4 : decode cX3_mayComeBack 4 = .ok (.invokevirtual 87, 3) := by decide +kernel
theorem dX3_mayComeBack_7 : decode cX3_mayComeBack 7 = .ok (.ifCond .eq 17, 3) := by decide +kernel
theorem dX3_mayComeBack_10 : decode cX3_mayComeBack 10 = .ok (.aload_n 0, 1) := by decide +kernel
theorem dX3_mayComeBack_11 : decode cX3_mayComeBack 11 = .ok (.iload_n 1, 1) := by decide +kernel
theorem dX3_mayComeBack_12 : decode cX3_mayComeBack 12 = .ok (.iload_n 2, 1) := by decide +kernel
theorem dX3_mayComeBack_13 : decode cX3_mayComeBack 13 = .ok (.iload_n 3, 1) := by decide +kernel
theorem dX3_mayComeBack_14 : decode cX3_mayComeBack 14 = .ok (.invokevirtual 90, 3) := by decide +kernel
theorem dX3_mayComeBack_17 : decode cX3_mayComeBack 17 = .ok (.ifCond .eq 7, 3) := by decide +kernel
theorem dX3_mayComeBack_20 : decode cX3_mayComeBack 20 = .ok (.iconst 1, 1) := by decide +kernel
theorem dX3_mayComeBack_21 : decode cX3_mayComeBack 21 = .ok (.goto 4, 3) := by decide +kernel
theorem dX3_mayComeBack_24 : decode cX3_mayComeBack 24 = .ok (.iconst 0, 1) := by decide +kernel
theorem dX3_mayComeBack_25 : decode cX3_mayComeBack 25 = .ok (.ireturn, 1) := by decide +kernel
set_option maxRecDepth 20000 in
theorem ggX3_waits_X3_isReason : GoodIn wsX3_waits wsX3_isReason := goodIn_r _ [9, 10, 11, 12, 13, 8, 14, 15, 16, 17, 18, 19, 30, 31, 32, 33, 34, 35, 36, 37, 38, 39, 40, 41, 42, 43, 44, 45, 46] (by decide +kernel) (by decide +kernel)
set_option maxRecDepth 20000 in
theorem gX3_waits_X3_isReason : GoodIn wsX3_waits (wsV RX3 87 RX3 yX3_isReason wsX3_isReason) := goodIn_app (goodIn_of _ (by decide +kernel)) ggX3_waits_X3_isReason
set_option maxRecDepth 20000 in
theorem ggX3_waits_X3_may : GoodIn wsX3_waits wsX3_may := goodIn_r _ [23, 4, 24, 25, 1, 30, 31, 32, 33, 34, 35, 36, 37, 38, 39, 40, 41, 42, 43, 44, 45, 46] (by decide +kernel) (by decide +kernel)
set_option maxRecDepth 20000 in
theorem gX3_waits_X3_may : GoodIn wsX3_waits (wsV RX3 90 RX3 yX3_may wsX3_may) := goodIn_app (goodIn_of _ (by decide +kernel)) ggX3_waits_X3_may
set_option maxRecDepth 20000 in
theorem ggX3_waits_X3_fails : GoodIn wsX3_waits wsX3_fails := goodIn_r _ [29, 10, 30, 31, 32, 33, 34, 35, 36, 37, 38, 39, 40, 41, 42, 43, 44, 45, 46] (by decide +kernel) (by decide +kernel)
set_option maxRecDepth 20000 in
theorem gX3_waits_X3_fails : GoodIn wsX3_waits (wsV RX3 69 RX3 yX3_fails wsX3_fails) := goodIn_app (goodIn_of _ (by decide +kernel)) ggX3_waits_X3_fails
theorem dX3_waits_0 : decode cX3_waits 0 = .ok (.aload_n 0, 1) := by decide +kernel
theorem dX3_waits_1 : decode cX3_waits 1 = .ok (.iload_n 1, 1) := by decide +kernel
theorem dX3_waits_2 : decode cX3_waits 2 = .ok (.iload_n 2, 1) := by decide +kernel
theorem dX3_waits_3 : decode cX3_waits 3 = .ok (.iload_n 3, 1) := by decide +kernel
theorem dX3_waits_4 : decode cX3_waits 4 = .ok (.invokevirtual 87, 3) := by decide +kernel
theorem dX3_waits_7 : decode cX3_waits 7 = .ok (.ifCond .ne 5, 3) := by decide +kernel
theorem dX3_waits_10 : decode cX3_waits 10 = .ok (.iconst 0, 1) := by decide +kernel
theorem dX3_waits_11 : decode cX3_waits 11 = .ok (.ireturn, 1) := by decide +kernel
theorem dX3_waits_12 : decode cX3_waits 12 = .ok (.aload_n 0, 1) := by decide +kernel
theorem dX3_waits_13 : decode cX3_waits 13 = .ok (.iload_n 1, 1) := by decide +kernel
theorem dX3_waits_14 : decode cX3_waits 14 = .ok (.iload_n 2, 1) := by decide +kernel
theorem dX3_waits_15 : decode cX3_waits 15 = .ok (.iload_n 3, 1) := by decide +kernel
theorem dX3_waits_16 : decode cX3_waits 16 = .ok (.invokevirtual 90, 3) := by decide +kernel
theorem dX3_waits_19 : decode cX3_waits 19 = .ok (.ifCond .ne 9, 3) := by decide +kernel
theorem dX3_waits_22 : decode cX3_waits 22 = .ok (.aload_n 0, 1) := by decide +kernel
theorem dX3_waits_23 : decode cX3_waits 23 = .ok (.iconst 3, 1) := by decide +kernel
theorem dX3_waits_24 : decode cX3_waits 24 = .ok (.invokevirtual 69, 3) := by decide +kernel
theorem dX3_waits_27 : decode cX3_waits 27 = .ok (.ireturn, 1) := by decide +kernel
theorem dX3_waits_28 : decode cX3_waits 28 = .ok (.bipush 8, 2) := by decide +kernel
theorem dX3_waits_30 : decode cX3_waits 30 = .ok (.iload_n 1, 1) := by decide +kernel
theorem dX3_waits_31 : decode cX3_waits 31 = .ok (.imul, 1) := by decide +kernel
theorem dX3_waits_32 : decode cX3_waits 32 = .ok (.iload_n 2, 1) := by decide +kernel
theorem dX3_waits_33 : decode cX3_waits 33 = .ok (.iadd, 1) := by decide +kernel
theorem dX3_waits_34 : decode cX3_waits 34 = .ok (.istore 5, 2) := by decide +kernel
theorem dX3_waits_36 : decode cX3_waits 36 = .ok (.aload_n 0, 1) := by decide +kernel
theorem dX3_waits_37 : decode cX3_waits 37 = .ok (.getfield 40, 3) := by decide +kernel
theorem dX3_waits_40 : decode cX3_waits 40 = .ok (.iload 5, 2) := by decide +kernel
theorem dX3_waits_42 : decode cX3_waits 42 = .ok (.iload 4, 2) := by decide +kernel
theorem dX3_waits_44 : decode cX3_waits 44 = .ok (.iastore, 1) := by decide +kernel
theorem dX3_waits_45 : decode cX3_waits 45 = .ok (.aload_n 0, 1) := by decide +kernel
theorem dX3_waits_46 : decode cX3_waits 46 = .ok (.getfield 43, 3) := by decide +kernel
theorem dX3_waits_49 : decode cX3_waits 49 = .ok (.iload 5, 2) := by decide +kernel
theorem dX3_waits_51 : decode cX3_waits 51 = .ok (.iload_n 3, 1) := by decide +kernel
theorem dX3_waits_52 : decode cX3_waits 52 = .ok (.iastore, 1) := by decide +kernel
theorem dX3_waits_53 : decode cX3_waits 53 = .ok (.aload_n 0, 1) := by decide +kernel
theorem dX3_waits_54 : decode cX3_waits 54 = .ok (.getfield 46, 3) := by decide +kernel
theorem dX3_waits_57 : decode cX3_waits 57 = .ok (.iload 5, 2) := by decide +kernel
theorem dX3_waits_59 : decode cX3_waits 59 = .ok (.aload_n 0, 1) := by decide +kernel
theorem dX3_waits_60 : decode cX3_waits 60 = .ok (.getfield 80, 3) := by decide +kernel
theorem dX3_waits_63 : decode cX3_waits 63 = .ok (.bipush 21, 2) := by decide +kernel
theorem dX3_waits_65 : decode cX3_waits 65 = .ok (.iadd, 1) := by decide +kernel
theorem dX3_waits_66 : decode cX3_waits 66 = .ok (.iastore, 1) := by decide +kernel
theorem dX3_waits_67 : decode cX3_waits 67 = .ok (.aload_n 0, 1) := by decide +kernel
theorem dX3_waits_68 : decode cX3_waits 68 = .ok (.getfield 46, 3) := by decide +kernel
theorem dX3_waits_71 : decode cX3_waits 71 = .ok (.iload 5, 2) := by decide +kernel
theorem dX3_waits_73 : decode cX3_waits 73 = .ok (.iaload, 1) := by decide +kernel
theorem dX3_waits_74 : decode cX3_waits 74 = .ok (.ireturn, 1) := by decide +kernel
set_option maxRecDepth 20000 in
theorem ggX3_ask_X3_waits : GoodIn wsX3_ask wsX3_waits := goodIn_r _ [5, 6, 7, 8, 9, 10, 11, 12, 4, 13, 14, 15, 16, 17, 18, 19, 20, 21, 22, 23, 24, 25, 26, 27, 28, 29, 30, 31, 32, 33, 34, 35, 36, 37, 38, 39, 40, 41, 42, 43, 44, 45, 46, 47, 48, 49, 50] (by decide +kernel) (by decide +kernel)
set_option maxRecDepth 20000 in
theorem gX3_ask_X3_waits : GoodIn wsX3_ask (wsV RX3 93 RX3 yX3_waits wsX3_waits) := goodIn_app (goodIn_of _ (by decide +kernel)) ggX3_ask_X3_waits
theorem dX3_ask_0 : decode cX3_ask 0 = .ok (.aload_n 0, 1) := by decide +kernel
theorem dX3_ask_1 : decode cX3_ask 1 = .ok (.iload_n 1, 1) := by decide +kernel
theorem dX3_ask_2 : decode cX3_ask 2 = .ok (.iload_n 2, 1) := by decide +kernel
theorem dX3_ask_3 : decode cX3_ask 3 = .ok (.iload_n 3, 1) := by decide +kernel
theorem dX3_ask_4 : decode cX3_ask 4 = .ok (.iconst 1, 1) := by decide +kernel
theorem dX3_ask_5 : decode cX3_ask 5 = .ok (.invokevirtual 93, 3) := by decide +kernel
theorem dX3_ask_8 : decode cX3_ask 8 = .ok (.ireturn, 1) := by decide +kernel
set_option maxRecDepth 20000 in
theorem ggX3_exchange_X3_waits : GoodIn wsX3_exchange wsX3_waits := goodIn_r _ [5, 6, 7, 8, 9, 10, 11, 12, 4, 13, 14, 15, 16, 17, 18, 19, 20, 21, 22, 23, 24, 25, 26, 27, 28, 29, 30, 31, 32, 33, 34, 35, 36, 37, 38, 39, 40, 41, 42, 43, 44, 45, 46, 47, 48, 49, 50] (by decide +kernel) (by decide +kernel)
set_option maxRecDepth 20000 in
theorem gX3_exchange_X3_waits : GoodIn wsX3_exchange (wsV RX3 93 RX3 yX3_waits wsX3_waits) := goodIn_app (goodIn_of _ (by decide +kernel)) ggX3_exchange_X3_waits
theorem dX3_exchange_0 : decode cX3_exchange 0 = .ok (.aload_n 0, 1) := by decide +kernel
theorem dX3_exchange_1 : decode cX3_exchange 1 = .ok (.iload_n 1, 1) := by decide +kernel
theorem dX3_exchange_2 : decode cX3_exchange 2 = .ok (.iload_n 2, 1) := by decide +kernel
theorem dX3_exchange_3 : decode cX3_exchange 3 = .ok (.iload_n 3, 1) := by decide +kernel
theorem dX3_exchange_4 : decode cX3_exchange 4 = .ok (.iconst 2, 1) := by decide +kernel
theorem dX3_exchange_5 : decode cX3_exchange 5 = .ok (.invokevirtual 93, 3) := by decide +kernel
theorem dX3_exchange_8 : decode cX3_exchange 8 = .ok (.ireturn, 1) := by decide +kernel
theorem dX3_fee_0 : decode cX3_fee 0 = .ok (.iload_n 2, 1) := by decide +kernel
theorem dX3_fee_1 : decode cX3_fee 1 = .ok (.ifCond .eq 18, 3) := by decide +kernel
theorem dX3_fee_4 : decode cX3_fee 4 = .ok (.aload_n 0, 1) := by decide +kernel
theorem dX3_fee_5 : decode cX3_fee 5 = .ok (.getfield 43, 3) := by decide +kernel
theorem dX3_fee_8 : decode cX3_fee 8 = .ok (.iload_n 1, 1) := by decide +kernel
theorem dX3_fee_9 : decode cX3_fee 9 = .ok (.iaload, 1) := by decide +kernel
theorem dX3_fee_10 : decode cX3_fee 10 = .ok (.iconst 1, 1) := by decide +kernel
theorem dX3_fee_11 : decode cX3_fee 11 = .ok (.if_icmp .ne 10, 3) := by decide +kernel
theorem dX3_fee_14 : decode cX3_fee 14 = .ok (.iload_n 2, 1) := by decide +kernel
theorem dX3_fee_15 : decode cX3_fee 15 = .ok (.iconst 3, 1) := by decide +kernel
theorem dX3_fee_16 : decode cX3_fee 16 = .ok (.if_icmp .eq 5, 3) := by decide +kernel
theorem dX3_fee_19 : decode cX3_fee 19 = .ok (.iconst 0, 1) := by decide +kernel
theorem dX3_fee_20 : decode cX3_fee 20 = .ok (.ireturn, 1) := by decide +kernel
theorem dX3_fee_21 : decode cX3_fee 21 = .ok (.iload_n 2, 1) := by decide +kernel
theorem dX3_fee_22 : decode cX3_fee 22 = .ok (.iconst 1, 1) := by decide +kernel
theorem dX3_fee_23 : decode cX3_fee 23 = .ok (.if_icmp .ne 28, 3) := by decide +kernel
theorem dX3_fee_26 : decode cX3_fee 26 = .ok (.aload_n 0, 1) := by decide +kernel
theorem dX3_fee_27 : decode cX3_fee 27 = .ok (.getfield 34, 3) := by decide +kernel
theorem dX3_fee_30 : decode cX3_fee 30 = .ok (.iload_n 1, 1) := by decide +kernel
theorem dX3_fee_31 : decode cX3_fee 31 = .ok (.iaload, 1) := by decide +kernel
theorem dX3_fee_32 : decode cX3_fee 32 = .ok (.aload_n 0, 1) := by decide +kernel
theorem dX3_fee_33 : decode cX3_fee 33 = .ok (.getfield 37, 3) := by decide +kernel
theorem dX3_fee_36 : decode cX3_fee 36 = .ok (.iload_n 1, 1) := by decide +kernel
theorem dX3_fee_37 : decode cX3_fee 37 = .ok (.iaload, 1) := by decide +kernel
theorem dX3_fee_38 : decode cX3_fee 38 = .ok (.iconst 1, 1) := by decide +kernel
theorem dX3_fee_39 : decode cX3_fee 39 = .ok (.if_icmp .ne 7, 3) := by decide +kernel
theorem dX3_fee_42 : decode cX3_fee 42 = .ok (.iconst 2, 1) := by decide +kernel
theorem dX3_fee_43 : decode cX3_fee 43 = .ok (.goto 4, 3) := by decide +kernel
theorem dX3_fee_46 : decode cX3_fee 46 = .ok (.iconst 5, 1) := by decide +kernel
theorem dX3_fee_47 : decode cX3_fee 47 = .ok (.idiv, 1) := by decide +kernel
theorem dX3_fee_48 : decode cX3_fee 48 = .ok (.goto 9, 3) := by decide +kernel
theorem dX3_fee_51 : decode cX3_fee 51 = .ok (.aload_n 0, 1) := by decide +kernel
theorem dX3_fee_52 : decode cX3_fee 52 = .ok (.getfield 34, 3) := by decide +kernel
theorem dX3_fee_55 : decode cX3_fee 55 = .ok (.iload_n 1, 1) := by decide +kernel
theorem dX3_fee_56 : decode cX3_fee 56 = .ok (.iaload, 1) := by decide +kernel
theorem dX3_fee_57 : decode cX3_fee 57 = .ok (.ireturn, 1) := by decide +kernel
theorem dX3_takenOf_0 : decode cX3_takenOf 0 = .ok (.aload_n 0, 1) := by decide +kernel
theorem dX3_takenOf_1 : decode cX3_takenOf 1 = .ok (.getfield 31, 3) := by decide +kernel
theorem dX3_takenOf_4 : decode cX3_takenOf 4 = .ok (.iconst 3, 1) := by decide +kernel
theorem dX3_takenOf_5 : decode cX3_takenOf 5 = .ok (.iload_n 1, 1) := by decide +kernel
theorem dX3_takenOf_6 : decode cX3_takenOf 6 = .ok (.imul, 1) := by decide +kernel
theorem dX3_takenOf_7 : decode cX3_takenOf 7 = .ok (.iaload, 1) := by decide +kernel
theorem dX3_takenOf_8 : decode cX3_takenOf 8 = .ok (.aload_n 0, 1) := by decide +kernel
theorem dX3_takenOf_9 : decode cX3_takenOf 9 = .ok (.getfield 31, 3) := by decide +kernel
theorem dX3_takenOf_12 : decode cX3_takenOf 12 = .ok (.iconst 3, 1) := by decide +kernel
theorem dX3_takenOf_13 : decode cX3_takenOf 13 = .ok (.iload_n 1, 1) := by decide +kernel
theorem dX3_takenOf_14 : decode cX3_takenOf 14 = .ok (.imul, 1) := by decide +kernel
theorem dX3_takenOf_15 : decode cX3_takenOf 15 = .ok (.iconst 1, 1) := by decide +kernel
theorem dX3_takenOf_16 : decode cX3_takenOf 16 = .ok (.iadd, 1) := by decide +kernel
theorem dX3_takenOf_17 : decode cX3_takenOf 17 = .ok (.iaload, 1) := by decide +kernel
theorem dX3_takenOf_18 : decode cX3_takenOf 18 = .ok (.iadd, 1) := by decide +kernel
theorem dX3_takenOf_19 : decode cX3_takenOf 19 = .ok (.aload_n 0, 1) := by decide +kernel
theorem dX3_takenOf_20 : decode cX3_takenOf 20 = .ok (.getfield 31, 3) := by decide +kernel
theorem dX3_takenOf_23 : decode cX3_takenOf 23 = .ok (.iconst 3, 1) := by decide +kernel
theorem dX3_takenOf_24 : decode cX3_takenOf 24 = .ok (.iload_n 1, 1) := by decide +kernel
theorem dX3_takenOf_25 : decode cX3_takenOf 25 = .ok (.imul, 1) := by decide +kernel
theorem dX3_takenOf_26 : decode cX3_takenOf 26 = .ok (.iconst 2, 1) := by decide +kernel
theorem dX3_takenOf_27 : decode cX3_takenOf 27 = .ok (.iadd, 1) := by decide +kernel
theorem dX3_takenOf_28 : decode cX3_takenOf 28 = .ok (.iaload, 1) := by decide +kernel
theorem dX3_takenOf_29 : decode cX3_takenOf 29 = .ok (.iadd, 1) := by decide +kernel
theorem dX3_takenOf_30 : decode cX3_takenOf 30 = .ok (.ireturn, 1) := by decide +kernel
set_option maxRecDepth 20000 in
theorem ggX3_owes_X3_priced : GoodIn wsX3_owes wsX3_priced := goodIn_r _ [7, 8, 9, 10, 11, 12, 13, 14, 15, 16, 17, 18, 19, 20, 21, 22, 23, 24, 25, 26, 27, 28, 29] (by decide +kernel) (by decide +kernel)
set_option maxRecDepth 20000 in
theorem gX3_owes_X3_priced : GoodIn wsX3_owes (wsV RX3 73 RX3 yX3_priced wsX3_priced) := goodIn_app (goodIn_of _ (by decide +kernel)) ggX3_owes_X3_priced
theorem dX3_owes_0 : decode cX3_owes 0 = .ok (.aload_n 0, 1) := by decide +kernel
theorem dX3_owes_1 : decode cX3_owes 1 = .ok (.iload_n 1, 1) := by decide +kernel
theorem dX3_owes_2 : decode cX3_owes 2 = .ok (.invokevirtual 73, 3) := by decide +kernel
theorem dX3_owes_5 : decode cX3_owes 5 = .ok (.aload_n 0, 1) := by decide +kernel
theorem dX3_owes_6 : decode cX3_owes 6 = .ok (.getfield 22, 3) := by decide +kernel
theorem dX3_owes_9 : decode cX3_owes 9 = .ok (.iload_n 1, 1) := by decide +kernel
theorem dX3_owes_10 : decode cX3_owes 10 = .ok (.iaload, 1) := by decide +kernel
theorem dX3_owes_11 : decode cX3_owes 11 = .ok (.iadd, 1) := by decide +kernel
theorem dX3_owes_12 : decode cX3_owes 12 = .ok (.aload_n 0, 1) := by decide +kernel
theorem dX3_owes_13 : decode cX3_owes 13 = .ok (.getfield 25, 3) := by decide +kernel
theorem dX3_owes_16 : decode cX3_owes 16 = .ok (.iload_n 1, 1) := by decide +kernel
theorem dX3_owes_17 : decode cX3_owes 17 = .ok (.iaload, 1) := by decide +kernel
theorem dX3_owes_18 : decode cX3_owes 18 = .ok (.iadd, 1) := by decide +kernel
theorem dX3_owes_19 : decode cX3_owes 19 = .ok (.ireturn, 1) := by decide +kernel
set_option maxRecDepth 20000 in
theorem ggX3_grade_X3_isLine : GoodIn wsX3_grade wsX3_isLine := goodIn_r _ [11, 12, 13, 14, 15, 16, 10, 17, 46, 47, 48, 49, 50, 51, 52, 53, 54, 55, 56, 57, 58, 59, 60, 61, 62] (by decide +kernel) (by decide +kernel)
set_option maxRecDepth 20000 in
theorem gX3_grade_X3_isLine : GoodIn wsX3_grade (wsV RX3 83 RX3 yX3_isLine wsX3_isLine) := goodIn_app (goodIn_of _ (by decide +kernel)) ggX3_grade_X3_isLine
set_option maxRecDepth 20000 in
theorem ggX3_grade_X3_in : GoodIn wsX3_grade wsX3_in := goodIn_r _ [17] (by decide +kernel) (by decide +kernel)
set_option maxRecDepth 20000 in
theorem gX3_grade_X3_in : GoodIn wsX3_grade (va_wsS RX3 59 yX3_in wsX3_in) := goodIn_app (goodIn_of _ (by decide +kernel)) ggX3_grade_X3_in
set_option maxRecDepth 20000 in
theorem ggX3_grade_X3_fails : GoodIn wsX3_grade wsX3_fails := goodIn_r _ [21, 14, 46, 47, 48, 49, 50, 51, 52, 53, 54, 55, 56, 57, 58, 59, 60, 61, 62] (by decide +kernel) (by decide +kernel)
set_option maxRecDepth 20000 in
theorem gX3_grade_X3_fails : GoodIn wsX3_grade (wsV RX3 69 RX3 yX3_fails wsX3_fails) := goodIn_app (goodIn_of _ (by decide +kernel)) ggX3_grade_X3_fails
set_option maxRecDepth 20000 in
theorem ggX3_grade_X3_fee : GoodIn wsX3_grade wsX3_fee := goodIn_r _ [25, 3, 26, 27, 46, 47, 48, 49, 50, 51, 52, 53, 54, 55, 56, 57, 58, 59, 60, 61, 62] (by decide +kernel) (by decide +kernel)
set_option maxRecDepth 20000 in
theorem gX3_grade_X3_fee : GoodIn wsX3_grade (wsV RX3 97 RX3 yX3_fee wsX3_fee) := goodIn_app (goodIn_of _ (by decide +kernel)) ggX3_grade_X3_fee
set_option maxRecDepth 20000 in
theorem ggX3_grade_X3_takenOf : GoodIn wsX3_grade wsX3_takenOf := goodIn_r _ [31, 5, 46, 47, 48, 49, 50, 51, 52, 53, 54, 55, 56, 57, 58, 59, 60, 61, 62] (by decide +kernel) (by decide +kernel)
set_option maxRecDepth 20000 in
theorem gX3_grade_X3_takenOf : GoodIn wsX3_grade (wsV RX3 100 RX3 yX3_takenOf wsX3_takenOf) := goodIn_app (goodIn_of _ (by decide +kernel)) ggX3_grade_X3_takenOf
set_option maxRecDepth 20000 in
theorem ggX3_grade_X3_owes : GoodIn wsX3_grade wsX3_owes := goodIn_r _ [35, 2, 36, 37, 38, 39, 10, 40, 13, 1, 26, 41, 42, 46, 47, 48, 49, 50, 51, 52, 53, 54, 55, 56, 57, 58, 59, 60, 61, 62] (by decide +kernel) (by decide +kernel)
set_option maxRecDepth 20000 in
theorem gX3_grade_X3_owes : GoodIn wsX3_grade (wsV RX3 103 RX3 yX3_owes wsX3_owes) := goodIn_app (goodIn_of _ (by decide +kernel)) ggX3_grade_X3_owes
set_option maxRecDepth 20000 in
theorem ggX3_grade_X3_least : GoodIn wsX3_grade wsX3_least := goodIn_r _ [45] (by decide +kernel) (by decide +kernel)
set_option maxRecDepth 20000 in
theorem gX3_grade_X3_least : GoodIn wsX3_grade (va_wsS RX3 76 yX3_least wsX3_least) := goodIn_app (goodIn_of _ (by decide +kernel)) ggX3_grade_X3_least
theorem dX3_grade_0 : decode cX3_grade 0 = .ok (.aload_n 0, 1) := by decide +kernel
theorem dX3_grade_1 : decode cX3_grade 1 = .ok (.iload_n 1, 1) := by decide +kernel
theorem dX3_grade_2 : decode cX3_grade 2 = .ok (.iload_n 2, 1) := by decide +kernel
theorem dX3_grade_3 : decode cX3_grade 3 = .ok (.invokevirtual 83, 3) := by decide +kernel
theorem dX3_grade_6 : decode cX3_grade 6 = .ok (.ifCond .ne 5, 3) := by decide +kernel
theorem dX3_grade_9 : decode cX3_grade 9 = .ok (.iconst 0, 1) := by decide +kernel
theorem dX3_grade_10 : decode cX3_grade 10 = .ok (.ireturn, 1) := by decide +kernel
theorem dX3_grade_11 : decode cX3_grade 11 = .ok (.iload_n 3, 1) := by decide +kernel
theorem dX3_grade_12 : decode cX3_grade 12 = .ok (.iconst 0, 1) := by decide +kernel
theorem dX3_grade_13 : decode cX3_grade 13 = .ok (.iconst 3, 1) := by decide +kernel
theorem dX3_grade_14 : decode cX3_grade 14 = .ok (.invokestatic 59, 3) := by decide +kernel
theorem dX3_grade_17 : decode cX3_grade 17 = .ok (.ifCond .ne 9, 3) := by decide +kernel
theorem dX3_grade_20 : decode cX3_grade 20 = .ok (.aload_n 0, 1) := by decide +kernel
theorem dX3_grade_21 : decode cX3_grade 21 = .ok (.iconst 2, 1) := by decide +kernel
theorem dX3_grade_22 : decode cX3_grade 22 = .ok (.invokevirtual 69, 3) := by decide +kernel
theorem dX3_grade_25 : decode cX3_grade 25 = .ok (.ireturn, 1) := by decide +kernel
theorem dX3_grade_26 : decode cX3_grade 26 = .ok (.bipush 8, 2) := by decide +kernel
theorem dX3_grade_28 : decode cX3_grade 28 = .ok (.iload_n 1, 1) := by decide +kernel
theorem dX3_grade_29 : decode cX3_grade 29 = .ok (.imul, 1) := by decide +kernel
theorem dX3_grade_30 : decode cX3_grade 30 = .ok (.iload_n 2, 1) := by decide +kernel
theorem dX3_grade_31 : decode cX3_grade 31 = .ok (.iadd, 1) := by decide +kernel
theorem dX3_grade_32 : decode cX3_grade 32 = .ok (.istore 4, 2) := by decide +kernel
theorem dX3_grade_34 : decode cX3_grade 34 = .ok (.aload_n 0, 1) := by decide +kernel
theorem dX3_grade_35 : decode cX3_grade 35 = .ok (.getfield 40, 3) := by decide +kernel
theorem dX3_grade_38 : decode cX3_grade 38 = .ok (.iload 4, 2) := by decide +kernel
theorem dX3_grade_40 : decode cX3_grade 40 = .ok (.iaload, 1) := by decide +kernel
theorem dX3_grade_41 : decode cX3_grade 41 = .ok (.iconst 1, 1) := by decide +kernel
theorem dX3_grade_42 : decode cX3_grade 42 = .ok (.if_icmp .eq 20, 3) := by decide +kernel
theorem dX3_grade_45 : decode cX3_grade 45 = .ok (.aload_n 0, 1) := by decide +kernel
theorem dX3_grade_46 : decode cX3_grade 46 = .ok (.getfield 40, 3) := by decide +kernel
theorem dX3_grade_49 : decode cX3_grade 49 = .ok (.iload 4, 2) := by decide +kernel
theorem dX3_grade_51 : decode cX3_grade 51 = .ok (.iaload, 1) := by decide +kernel
theorem dX3_grade_52 : decode cX3_grade 52 = .ok (.iconst 2, 1) := by decide +kernel
theorem dX3_grade_53 : decode cX3_grade 53 = .ok (.if_icmp .eq 9, 3) := by decide +kernel
theorem dX3_grade_56 : decode cX3_grade 56 = .ok (.aload_n 0, 1) := by decide +kernel
theorem dX3_grade_57 : decode cX3_grade 57 = .ok (.iconst 3, 1) := by decide +kernel
theorem dX3_grade_58 : decode cX3_grade 58 = .ok (.invokevirtual 69, 3) := by decide +kernel
theorem dX3_grade_61 : decode cX3_grade 61 = .ok (.ireturn, 1) := by decide +kernel
theorem dX3_grade_62 : decode cX3_grade 62 = .ok (.aload_n 0, 1) := by decide +kernel
theorem dX3_grade_63 : decode cX3_grade 63 = .ok (.getfield 40, 3) := by decide +kernel
theorem dX3_grade_66 : decode cX3_grade 66 = .ok (.iload 4, 2) := by decide +kernel
theorem dX3_grade_68 : decode cX3_grade 68 = .ok (.aload_n 0, 1) := by decide +kernel
theorem dX3_grade_69 : decode cX3_grade 69 = .ok (.getfield 40, 3) := by decide +kernel
theorem dX3_grade_72 : decode cX3_grade 72 = .ok (.iload 4, 2) := by decide +kernel
theorem dX3_grade_74 : decode cX3_grade 74 = .ok (.iaload, 1) := by decide +kernel
theorem dX3_grade_75 : decode cX3_grade 75 = .ok (.iconst 1, 1) := by decide +kernel
theorem dX3_grade_76 : decode cX3_grade 76 = .ok (.if_icmp .ne 7, 3) := by decide +kernel
theorem dX3_grade_79 : decode cX3_grade 79 = .ok (.iconst 3, 1) := by decide +kernel
theorem dX3_grade_80 : decode cX3_grade 80 = .ok (.goto 4, 3) := by decide +kernel
theorem dX3_grade_83 : decode cX3_grade 83 = .ok (.iconst 0, 1) := by decide +kernel
theorem dX3_grade_84 : decode cX3_grade 84 = .ok (.iastore, 1) := by decide +kernel
theorem dX3_grade_85 : decode cX3_grade 85 = .ok (.aload_n 0, 1) := by decide +kernel
theorem dX3_grade_86 : decode cX3_grade 86 = .ok (.getfield 22, 3) := by decide +kernel
theorem dX3_grade_89 : decode cX3_grade 89 = .ok (.iload_n 1, 1) := by decide +kernel
theorem dX3_grade_90 : decode cX3_grade 90 = .ok (.dup2, 1) := by decide +kernel
theorem dX3_grade_91 : decode cX3_grade 91 = .ok (.iaload, 1) := by decide +kernel
theorem dX3_grade_92 : decode cX3_grade 92 = .ok (.aload_n 0, 1) := by decide +kernel
theorem dX3_grade_93 : decode cX3_grade 93 = .ok (.iload 4, 2) := by decide +kernel
theorem dX3_grade_95 : decode cX3_grade 95 = .ok (.iload_n 3, 1) := by decide +kernel
theorem dX3_grade_96 : decode cX3_grade 96 = .ok (.invokevirtual 97, 3) := by decide +kernel
theorem dX3_grade_99 : decode cX3_grade 99 = .ok (.aload_n 0, 1) := by decide +kernel
theorem dX3_grade_100 : decode cX3_grade 100 = .ok (.getfield 43, 3) := by decide +kernel
theorem dX3_grade_103 : decode cX3_grade 103 = .ok (.iload 4, 2) := by decide +kernel
theorem dX3_grade_105 : decode cX3_grade 105 = .ok (.iaload, 1) := by decide +kernel
theorem dX3_grade_106 : decode cX3_grade 106 = .ok (.ifCond .ne 9, 3) := by decide +kernel
theorem dX3_grade_109 : decode cX3_grade 109 = .ok (.sipush 500, 3) := by decide +kernel
theorem dX3_grade_112 : decode cX3_grade 112 = .ok (.goto 4, 3) := by decide +kernel
theorem dX3_grade_115 : decode cX3_grade 115 = .ok (.iconst 0, 1) := by decide +kernel
theorem dX3_grade_116 : decode cX3_grade 116 = .ok (.iadd, 1) := by decide +kernel
theorem dX3_grade_117 : decode cX3_grade 117 = .ok (.iadd, 1) := by decide +kernel
theorem dX3_grade_118 : decode cX3_grade 118 = .ok (.iastore, 1) := by decide +kernel
theorem dX3_grade_119 : decode cX3_grade 119 = .ok (.iload_n 3, 1) := by decide +kernel
theorem dX3_grade_120 : decode cX3_grade 120 = .ok (.iconst 3, 1) := by decide +kernel
theorem dX3_grade_121 : decode cX3_grade 121 = .ok (.if_icmp .eq 33, 3) := by decide +kernel
theorem dX3_grade_124 : decode cX3_grade 124 = .ok (.aload_n 0, 1) := by decide +kernel
theorem dX3_grade_125 : decode cX3_grade 125 = .ok (.getfield 49, 3) := by decide +kernel
theorem dX3_grade_128 : decode cX3_grade 128 = .ok (.iload_n 3, 1) := by decide +kernel
theorem dX3_grade_129 : decode cX3_grade 129 = .ok (.iconst 1, 1) := by decide +kernel
theorem dX3_grade_130 : decode cX3_grade 130 = .ok (.if_icmp .ne 18, 3) := by decide +kernel
theorem dX3_grade_133 : decode cX3_grade 133 = .ok (.aload_n 0, 1) := by decide +kernel
theorem dX3_grade_134 : decode cX3_grade 134 = .ok (.getfield 43, 3) := by decide +kernel
theorem dX3_grade_137 : decode cX3_grade 137 = .ok (.iload 4, 2) := by decide +kernel
theorem dX3_grade_139 : decode cX3_grade 139 = .ok (.iaload, 1) := by decide +kernel
theorem dX3_grade_140 : decode cX3_grade 140 = .ok (.iconst 1, 1) := by decide +kernel
theorem dX3_grade_141 : decode cX3_grade 141 = .ok (.if_icmp .ne 7, 3) := by decide +kernel
theorem dX3_grade_144 : decode cX3_grade 144 = .ok (.iconst 2, 1) := by decide +kernel
theorem dX3_grade_145 : decode cX3_grade 145 = .ok (.goto 4, 3) := by decide +kernel
theorem dX3_grade_148 : decode cX3_grade 148 = .ok (.iload_n 3, 1) := by decide +kernel
theorem dX3_grade_149 : decode cX3_grade 149 = .ok (.dup2, 1) := by decide +kernel
theorem dX3_grade_150 : decode cX3_grade 150 = .ok (.iaload, 1) := by decide +kernel
theorem dX3_grade_151 : decode cX3_grade 151 = .ok (.iconst 1, 1) := by decide +kernel
theorem dX3_grade_152 : decode cX3_grade 152 = .ok (.iadd, 1) := by decide +kernel
theorem dX3_grade_153 : decode cX3_grade 153 = .ok (.iastore, 1) := by decide +kernel
theorem dX3_grade_154 : decode cX3_grade 154 = .ok (.aload_n 0, 1) := by decide +kernel
theorem dX3_grade_155 : decode cX3_grade 155 = .ok (.iload_n 1, 1) := by decide +kernel
theorem dX3_grade_156 : decode cX3_grade 156 = .ok (.invokevirtual 100, 3) := by decide +kernel
theorem dX3_grade_159 : decode cX3_grade 159 = .ok (.aload_n 0, 1) := by decide +kernel
theorem dX3_grade_160 : decode cX3_grade 160 = .ok (.iload_n 1, 1) := by decide +kernel
theorem dX3_grade_161 : decode cX3_grade 161 = .ok (.invokevirtual 103, 3) := by decide +kernel
theorem dX3_grade_164 : decode cX3_grade 164 = .ok (.isub, 1) := by decide +kernel
theorem dX3_grade_165 : decode cX3_grade 165 = .ok (.istore 5, 2) := by decide +kernel
theorem dX3_grade_167 : decode cX3_grade 167 = .ok (.iload 5, 2) := by decide +kernel
theorem dX3_grade_169 : decode cX3_grade 169 = .ok (.ifCond .le 8, 3) := by decide +kernel
theorem dX3_grade_172 : decode cX3_grade 172 = .ok (.iload 5, 2) := by decide +kernel
theorem dX3_grade_174 : decode cX3_grade 174 = .ok (.goto 4, 3) := by decide +kernel
theorem dX3_grade_177 : decode cX3_grade 177 = .ok (.iconst 0, 1) := by decide +kernel
theorem dX3_grade_178 : decode cX3_grade 178 = .ok (.istore 6, 2) := by decide +kernel
theorem dX3_grade_180 : decode cX3_grade 180 = .ok (.iload 6, 2) := by decide +kernel
theorem dX3_grade_182 : decode cX3_grade 182 = .ok (.istore 5, 2) := by decide +kernel
theorem dX3_grade_184 : decode cX3_grade 184 = .ok (.iconst 0, 1) := by decide +kernel
theorem dX3_grade_185 : decode cX3_grade 185 = .ok (.istore 7, 2) := by decide +kernel
theorem dX3_grade_187 : decode cX3_grade 187 = .ok (.iload 7, 2) := by decide +kernel
theorem dX3_grade_189 : decode cX3_grade 189 = .ok (.iconst 3, 1) := by decide +kernel
theorem dX3_grade_190 : decode cX3_grade 190 = .ok (.if_icmp .ge 50, 3) := by decide +kernel
theorem dX3_grade_193 : decode cX3_grade 193 = .ok (.iload 5, 2) := by decide +kernel
theorem dX3_grade_195 : decode cX3_grade 195 = .ok (.aload_n 0, 1) := by decide +kernel
theorem dX3_grade_196 : decode cX3_grade 196 = .ok (.getfield 31, 3) := by decide +kernel
theorem dX3_grade_199 : decode cX3_grade 199 = .ok (.iconst 3, 1) := by decide +kernel
theorem dX3_grade_200 : decode cX3_grade 200 = .ok (.iload_n 1, 1) := by decide +kernel
theorem dX3_grade_201 : decode cX3_grade 201 = .ok (.imul, 1) := by decide +kernel
theorem dX3_grade_202 : decode cX3_grade 202 = .ok (.iload 7, 2) := by decide +kernel
theorem dX3_grade_204 : decode cX3_grade 204 = .ok (.iadd, 1) := by decide +kernel
theorem dX3_grade_205 : decode cX3_grade 205 = .ok (.iaload, 1) := by decide +kernel
theorem dX3_grade_206 : decode cX3_grade 206 = .ok (.invokestatic 76, 3) := by decide +kernel
theorem dX3_grade_209 : decode cX3_grade 209 = .ok (.istore 8, 2) := by decide +kernel
theorem dX3_grade_211 : decode cX3_grade 211 = .ok (.aload_n 0, 1) := by decide +kernel
theorem dX3_grade_212 : decode cX3_grade 212 = .ok (.getfield 31, 3) := by decide +kernel
theorem dX3_grade_215 : decode cX3_grade 215 = .ok (.iconst 3, 1) := by decide +kernel
theorem dX3_grade_216 : decode cX3_grade 216 = .ok (.iload_n 1, 1) := by decide +kernel
theorem dX3_grade_217 : decode cX3_grade 217 = .ok (.imul, 1) := by decide +kernel
theorem dX3_grade_218 : decode cX3_grade 218 = .ok (.iload 7, 2) := by decide +kernel
theorem dX3_grade_220 : decode cX3_grade 220 = .ok (.iadd, 1) := by decide +kernel
theorem dX3_grade_221 : decode cX3_grade 221 = .ok (.dup2, 1) := by decide +kernel
theorem dX3_grade_222 : decode cX3_grade 222 = .ok (.iaload, 1) := by decide +kernel
theorem dX3_grade_223 : decode cX3_grade 223 = .ok (.iload 8, 2) := by decide +kernel
theorem dX3_grade_225 : decode cX3_grade 225 = .ok (.isub, 1) := by decide +kernel
theorem dX3_grade_226 : decode cX3_grade 226 = .ok (.iastore, 1) := by decide +kernel
theorem dX3_grade_227 : decode cX3_grade 227 = .ok (.iload 5, 2) := by decide +kernel
theorem dX3_grade_229 : decode cX3_grade 229 = .ok (.iload 8, 2) := by decide +kernel
theorem dX3_grade_231 : decode cX3_grade 231 = .ok (.isub, 1) := by decide +kernel
theorem dX3_grade_232 : decode cX3_grade 232 = .ok (.istore 5, 2) := by decide +kernel
theorem dX3_grade_234 : decode cX3_grade 234 = .ok (.iinc 7 1, 3) := by decide +kernel
theorem dX3_grade_237 : decode cX3_grade 237 = .ok (.goto (-50), 3) := by decide +kernel
theorem dX3_grade_240 : decode cX3_grade 240 = .ok (.aload_n 0, 1) := by decide +kernel
theorem dX3_grade_241 : decode cX3_grade 241 = .ok (.getfield 28, 3) := by decide +kernel
theorem dX3_grade_244 : decode cX3_grade 244 = .ok (.iload_n 1, 1) := by decide +kernel
theorem dX3_grade_245 : decode cX3_grade 245 = .ok (.dup2, 1) := by decide +kernel
theorem dX3_grade_246 : decode cX3_grade 246 = .ok (.iaload, 1) := by decide +kernel
theorem dX3_grade_247 : decode cX3_grade 247 = .ok (.iload 6, 2) := by decide +kernel
theorem dX3_grade_249 : decode cX3_grade 249 = .ok (.iadd, 1) := by decide +kernel
theorem dX3_grade_250 : decode cX3_grade 250 = .ok (.iastore, 1) := by decide +kernel
theorem dX3_grade_251 : decode cX3_grade 251 = .ok (.iload 6, 2) := by decide +kernel
theorem dX3_grade_253 : decode cX3_grade 253 = .ok (.ireturn, 1) := by decide +kernel
set_option maxRecDepth 20000 in
theorem ggX3_state_X3_isLine : GoodIn wsX3_state wsX3_isLine := goodIn_r _ [6, 7, 8, 9, 10, 11, 5, 12, 13, 14, 15, 16, 17, 18, 19, 20, 21, 22, 23, 24, 25, 26, 27, 28, 29] (by decide +kernel) (by decide +kernel)
set_option maxRecDepth 20000 in
theorem gX3_state_X3_isLine : GoodIn wsX3_state (wsV RX3 83 RX3 yX3_isLine wsX3_isLine) := goodIn_app (goodIn_of _ (by decide +kernel)) ggX3_state_X3_isLine
theorem dX3_state_0 : decode cX3_state 0 = .ok (.aload_n 0, 1) := by decide +kernel
theorem dX3_state_1 : decode cX3_state 1 = .ok (.iload_n 1, 1) := by decide +kernel
theorem dX3_state_2 : decode cX3_state 2 = .ok (.iload_n 2, 1) := by decide +kernel
theorem dX3_state_3 : decode cX3_state 3 = .ok (.invokevirtual 83, 3) := by decide +kernel
theorem dX3_state_6 : decode cX3_state 6 = .ok (.ifCond .eq 17, 3) := by decide +kernel
theorem dX3_state_9 : decode cX3_state 9 = .ok (.aload_n 0, 1) := by decide +kernel
theorem dX3_state_10 : decode cX3_state 10 = .ok (.getfield 40, 3) := by decide +kernel
theorem dX3_state_13 : decode cX3_state 13 = .ok (.bipush 8, 2) := by decide +kernel
theorem dX3_state_15 : decode cX3_state 15 = .ok (.iload_n 1, 1) := by decide +kernel
theorem dX3_state_16 : decode cX3_state 16 = .ok (.imul, 1) := by decide +kernel
theorem dX3_state_17 : decode cX3_state 17 = .ok (.iload_n 2, 1) := by decide +kernel
theorem dX3_state_18 : decode cX3_state 18 = .ok (.iadd, 1) := by decide +kernel
theorem dX3_state_19 : decode cX3_state 19 = .ok (.iaload, 1) := by decide +kernel
theorem dX3_state_20 : decode cX3_state 20 = .ok (.goto 4, 3) := by decide +kernel
theorem dX3_state_23 : decode cX3_state 23 = .ok (.iconst 0, 1) := by decide +kernel
theorem dX3_state_24 : decode cX3_state 24 = .ok (.ireturn, 1) := by decide +kernel
set_option maxRecDepth 20000 in
theorem ggX3_price_X3_isOrder : GoodIn wsX3_price wsX3_isOrder := goodIn_r _ [5, 6, 7, 8, 9, 4, 10, 20, 21, 22, 23, 24, 25, 26, 27, 28, 29, 30, 31, 32, 33, 34, 35, 36] (by decide +kernel) (by decide +kernel)
set_option maxRecDepth 20000 in
theorem gX3_price_X3_isOrder : GoodIn wsX3_price (wsV RX3 64 RX3 yX3_isOrder wsX3_isOrder) := goodIn_app (goodIn_of _ (by decide +kernel)) ggX3_price_X3_isOrder
set_option maxRecDepth 20000 in
theorem ggX3_price_X3_priced : GoodIn wsX3_price wsX3_priced := goodIn_r _ [14, 15, 16, 17, 18, 19, 20, 21, 22, 23, 24, 25, 26, 27, 28, 29, 30, 31, 32, 33, 34, 35, 36] (by decide +kernel) (by decide +kernel)
set_option maxRecDepth 20000 in
theorem gX3_price_X3_priced : GoodIn wsX3_price (wsV RX3 73 RX3 yX3_priced wsX3_priced) := goodIn_app (goodIn_of _ (by decide +kernel)) ggX3_price_X3_priced
theorem dX3_price_0 : decode cX3_price 0 = .ok (.aload_n 0, 1) := by decide +kernel
theorem dX3_price_1 : decode cX3_price 1 = .ok (.iload_n 1, 1) := by decide +kernel
theorem dX3_price_2 : decode cX3_price 2 = .ok (.invokevirtual 64, 3) := by decide +kernel
theorem dX3_price_5 : decode cX3_price 5 = .ok (.ifCond .eq 11, 3) := by decide +kernel
theorem dX3_price_8 : decode cX3_price 8 = .ok (.aload_n 0, 1) := by decide +kernel
theorem dX3_price_9 : decode cX3_price 9 = .ok (.iload_n 1, 1) := by decide +kernel
theorem dX3_price_10 : decode cX3_price 10 = .ok (.invokevirtual 73, 3) := by decide +kernel
theorem dX3_price_13 : decode cX3_price 13 = .ok (.goto 4, 3) := by decide +kernel
theorem dX3_price_16 : decode cX3_price 16 = .ok (.iconst 0, 1) := by decide +kernel
theorem dX3_price_17 : decode cX3_price 17 = .ok (.ireturn, 1) := by decide +kernel
set_option maxRecDepth 20000 in
theorem ggX3_fees_X3_isOrder : GoodIn wsX3_fees wsX3_isOrder := goodIn_r _ [6, 7, 8, 9, 10, 5, 11, 12, 13, 14, 15, 16, 17, 18, 19, 20, 21, 22, 23, 24, 25, 26, 27, 28] (by decide +kernel) (by decide +kernel)
set_option maxRecDepth 20000 in
theorem gX3_fees_X3_isOrder : GoodIn wsX3_fees (wsV RX3 64 RX3 yX3_isOrder wsX3_isOrder) := goodIn_app (goodIn_of _ (by decide +kernel)) ggX3_fees_X3_isOrder
theorem dX3_fees_0 : decode cX3_fees 0 = .ok (.aload_n 0, 1) := by decide +kernel
theorem dX3_fees_1 : decode cX3_fees 1 = .ok (.iload_n 1, 1) := by decide +kernel
theorem dX3_fees_2 : decode cX3_fees 2 = .ok (.invokevirtual 64, 3) := by decide +kernel
theorem dX3_fees_5 : decode cX3_fees 5 = .ok (.ifCond .eq 12, 3) := by decide +kernel
theorem dX3_fees_8 : decode cX3_fees 8 = .ok (.aload_n 0, 1) := by decide +kernel
theorem dX3_fees_9 : decode cX3_fees 9 = .ok (.getfield 22, 3) := by decide +kernel
theorem dX3_fees_12 : decode cX3_fees 12 = .ok (.iload_n 1, 1) := by decide +kernel
theorem dX3_fees_13 : decode cX3_fees 13 = .ok (.iaload, 1) := by decide +kernel
theorem dX3_fees_14 : decode cX3_fees 14 = .ok (.goto 4, 3) := by decide +kernel
theorem dX3_fees_17 : decode cX3_fees 17 = .ok (.iconst 0, 1) := by decide +kernel
theorem dX3_fees_18 : decode cX3_fees 18 = .ok (.ireturn, 1) := by decide +kernel
set_option maxRecDepth 20000 in
theorem ggX3_charges_X3_isOrder : GoodIn wsX3_charges wsX3_isOrder := goodIn_r _ [6, 7, 8, 9, 10, 5, 11, 12, 13, 14, 15, 16, 17, 18, 19, 20, 21, 22, 23, 24, 25, 26, 27, 28] (by decide +kernel) (by decide +kernel)
set_option maxRecDepth 20000 in
theorem gX3_charges_X3_isOrder : GoodIn wsX3_charges (wsV RX3 64 RX3 yX3_isOrder wsX3_isOrder) := goodIn_app (goodIn_of _ (by decide +kernel)) ggX3_charges_X3_isOrder
theorem dX3_charges_0 : decode cX3_charges 0 = .ok (.aload_n 0, 1) := by decide +kernel
theorem dX3_charges_1 : decode cX3_charges 1 = .ok (.iload_n 1, 1) := by decide +kernel
theorem dX3_charges_2 : decode cX3_charges 2 = .ok (.invokevirtual 64, 3) := by decide +kernel
theorem dX3_charges_5 : decode cX3_charges 5 = .ok (.ifCond .eq 12, 3) := by decide +kernel
theorem dX3_charges_8 : decode cX3_charges 8 = .ok (.aload_n 0, 1) := by decide +kernel
theorem dX3_charges_9 : decode cX3_charges 9 = .ok (.getfield 25, 3) := by decide +kernel
theorem dX3_charges_12 : decode cX3_charges 12 = .ok (.iload_n 1, 1) := by decide +kernel
theorem dX3_charges_13 : decode cX3_charges 13 = .ok (.iaload, 1) := by decide +kernel
theorem dX3_charges_14 : decode cX3_charges 14 = .ok (.goto 4, 3) := by decide +kernel
theorem dX3_charges_17 : decode cX3_charges 17 = .ok (.iconst 0, 1) := by decide +kernel
theorem dX3_charges_18 : decode cX3_charges 18 = .ok (.ireturn, 1) := by decide +kernel
set_option maxRecDepth 20000 in
theorem ggX3_taken_X3_isOrder : GoodIn wsX3_taken wsX3_isOrder := goodIn_r _ [6, 7, 8, 9, 10, 5, 11, 16, 17, 18, 19, 20, 21, 22, 23, 24, 25, 26, 27, 28, 29, 30, 31, 32] (by decide +kernel) (by decide +kernel)
set_option maxRecDepth 20000 in
theorem gX3_taken_X3_isOrder : GoodIn wsX3_taken (wsV RX3 64 RX3 yX3_isOrder wsX3_isOrder) := goodIn_app (goodIn_of _ (by decide +kernel)) ggX3_taken_X3_isOrder
set_option maxRecDepth 20000 in
theorem ggX3_taken_X3_in : GoodIn wsX3_taken wsX3_in := goodIn_r _ [11] (by decide +kernel) (by decide +kernel)
set_option maxRecDepth 20000 in
theorem gX3_taken_X3_in : GoodIn wsX3_taken (va_wsS RX3 59 yX3_in wsX3_in) := goodIn_app (goodIn_of _ (by decide +kernel)) ggX3_taken_X3_in
set_option maxRecDepth 20000 in
theorem ggX3_taken_X3_fails : GoodIn wsX3_taken wsX3_fails := goodIn_r _ [15, 8, 16, 17, 18, 19, 20, 21, 22, 23, 24, 25, 26, 27, 28, 29, 30, 31, 32] (by decide +kernel) (by decide +kernel)
set_option maxRecDepth 20000 in
theorem gX3_taken_X3_fails : GoodIn wsX3_taken (wsV RX3 69 RX3 yX3_fails wsX3_fails) := goodIn_app (goodIn_of _ (by decide +kernel)) ggX3_taken_X3_fails
theorem dX3_taken_0 : decode cX3_taken 0 = .ok (.aload_n 0, 1) := by decide +kernel
theorem dX3_taken_1 : decode cX3_taken 1 = .ok (.iload_n 1, 1) := by decide +kernel
theorem dX3_taken_2 : decode cX3_taken 2 = .ok (.invokevirtual 64, 3) := by decide +kernel
theorem dX3_taken_5 : decode cX3_taken 5 = .ok (.ifCond .ne 5, 3) := by decide +kernel
theorem dX3_taken_8 : decode cX3_taken 8 = .ok (.iconst 0, 1) := by decide +kernel
theorem dX3_taken_9 : decode cX3_taken 9 = .ok (.ireturn, 1) := by decide +kernel
theorem dX3_taken_10 : decode cX3_taken 10 = .ok (.iload_n 2, 1) := by decide +kernel
theorem dX3_taken_11 : decode cX3_taken 11 = .ok (.iconst 0, 1) := by decide +kernel
theorem dX3_taken_12 : decode cX3_taken 12 = .ok (.iconst 2, 1) := by decide +kernel
theorem dX3_taken_13 : decode cX3_taken 13 = .ok (.invokestatic 59, 3) := by decide +kernel
theorem dX3_taken_16 : decode cX3_taken 16 = .ok (.ifCond .eq 16, 3) := by decide +kernel
theorem dX3_taken_19 : decode cX3_taken 19 = .ok (.aload_n 0, 1) := by decide +kernel
theorem dX3_taken_20 : decode cX3_taken 20 = .ok (.getfield 31, 3) := by decide +kernel
theorem dX3_taken_23 : decode cX3_taken 23 = .ok (.iconst 3, 1) := by decide +kernel
theorem dX3_taken_24 : decode cX3_taken 24 = .ok (.iload_n 1, 1) := by decide +kernel
theorem dX3_taken_25 : decode cX3_taken 25 = .ok (.imul, 1) := by decide +kernel
theorem dX3_taken_26 : decode cX3_taken 26 = .ok (.iload_n 2, 1) := by decide +kernel
theorem dX3_taken_27 : decode cX3_taken 27 = .ok (.iadd, 1) := by decide +kernel
theorem dX3_taken_28 : decode cX3_taken 28 = .ok (.iaload, 1) := by decide +kernel
theorem dX3_taken_29 : decode cX3_taken 29 = .ok (.goto 8, 3) := by decide +kernel
theorem dX3_taken_32 : decode cX3_taken 32 = .ok (.aload_n 0, 1) := by decide +kernel
theorem dX3_taken_33 : decode cX3_taken 33 = .ok (.iconst 2, 1) := by decide +kernel
theorem dX3_taken_34 : decode cX3_taken 34 = .ok (.invokevirtual 69, 3) := by decide +kernel
theorem dX3_taken_37 : decode cX3_taken 37 = .ok (.ireturn, 1) := by decide +kernel
set_option maxRecDepth 20000 in
theorem ggX3_refunded_X3_isOrder : GoodIn wsX3_refunded wsX3_isOrder := goodIn_r _ [6, 7, 8, 9, 10, 5, 11, 12, 13, 14, 15, 16, 17, 18, 19, 20, 21, 22, 23, 24, 25, 26, 27, 28] (by decide +kernel) (by decide +kernel)
set_option maxRecDepth 20000 in
theorem gX3_refunded_X3_isOrder : GoodIn wsX3_refunded (wsV RX3 64 RX3 yX3_isOrder wsX3_isOrder) := goodIn_app (goodIn_of _ (by decide +kernel)) ggX3_refunded_X3_isOrder
theorem dX3_refunded_0 : decode cX3_refunded 0 = .ok (.aload_n 0, 1) := by decide +kernel
theorem dX3_refunded_1 : decode cX3_refunded 1 = .ok (.iload_n 1, 1) := by decide +kernel
theorem dX3_refunded_2 : decode cX3_refunded 2 = .ok (.invokevirtual 64, 3) := by decide +kernel
theorem dX3_refunded_5 : decode cX3_refunded 5 = .ok (.ifCond .eq 12, 3) := by decide +kernel
theorem dX3_refunded_8 : decode cX3_refunded 8 = .ok (.aload_n 0, 1) := by decide +kernel
theorem dX3_refunded_9 : decode cX3_refunded 9 = .ok (.getfield 28, 3) := by decide +kernel
theorem dX3_refunded_12 : decode cX3_refunded 12 = .ok (.iload_n 1, 1) := by decide +kernel
theorem dX3_refunded_13 : decode cX3_refunded 13 = .ok (.iaload, 1) := by decide +kernel
theorem dX3_refunded_14 : decode cX3_refunded 14 = .ok (.goto 4, 3) := by decide +kernel
theorem dX3_refunded_17 : decode cX3_refunded 17 = .ok (.iconst 0, 1) := by decide +kernel
theorem dX3_refunded_18 : decode cX3_refunded 18 = .ok (.ireturn, 1) := by decide +kernel
set_option maxRecDepth 20000 in
theorem ggX3_isShortBy_X3_isOrder : GoodIn wsX3_isShortBy wsX3_isOrder := goodIn_r _ [6, 7, 8, 9, 10, 5, 11, 32, 33, 34, 35, 36, 37, 38, 39, 40, 41, 42, 43, 44, 45, 46, 47, 48] (by decide +kernel) (by decide +kernel)
set_option maxRecDepth 20000 in
theorem gX3_isShortBy_X3_isOrder : GoodIn wsX3_isShortBy (wsV RX3 64 RX3 yX3_isOrder wsX3_isOrder) := goodIn_app (goodIn_of _ (by decide +kernel)) ggX3_isShortBy_X3_isOrder
set_option maxRecDepth 20000 in
theorem ggX3_isShortBy_X3_owes : GoodIn wsX3_isShortBy wsX3_owes := goodIn_r _ [15, 16, 17, 18, 19, 20, 5, 21, 22, 23, 24, 25, 26, 32, 33, 34, 35, 36, 37, 38, 39, 40, 41, 42, 43, 44, 45, 46, 47, 48] (by decide +kernel) (by decide +kernel)
set_option maxRecDepth 20000 in
theorem gX3_isShortBy_X3_owes : GoodIn wsX3_isShortBy (wsV RX3 103 RX3 yX3_owes wsX3_owes) := goodIn_app (goodIn_of _ (by decide +kernel)) ggX3_isShortBy_X3_owes
set_option maxRecDepth 20000 in
theorem ggX3_isShortBy_X3_takenOf : GoodIn wsX3_isShortBy wsX3_takenOf := goodIn_r _ [30, 31, 32, 33, 34, 35, 36, 37, 38, 39, 40, 41, 42, 43, 44, 45, 46, 47, 48] (by decide +kernel) (by decide +kernel)
set_option maxRecDepth 20000 in
theorem gX3_isShortBy_X3_takenOf : GoodIn wsX3_isShortBy (wsV RX3 100 RX3 yX3_takenOf wsX3_takenOf) := goodIn_app (goodIn_of _ (by decide +kernel)) ggX3_isShortBy_X3_takenOf
theorem dX3_isShortBy_0 : decode cX3_isShortBy 0 = .ok (.aload_n 0, 1) := by decide +kernel
theorem dX3_isShortBy_1 : decode cX3_isShortBy 1 = .ok (.iload_n 1, 1) := by decide +kernel
theorem dX3_isShortBy_2 : decode cX3_isShortBy 2 = .ok (.invokevirtual 64, 3) := by decide +kernel
theorem dX3_isShortBy_5 : decode cX3_isShortBy 5 = .ok (.ifCond .eq 12, 3) := by decide +kernel
theorem dX3_isShortBy_8 : decode cX3_isShortBy 8 = .ok (.aload_n 0, 1) := by decide +kernel
theorem dX3_isShortBy_9 : decode cX3_isShortBy 9 = .ok (.getfield 19, 3) := by decide +kernel
theorem dX3_isShortBy_12 : decode cX3_isShortBy 12 = .ok (.iload_n 1, 1) := by decide +kernel
theorem dX3_isShortBy_13 : decode cX3_isShortBy 13 = .ok (.iaload, 1) := by decide +kernel
theorem dX3_isShortBy_14 : decode cX3_isShortBy 14 = .ok (.ifCond .ne 5, 3) := by decide +kernel
theorem dX3_isShortBy_17 : decode cX3_isShortBy 17 = .ok (.iconst 0, 1) := by decide +kernel
theorem dX3_isShortBy_18 : decode cX3_isShortBy 18 = .ok (.ireturn, 1) := by decide +kernel
theorem dX3_isShortBy_19 : decode cX3_isShortBy 19 = .ok (.aload_n 0, 1) := by decide +kernel
theorem dX3_isShortBy_20 : decode cX3_isShortBy 20 = .ok (.iload_n 1, 1) := by decide +kernel
theorem dX3_isShortBy_21 : decode cX3_isShortBy 21 = .ok (.invokevirtual 103, 3) := by decide +kernel
theorem dX3_isShortBy_24 : decode cX3_isShortBy 24 = .ok (.aload_n 0, 1) := by decide +kernel
theorem dX3_isShortBy_25 : decode cX3_isShortBy 25 = .ok (.iload_n 1, 1) := by decide +kernel
theorem dX3_isShortBy_26 : decode cX3_isShortBy 26 = .ok (.invokevirtual 100, 3) := by decide +kernel
theorem dX3_isShortBy_29 : decode cX3_isShortBy 29 = .ok (.isub, 1) := by decide +kernel
theorem dX3_isShortBy_30 : decode cX3_isShortBy 30 = .ok (.istore_n 2, 1) := by decide +kernel
theorem dX3_isShortBy_31 : decode cX3_isShortBy 31 = .ok (.iload_n 2, 1) := by decide +kernel
theorem dX3_isShortBy_32 : decode cX3_isShortBy 32 = .ok (.ifCond .le 7, 3) := by decide +kernel
theorem dX3_isShortBy_35 : decode cX3_isShortBy 35 = .ok (.iload_n 2, 1) := by decide +kernel
theorem dX3_isShortBy_36 : decode cX3_isShortBy 36 = .ok (.goto 4, 3) := by decide +kernel
theorem dX3_isShortBy_39 : decode cX3_isShortBy 39 = .ok (.iconst 0, 1) := by decide +kernel
theorem dX3_isShortBy_40 : decode cX3_isShortBy 40 = .ok (.ireturn, 1) := by decide +kernel
set_option maxRecDepth 20000 in
theorem ggX3_stock_X3_in : GoodIn wsX3_stock wsX3_in := goodIn_r _ [6] (by decide +kernel) (by decide +kernel)
set_option maxRecDepth 20000 in
theorem gX3_stock_X3_in : GoodIn wsX3_stock (va_wsS RX3 59 yX3_in wsX3_in) := goodIn_app (goodIn_of _ (by decide +kernel)) ggX3_stock_X3_in
theorem dX3_stock_0 : decode cX3_stock 0 = .ok (.aload_n 0, 1) := by decide +kernel
theorem dX3_stock_1 : decode cX3_stock 1 = .ok (.iload_n 1, 1) := by decide +kernel
theorem dX3_stock_2 : decode cX3_stock 2 = .ok (.iconst 0, 1) := by decide +kernel
theorem dX3_stock_3 : decode cX3_stock 3 = .ok (.iconst 2, 1) := by decide +kernel
theorem dX3_stock_4 : decode cX3_stock 4 = .ok (.invokestatic 59, 3) := by decide +kernel
theorem dX3_stock_7 : decode cX3_stock 7 = .ok (.ifCond .eq 7, 3) := by decide +kernel
theorem dX3_stock_10 : decode cX3_stock 10 = .ok (.iconst 0, 1) := by decide +kernel
theorem dX3_stock_11 : decode cX3_stock 11 = .ok (.goto 4, 3) := by decide +kernel
theorem dX3_stock_14 : decode cX3_stock 14 = .ok (.iconst 1, 1) := by decide +kernel
theorem dX3_stock_15 : decode cX3_stock 15 = .ok (.putfield 52, 3) := by decide +kernel
theorem dX3_stock_18 : decode cX3_stock 18 = .ok (.aload_n 0, 1) := by decide +kernel
theorem dX3_stock_19 : decode cX3_stock 19 = .ok (.getfield 52, 3) := by decide +kernel
theorem dX3_stock_22 : decode cX3_stock 22 = .ok (.ifCond .ne 12, 3) := by decide +kernel
theorem dX3_stock_25 : decode cX3_stock 25 = .ok (.aload_n 0, 1) := by decide +kernel
theorem dX3_stock_26 : decode cX3_stock 26 = .ok (.getfield 49, 3) := by decide +kernel
theorem dX3_stock_29 : decode cX3_stock 29 = .ok (.iload_n 1, 1) := by decide +kernel
theorem dX3_stock_30 : decode cX3_stock 30 = .ok (.iaload, 1) := by decide +kernel
theorem dX3_stock_31 : decode cX3_stock 31 = .ok (.goto 4, 3) := by decide +kernel
theorem dX3_stock_34 : decode cX3_stock 34 = .ok (.iconst 0, 1) := by decide +kernel
theorem dX3_stock_35 : decode cX3_stock 35 = .ok (.ireturn, 1) := by decide +kernel
theorem dX3_ending_0 : decode cX3_ending 0 = .ok (.iconst 0, 1) := by decide +kernel
theorem dX3_ending_1 : decode cX3_ending 1 = .ok (.istore_n 1, 1) := by decide +kernel
theorem dX3_ending_2 : decode cX3_ending 2 = .ok (.iconst 0, 1) := by decide +kernel
theorem dX3_ending_3 : decode cX3_ending 3 = .ok (.istore_n 2, 1) := by decide +kernel
theorem dX3_ending_4 : decode cX3_ending 4 = .ok (.iload_n 2, 1) := by decide +kernel
theorem dX3_ending_5 : decode cX3_ending 5 = .ok (.bipush 8, 2) := by decide +kernel
theorem dX3_ending_7 : decode cX3_ending 7 = .ok (.aload_n 0, 1) := by decide +kernel
theorem dX3_ending_8 : decode cX3_ending 8 = .ok (.getfield 56, 3) := by decide +kernel
theorem dX3_ending_11 : decode cX3_ending 11 = .ok (.imul, 1) := by decide +kernel
theorem dX3_ending_12 : decode cX3_ending 12 = .ok (.if_icmp .ge 101, 3) := by decide +kernel
theorem dX3_ending_15 : decode cX3_ending 15 = .ok (.aload_n 0, 1) := by decide +kernel
theorem dX3_ending_16 : decode cX3_ending 16 = .ok (.getfield 40, 3) := by decide +kernel
theorem dX3_ending_19 : decode cX3_ending 19 = .ok (.iload_n 2, 1) := by decide +kernel
theorem dX3_ending_20 : decode cX3_ending 20 = .ok (.iaload, 1) := by decide +kernel
theorem dX3_ending_21 : decode cX3_ending 21 = .ok (.iconst 1, 1) := by decide +kernel
theorem dX3_ending_22 : decode cX3_ending 22 = .ok (.if_icmp .eq 13, 3) := by decide +kernel
theorem dX3_ending_25 : decode cX3_ending 25 = .ok (.aload_n 0, 1) := by decide +kernel
theorem dX3_ending_26 : decode cX3_ending 26 = .ok (.getfield 40, 3) := by decide +kernel
theorem dX3_ending_29 : decode cX3_ending 29 = .ok (.iload_n 2, 1) := by decide +kernel
theorem dX3_ending_30 : decode cX3_ending 30 = .ok (.iaload, 1) := by decide +kernel
theorem dX3_ending_31 : decode cX3_ending 31 = .ok (.iconst 2, 1) := by decide +kernel
theorem dX3_ending_32 : decode cX3_ending 32 = .ok (.if_icmp .ne 75, 3) := by decide +kernel
theorem dX3_ending_35 : decode cX3_ending 35 = .ok (.aload_n 0, 1) := by decide +kernel
theorem dX3_ending_36 : decode cX3_ending 36 = .ok (.getfield 46, 3) := by decide +kernel
theorem dX3_ending_39 : decode cX3_ending 39 = .ok (.iload_n 2, 1) := by decide +kernel
theorem dX3_ending_40 : decode cX3_ending 40 = .ok (.iaload, 1) := by decide +kernel
theorem dX3_ending_41 : decode cX3_ending 41 = .ok (.aload_n 0, 1) := by decide +kernel
theorem dX3_ending_42 : decode cX3_ending 42 = .ok (.getfield 80, 3) := by decide +kernel
theorem dX3_ending_45 : decode cX3_ending 45 = .ok (.if_icmp .ne 62, 3) := by decide +kernel
theorem dX3_ending_48 : decode cX3_ending 48 = .ok (.aload_n 0, 1) := by decide +kernel
theorem dX3_ending_49 : decode cX3_ending 49 = .ok (.getfield 40, 3) := by decide +kernel
theorem dX3_ending_52 : decode cX3_ending 52 = .ok (.iload_n 2, 1) := by decide +kernel
theorem dX3_ending_53 : decode cX3_ending 53 = .ok (.iaload, 1) := by decide +kernel
theorem dX3_ending_54 : decode cX3_ending 54 = .ok (.iconst 2, 1) := by decide +kernel
theorem dX3_ending_55 : decode cX3_ending 55 = .ok (.if_icmp .ne 12, 3) := by decide +kernel
theorem dX3_ending_58 : decode cX3_ending 58 = .ok (.aload_n 0, 1) := by decide +kernel
theorem dX3_ending_59 : decode cX3_ending 59 = .ok (.getfield 34, 3) := by decide +kernel
theorem dX3_ending_62 : decode cX3_ending 62 = .ok (.iload_n 2, 1) := by decide +kernel
theorem dX3_ending_63 : decode cX3_ending 63 = .ok (.iaload, 1) := by decide +kernel
theorem dX3_ending_64 : decode cX3_ending 64 = .ok (.goto 4, 3) := by decide +kernel
theorem dX3_ending_67 : decode cX3_ending 67 = .ok (.iconst 0, 1) := by decide +kernel
theorem dX3_ending_68 : decode cX3_ending 68 = .ok (.istore_n 3, 1) := by decide +kernel
theorem dX3_ending_69 : decode cX3_ending 69 = .ok (.aload_n 0, 1) := by decide +kernel
theorem dX3_ending_70 : decode cX3_ending 70 = .ok (.getfield 25, 3) := by decide +kernel
theorem dX3_ending_73 : decode cX3_ending 73 = .ok (.iload_n 2, 1) := by decide +kernel
theorem dX3_ending_74 : decode cX3_ending 74 = .ok (.bipush 8, 2) := by decide +kernel
theorem dX3_ending_76 : decode cX3_ending 76 = .ok (.idiv, 1) := by decide +kernel
theorem dX3_ending_77 : decode cX3_ending 77 = .ok (.dup2, 1) := by decide +kernel
theorem dX3_ending_78 : decode cX3_ending 78 = .ok (.iaload, 1) := by decide +kernel
theorem dX3_ending_79 : decode cX3_ending 79 = .ok (.iload_n 3, 1) := by decide +kernel
theorem dX3_ending_80 : decode cX3_ending 80 = .ok (.iadd, 1) := by decide +kernel
theorem dX3_ending_81 : decode cX3_ending 81 = .ok (.iastore, 1) := by decide +kernel
theorem dX3_ending_82 : decode cX3_ending 82 = .ok (.aload_n 0, 1) := by decide +kernel
theorem dX3_ending_83 : decode cX3_ending 83 = .ok (.getfield 31, 3) := by decide +kernel
theorem dX3_ending_86 : decode cX3_ending 86 = .ok (.iconst 3, 1) := by decide +kernel
theorem dX3_ending_87 : decode cX3_ending 87 = .ok (.iload_n 2, 1) := by decide +kernel
theorem dX3_ending_88 : decode cX3_ending 88 = .ok (.bipush 8, 2) := by decide +kernel
theorem dX3_ending_90 : decode cX3_ending 90 = .ok (.idiv, 1) := by decide +kernel
theorem dX3_ending_91 : decode cX3_ending 91 = .ok (.imul, 1) := by decide +kernel
theorem dX3_ending_92 : decode cX3_ending 92 = .ok (.dup2, 1) := by decide +kernel
theorem dX3_ending_93 : decode cX3_ending 93 = .ok (.iaload, 1) := by decide +kernel
theorem dX3_ending_94 : decode cX3_ending 94 = .ok (.iload_n 3, 1) := by decide +kernel
theorem dX3_ending_95 : decode cX3_ending 95 = .ok (.iadd, 1) := by decide +kernel
theorem dX3_ending_96 : decode cX3_ending 96 = .ok (.iastore, 1) := by decide +kernel
theorem dX3_ending_97 : decode cX3_ending 97 = .ok (.aload_n 0, 1) := by decide +kernel
theorem dX3_ending_98 : decode cX3_ending 98 = .ok (.getfield 40, 3) := by decide +kernel
theorem dX3_ending_101 : decode cX3_ending 101 = .ok (.iload_n 2, 1) := by decide +kernel
theorem dX3_ending_102 : decode cX3_ending 102 = .ok (.iconst 0, 1) := by decide +kernel
theorem dX3_ending_103 : decode cX3_ending 103 = .ok (.iastore, 1) := by decide +kernel
theorem dX3_ending_104 : decode cX3_ending 104 = .ok (.iinc 1 1, 3) := by decide +kernel
theorem dX3_ending_107 : decode cX3_ending 107 = .ok (.iinc 2 1, 3) := by decide +kernel
theorem dX3_ending_110 : decode cX3_ending 110 = .ok (.goto (-106), 3) := by decide +kernel
theorem dX3_ending_113 : decode cX3_ending 113 = .ok (.iload_n 1, 1) := by decide +kernel
theorem dX3_ending_114 : decode cX3_ending 114 = .ok (.ireturn, 1) := by decide +kernel
set_option maxRecDepth 20000 in
theorem ggX3_pass_X3_in : GoodIn wsX3_pass wsX3_in := goodIn_r _ [6] (by decide +kernel) (by decide +kernel)
set_option maxRecDepth 20000 in
theorem gX3_pass_X3_in : GoodIn wsX3_pass (va_wsS RX3 59 yX3_in wsX3_in) := goodIn_app (goodIn_of _ (by decide +kernel)) ggX3_pass_X3_in
set_option maxRecDepth 20000 in
theorem ggX3_pass_X3_ending : GoodIn wsX3_pass wsX3_ending := goodIn_r _ [10, 11, 12, 13, 1, 14, 15, 16, 17, 18, 19, 20, 21, 22, 23, 24, 25, 26, 27, 28, 29, 30, 31, 32, 33] (by decide +kernel) (by decide +kernel)
set_option maxRecDepth 20000 in
theorem gX3_pass_X3_ending : GoodIn wsX3_pass (wsV RX3 106 RX3 yX3_ending wsX3_ending) := goodIn_app (goodIn_of _ (by decide +kernel)) ggX3_pass_X3_ending
theorem dX3_pass_0 : decode cX3_pass 0 = .ok (.aload_n 0, 1) := by decide +kernel
theorem dX3_pass_1 : decode cX3_pass 1 = .ok (.iload_n 1, 1) := by decide +kernel
theorem dX3_pass_2 : decode cX3_pass 2 = .ok (.iconst 1, 1) := by decide +kernel
theorem dX3_pass_3 : decode cX3_pass 3 = .ok (.sipush 400, 3) := by decide +kernel
theorem dX3_pass_6 : decode cX3_pass 6 = .ok (.invokestatic 59, 3) := by decide +kernel
theorem dX3_pass_9 : decode cX3_pass 9 = .ok (.ifCond .ne 7, 3) := by decide +kernel
theorem dX3_pass_12 : decode cX3_pass 12 = .ok (.iconst 1, 1) := by decide +kernel
theorem dX3_pass_13 : decode cX3_pass 13 = .ok (.goto 20, 3) := by decide +kernel
theorem dX3_pass_16 : decode cX3_pass 16 = .ok (.aload_n 0, 1) := by decide +kernel
theorem dX3_pass_17 : decode cX3_pass 17 = .ok (.getfield 80, 3) := by decide +kernel
theorem dX3_pass_20 : decode cX3_pass 20 = .ok (.iload_n 1, 1) := by decide +kernel
theorem dX3_pass_21 : decode cX3_pass 21 = .ok (.iadd, 1) := by decide +kernel
theorem dX3_pass_22 : decode cX3_pass 22 = .ok (.sipush 10000, 3) := by decide +kernel
theorem dX3_pass_25 : decode cX3_pass 25 = .ok (.if_icmp .le 7, 3) := by decide +kernel
theorem dX3_pass_28 : decode cX3_pass 28 = .ok (.iconst 2, 1) := by decide +kernel
theorem dX3_pass_29 : decode cX3_pass 29 = .ok (.goto 4, 3) := by decide +kernel
theorem dX3_pass_32 : decode cX3_pass 32 = .ok (.iconst 0, 1) := by decide +kernel
theorem dX3_pass_33 : decode cX3_pass 33 = .ok (.putfield 52, 3) := by decide +kernel
theorem dX3_pass_36 : decode cX3_pass 36 = .ok (.iconst 0, 1) := by decide +kernel
theorem dX3_pass_37 : decode cX3_pass 37 = .ok (.istore_n 2, 1) := by decide +kernel
theorem dX3_pass_38 : decode cX3_pass 38 = .ok (.iconst 0, 1) := by decide +kernel
theorem dX3_pass_39 : decode cX3_pass 39 = .ok (.istore_n 3, 1) := by decide +kernel
theorem dX3_pass_40 : decode cX3_pass 40 = .ok (.iload_n 3, 1) := by decide +kernel
theorem dX3_pass_41 : decode cX3_pass 41 = .ok (.iload_n 1, 1) := by decide +kernel
theorem dX3_pass_42 : decode cX3_pass 42 = .ok (.if_icmp .ge 33, 3) := by decide +kernel
theorem dX3_pass_45 : decode cX3_pass 45 = .ok (.aload_n 0, 1) := by decide +kernel
theorem dX3_pass_46 : decode cX3_pass 46 = .ok (.getfield 52, 3) := by decide +kernel
theorem dX3_pass_49 : decode cX3_pass 49 = .ok (.ifCond .ne 26, 3) := by decide +kernel
theorem dX3_pass_52 : decode cX3_pass 52 = .ok (.aload_n 0, 1) := by decide +kernel
theorem dX3_pass_53 : decode cX3_pass 53 = .ok (.dup, 1) := by decide +kernel
theorem dX3_pass_54 : decode cX3_pass 54 = .ok (.getfield 80, 3) := by decide +kernel
theorem dX3_pass_57 : decode cX3_pass 57 = .ok (.iconst 1, 1) := by decide +kernel
theorem dX3_pass_58 : decode cX3_pass 58 = .ok (.iadd, 1) := by decide +kernel
theorem dX3_pass_59 : decode cX3_pass 59 = .ok (.putfield 80, 3) := by decide +kernel
theorem dX3_pass_62 : decode cX3_pass 62 = .ok (.iload_n 2, 1) := by decide +kernel
theorem dX3_pass_63 : decode cX3_pass 63 = .ok (.aload_n 0, 1) := by decide +kernel
theorem dX3_pass_64 : decode cX3_pass 64 = .ok (.invokevirtual 106, 3) := by decide +kernel
theorem dX3_pass_67 : decode cX3_pass 67 = .ok (.iadd, 1) := by decide +kernel
theorem dX3_pass_68 : decode cX3_pass 68 = .ok (.istore_n 2, 1) := by decide +kernel
theorem dX3_pass_69 : decode cX3_pass 69 = .ok (.iinc 3 1, 3) := by decide +kernel
theorem dX3_pass_72 : decode cX3_pass 72 = .ok (.goto (-32), 3) := by decide +kernel
theorem dX3_pass_75 : decode cX3_pass 75 = .ok (.iload_n 2, 1) := by decide +kernel
theorem dX3_pass_76 : decode cX3_pass 76 = .ok (.ireturn, 1) := by decide +kernel
theorem dX3_day_0 : decode cX3_day 0 = .ok (.aload_n 0, 1) := by decide +kernel
theorem dX3_day_1 : decode cX3_day 1 = .ok (.iconst 0, 1) := by decide +kernel
theorem dX3_day_2 : decode cX3_day 2 = .ok (.putfield 52, 3) := by decide +kernel
theorem dX3_day_5 : decode cX3_day 5 = .ok (.aload_n 0, 1) := by decide +kernel
theorem dX3_day_6 : decode cX3_day 6 = .ok (.getfield 80, 3) := by decide +kernel
theorem dX3_day_9 : decode cX3_day 9 = .ok (.ireturn, 1) := by decide +kernel
set_option maxRecDepth 20000 in
theorem ggL_order_X2_order : GoodIn wsL_order wsX2_order := goodIn_ca (goodIn_ca (goodIn_r _ [7, 8, 9, 10, 11, 12, 13, 14, 15, 16, 17, 6, 18, 19, 20, 21, 22, 23, 24, 25, 26, 27, 28, 29, 30, 31, 32, 33, 34, 35, 36, 37, 38, 39, 40, 41, 42, 43, 44, 45, 46, 47, 48] (by decide +kernel) (by decide +kernel)) (goodIn_sub (fun _ h => List.mem_cons_of_mem _ (List.mem_append_left _ (List.mem_append_right _ h))) (by decide +kernel))) (goodIn_sub (fun _ h => List.mem_cons_of_mem _ (List.mem_append_right _ h)) (by decide +kernel))
set_option maxRecDepth 20000 in
theorem gL_order_X2_order : GoodIn wsL_order (wsV RL 7 RX2 yX2_order wsX2_order) := goodIn_app (goodIn_of _ (by decide +kernel)) ggL_order_X2_order
theorem dL_order_0 : decode cL_order 0 = .ok (.aload_n 3, 1) := by decide +kernel
theorem dL_order_1 : decode cL_order 1 = .ok (.iconst 0, 1) := by decide +kernel
theorem dL_order_2 : decode cL_order 2 = .ok (.aload_n 0, 1) := by decide +kernel
theorem dL_order_3 : decode cL_order 3 = .ok (.iload_n 1, 1) := by decide +kernel
theorem dL_order_4 : decode cL_order 4 = .ok (.iload_n 2, 1) := by decide +kernel
theorem dL_order_5 : decode cL_order 5 = .ok (.invokevirtual 7, 3) := by decide +kernel
theorem dL_order_8 : decode cL_order 8 = .ok (.i2l, 1) := by decide +kernel
theorem dL_order_9 : decode cL_order 9 = .ok (.lastore, 1) := by decide +kernel
theorem dL_order_10 : decode cL_order 10 = .ok (.goto 11, 3) := by decide +kernel
theorem dL_order_13 : decode cL_order 13 = .ok (.astore 4, 2) := by decide +kernel
theorem dL_order_15 : decode cL_order 15 = .ok (.iconst 1, 1) := by decide +kernel
theorem dL_order_16 : decode cL_order 16 = .ok (.ireturn, 1) := by decide +kernel
theorem dL_order_17 : decode cL_order 17 = .ok (.astore 4, 2) := by decide +kernel
theorem dL_order_19 : decode cL_order 19 = .ok (.iconst 2, 1) := by decide +kernel
theorem dL_order_20 : decode cL_order 20 = .ok (.ireturn, 1) := by decide +kernel
theorem dL_order_21 : decode cL_order 21 = .ok (.iconst 0, 1) := by decide +kernel
theorem dL_order_22 : decode cL_order 22 = .ok (.ireturn, 1) := by decide +kernel
set_option maxRecDepth 20000 in
theorem ggL_add_X2_add : GoodIn wsL_add wsX2_add := goodIn_ca (goodIn_ca (goodIn_ca (goodIn_r _ [8, 9, 10, 11, 12, 13, 14, 15, 16, 17, 18, 7, 19, 20, 21, 22, 23, 24, 25, 26, 27, 28, 29, 30, 31, 32, 33, 34, 35, 36, 37, 38, 39, 40, 41, 42, 43, 44, 45, 46, 47, 48, 49, 50, 51, 52, 53, 54, 55, 56, 57, 58, 59, 60, 61, 62, 63, 64, 65, 66, 67, 68, 69, 70] (by decide +kernel) (by decide +kernel)) (goodIn_sub (fun _ h => List.mem_cons_of_mem _ (List.mem_append_left _ (List.mem_append_left _ (List.mem_append_right _ h)))) (by decide +kernel))) (goodIn_sub (fun _ h => List.mem_cons_of_mem _ (List.mem_append_left _ (List.mem_append_right _ h))) (by decide +kernel))) (goodIn_sub (fun _ h => List.mem_cons_of_mem _ (List.mem_append_right _ h)) (by decide +kernel))
set_option maxRecDepth 20000 in
theorem gL_add_X2_add : GoodIn wsL_add (wsV RL 17 RX2 yX2_add wsX2_add) := goodIn_app (goodIn_of _ (by decide +kernel)) ggL_add_X2_add
theorem dL_add_0 : decode cL_add 0 = .ok (.aload 4, 2) := by decide +kernel
theorem dL_add_2 : decode cL_add 2 = .ok (.iconst 0, 1) := by decide +kernel
theorem dL_add_3 : decode cL_add 3 = .ok (.aload_n 0, 1) := by decide +kernel
theorem dL_add_4 : decode cL_add 4 = .ok (.iload_n 1, 1) := by decide +kernel
theorem dL_add_5 : decode cL_add 5 = .ok (.iload_n 2, 1) := by decide +kernel
theorem dL_add_6 : decode cL_add 6 = .ok (.iload_n 3, 1) := by decide +kernel
theorem dL_add_7 : decode cL_add 7 = .ok (.invokevirtual 17, 3) := by decide +kernel
theorem dL_add_10 : decode cL_add 10 = .ok (.i2l, 1) := by decide +kernel
theorem dL_add_11 : decode cL_add 11 = .ok (.lastore, 1) := by decide +kernel
theorem dL_add_12 : decode cL_add 12 = .ok (.goto 15, 3) := by decide +kernel
theorem dL_add_15 : decode cL_add 15 = .ok (.astore 5, 2) := by decide +kernel
theorem dL_add_17 : decode cL_add 17 = .ok (.iconst 1, 1) := by decide +kernel
theorem dL_add_18 : decode cL_add 18 = .ok (.ireturn, 1) := by decide +kernel
theorem dL_add_19 : decode cL_add 19 = .ok (.astore 5, 2) := by decide +kernel
theorem dL_add_21 : decode cL_add 21 = .ok (.iconst 2, 1) := by decide +kernel
theorem dL_add_22 : decode cL_add 22 = .ok (.ireturn, 1) := by decide +kernel
theorem dL_add_23 : decode cL_add 23 = .ok (.astore 5, 2) := by decide +kernel
theorem dL_add_25 : decode cL_add 25 = .ok (.iconst 3, 1) := by decide +kernel
theorem dL_add_26 : decode cL_add 26 = .ok (.ireturn, 1) := by decide +kernel
theorem dL_add_27 : decode cL_add 27 = .ok (.iconst 0, 1) := by decide +kernel
theorem dL_add_28 : decode cL_add 28 = .ok (.ireturn, 1) := by decide +kernel
set_option maxRecDepth 20000 in
theorem ggL_pay_X2_pay : GoodIn wsL_pay wsX2_pay := goodIn_ca (goodIn_ca (goodIn_ca (goodIn_r _ [8, 9, 10, 11, 12, 13, 14, 15, 16, 17, 18, 7, 19, 20, 21, 22, 23, 24, 25, 26, 27, 28, 29, 30, 31, 32, 33, 34, 35, 36, 37, 38, 39, 40, 41, 42, 43, 44, 45, 46, 47, 48, 49, 50, 51, 52, 53, 54, 55, 56, 57, 58, 59, 60, 61, 62, 63, 64, 65, 66, 67, 68, 69, 70, 71, 72, 73] (by decide +kernel) (by decide +kernel)) (goodIn_sub (fun _ h => List.mem_cons_of_mem _ (List.mem_append_left _ (List.mem_append_left _ (List.mem_append_right _ h)))) (by decide +kernel))) (goodIn_sub (fun _ h => List.mem_cons_of_mem _ (List.mem_append_left _ (List.mem_append_right _ h))) (by decide +kernel))) (goodIn_sub (fun _ h => List.mem_cons_of_mem _ (List.mem_append_right _ h)) (by decide +kernel))
set_option maxRecDepth 20000 in
theorem gL_pay_X2_pay : GoodIn wsL_pay (wsV RL 23 RX2 yX2_pay wsX2_pay) := goodIn_app (goodIn_of _ (by decide +kernel)) ggL_pay_X2_pay
theorem dL_pay_0 : decode cL_pay 0 = .ok (.aload 4, 2) := by decide +kernel
theorem dL_pay_2 : decode cL_pay 2 = .ok (.iconst 0, 1) := by decide +kernel
theorem dL_pay_3 : decode cL_pay 3 = .ok (.aload_n 0, 1) := by decide +kernel
theorem dL_pay_4 : decode cL_pay 4 = .ok (.iload_n 1, 1) := by decide +kernel
theorem dL_pay_5 : decode cL_pay 5 = .ok (.iload_n 2, 1) := by decide +kernel
theorem dL_pay_6 : decode cL_pay 6 = .ok (.iload_n 3, 1) := by decide +kernel
theorem dL_pay_7 : decode cL_pay 7 = .ok (.invokevirtual 23, 3) := by decide +kernel
theorem dL_pay_10 : decode cL_pay 10 = .ok (.i2l, 1) := by decide +kernel
theorem dL_pay_11 : decode cL_pay 11 = .ok (.lastore, 1) := by decide +kernel
theorem dL_pay_12 : decode cL_pay 12 = .ok (.goto 15, 3) := by decide +kernel
theorem dL_pay_15 : decode cL_pay 15 = .ok (.astore 5, 2) := by decide +kernel
theorem dL_pay_17 : decode cL_pay 17 = .ok (.iconst 1, 1) := by decide +kernel
theorem dL_pay_18 : decode cL_pay 18 = .ok (.ireturn, 1) := by decide +kernel
theorem dL_pay_19 : decode cL_pay 19 = .ok (.astore 5, 2) := by decide +kernel
theorem dL_pay_21 : decode cL_pay 21 = .ok (.iconst 2, 1) := by decide +kernel
theorem dL_pay_22 : decode cL_pay 22 = .ok (.ireturn, 1) := by decide +kernel
theorem dL_pay_23 : decode cL_pay 23 = .ok (.astore 5, 2) := by decide +kernel
theorem dL_pay_25 : decode cL_pay 25 = .ok (.iconst 3, 1) := by decide +kernel
theorem dL_pay_26 : decode cL_pay 26 = .ok (.ireturn, 1) := by decide +kernel
theorem dL_pay_27 : decode cL_pay 27 = .ok (.iconst 0, 1) := by decide +kernel
theorem dL_pay_28 : decode cL_pay 28 = .ok (.ireturn, 1) := by decide +kernel
set_option maxRecDepth 20000 in
theorem ggL_mayComeBack_X2_mayComeBack : GoodIn wsL_mayComeBack wsX2_mayComeBack := goodIn_ca (goodIn_ca (goodIn_r _ [7, 8, 9, 10, 6, 11, 12, 13, 14, 15, 16, 17, 18, 19, 20, 21, 22, 23, 24, 25, 26, 27, 28, 29, 30, 31, 32, 33, 34, 35, 36, 37, 38, 39, 40, 41, 42, 43, 44, 45, 46, 47, 48, 49, 50, 51, 52, 53, 54, 55, 56, 57, 58, 59, 60] (by decide +kernel) (by decide +kernel)) (goodIn_sub (fun _ h => List.mem_cons_of_mem _ (List.mem_append_left _ (List.mem_append_right _ h))) (by decide +kernel))) (goodIn_sub (fun _ h => List.mem_cons_of_mem _ (List.mem_append_right _ h)) (by decide +kernel))
set_option maxRecDepth 20000 in
theorem gL_mayComeBack_X2_mayComeBack : GoodIn wsL_mayComeBack (wsV RL 26 RX2 yX2_mayComeBack wsX2_mayComeBack) := goodIn_app (goodIn_of _ (by decide +kernel)) ggL_mayComeBack_X2_mayComeBack
theorem dL_mayComeBack_0 : decode cL_mayComeBack 0 = .ok (.aload 4, 2) := by decide +kernel
theorem dL_mayComeBack_2 : decode cL_mayComeBack 2 = .ok (.iconst 0, 1) := by decide +kernel
theorem dL_mayComeBack_3 : decode cL_mayComeBack 3 = .ok (.aload_n 0, 1) := by decide +kernel
theorem dL_mayComeBack_4 : decode cL_mayComeBack 4 = .ok (.iload_n 1, 1) := by decide +kernel
theorem dL_mayComeBack_5 : decode cL_mayComeBack 5 = .ok (.iload_n 2, 1) := by decide +kernel
theorem dL_mayComeBack_6 : decode cL_mayComeBack 6 = .ok (.iload_n 3, 1) := by decide +kernel
theorem dL_mayComeBack_7 : decode cL_mayComeBack 7 = .ok (.invokevirtual 26, 3) := by decide +kernel
theorem dL_mayComeBack_10 : decode cL_mayComeBack 10 = .ok (.ifCond .eq 7, 3) := by decide +kernel
theorem dL_mayComeBack_13 : decode cL_mayComeBack 13 = .ok (.lconst 1, 1) := by decide +kernel
theorem dL_mayComeBack_14 : decode cL_mayComeBack 14 = .ok (.goto 4, 3) := by decide +kernel
theorem dL_mayComeBack_17 : decode cL_mayComeBack 17 = .ok (.lconst 0, 1) := by decide +kernel
theorem dL_mayComeBack_18 : decode cL_mayComeBack 18 = .ok (.lastore, 1) := by decide +kernel
theorem dL_mayComeBack_19 : decode cL_mayComeBack 19 = .ok (.goto 11, 3) := by decide +kernel
theorem dL_mayComeBack_22 : decode cL_mayComeBack 22 = .ok (.astore 5, 2) := by decide +kernel
theorem dL_mayComeBack_24 : decode cL_mayComeBack 24 = .ok (.iconst 1, 1) := by decide +kernel
theorem dL_mayComeBack_25 : decode cL_mayComeBack 25 = .ok (.ireturn, 1) := by decide +kernel
theorem dL_mayComeBack_26 : decode cL_mayComeBack 26 = .ok (.astore 5, 2) := by decide +kernel
theorem dL_mayComeBack_28 : decode cL_mayComeBack 28 = .ok (.iconst 2, 1) := by decide +kernel
theorem dL_mayComeBack_29 : decode cL_mayComeBack 29 = .ok (.ireturn, 1) := by decide +kernel
theorem dL_mayComeBack_30 : decode cL_mayComeBack 30 = .ok (.iconst 0, 1) := by decide +kernel
theorem dL_mayComeBack_31 : decode cL_mayComeBack 31 = .ok (.ireturn, 1) := by decide +kernel
set_option maxRecDepth 20000 in
theorem ggL_ask_X2_ask : GoodIn wsL_ask wsX2_ask := goodIn_ca (goodIn_ca (goodIn_ca (goodIn_r _ [8, 9, 10, 11, 7, 12, 13, 14, 15, 16, 17, 18, 19, 20, 21, 22, 23, 24, 25, 26, 27, 28, 29, 30, 31, 32, 33, 34, 35, 36, 37, 38, 39, 40, 41, 42, 43, 44, 45, 46, 47, 48, 49, 50, 51, 52, 53, 54, 55, 56, 57, 58, 59, 60, 61, 62, 63, 64, 65, 66, 67, 68, 69] (by decide +kernel) (by decide +kernel)) (goodIn_sub (fun _ h => List.mem_cons_of_mem _ (List.mem_append_left _ (List.mem_append_left _ (List.mem_append_right _ h)))) (by decide +kernel))) (goodIn_sub (fun _ h => List.mem_cons_of_mem _ (List.mem_append_left _ (List.mem_append_right _ h))) (by decide +kernel))) (goodIn_sub (fun _ h => List.mem_cons_of_mem _ (List.mem_append_right _ h)) (by decide +kernel))
set_option maxRecDepth 20000 in
theorem gL_ask_X2_ask : GoodIn wsL_ask (wsV RL 30 RX2 yX2_ask wsX2_ask) := goodIn_app (goodIn_of _ (by decide +kernel)) ggL_ask_X2_ask
theorem dL_ask_0 : decode cL_ask 0 = .ok (.aload 4, 2) := by decide +kernel
theorem dL_ask_2 : decode cL_ask 2 = .ok (.iconst 0, 1) := by decide +kernel
theorem dL_ask_3 : decode cL_ask 3 = .ok (.aload_n 0, 1) := by decide +kernel
theorem dL_ask_4 : decode cL_ask 4 = .ok (.iload_n 1, 1) := by decide +kernel
theorem dL_ask_5 : decode cL_ask 5 = .ok (.iload_n 2, 1) := by decide +kernel
theorem dL_ask_6 : decode cL_ask 6 = .ok (.iload_n 3, 1) := by decide +kernel
theorem dL_ask_7 : decode cL_ask 7 = .ok (.invokevirtual 30, 3) := by decide +kernel
theorem dL_ask_10 : decode cL_ask 10 = .ok (.i2l, 1) := by decide +kernel
theorem dL_ask_11 : decode cL_ask 11 = .ok (.lastore, 1) := by decide +kernel
theorem dL_ask_12 : decode cL_ask 12 = .ok (.goto 15, 3) := by decide +kernel
theorem dL_ask_15 : decode cL_ask 15 = .ok (.astore 5, 2) := by decide +kernel
theorem dL_ask_17 : decode cL_ask 17 = .ok (.iconst 1, 1) := by decide +kernel
theorem dL_ask_18 : decode cL_ask 18 = .ok (.ireturn, 1) := by decide +kernel
theorem dL_ask_19 : decode cL_ask 19 = .ok (.astore 5, 2) := by decide +kernel
theorem dL_ask_21 : decode cL_ask 21 = .ok (.iconst 2, 1) := by decide +kernel
theorem dL_ask_22 : decode cL_ask 22 = .ok (.ireturn, 1) := by decide +kernel
theorem dL_ask_23 : decode cL_ask 23 = .ok (.astore 5, 2) := by decide +kernel
theorem dL_ask_25 : decode cL_ask 25 = .ok (.iconst 3, 1) := by decide +kernel
theorem dL_ask_26 : decode cL_ask 26 = .ok (.ireturn, 1) := by decide +kernel
theorem dL_ask_27 : decode cL_ask 27 = .ok (.iconst 0, 1) := by decide +kernel
theorem dL_ask_28 : decode cL_ask 28 = .ok (.ireturn, 1) := by decide +kernel
set_option maxRecDepth 20000 in
theorem ggL_exchange_X2_exchange : GoodIn wsL_exchange wsX2_exchange := goodIn_ca (goodIn_ca (goodIn_ca (goodIn_r _ [8, 9, 10, 11, 7, 12, 13, 14, 15, 16, 17, 18, 19, 20, 21, 22, 23, 24, 25, 26, 27, 28, 29, 30, 31, 32, 33, 34, 35, 36, 37, 38, 39, 40, 41, 42, 43, 44, 45, 46, 47, 48, 49, 50, 51, 52, 53, 54, 55, 56, 57, 58, 59, 60, 61, 62, 63, 64, 65, 66, 67, 68, 69] (by decide +kernel) (by decide +kernel)) (goodIn_sub (fun _ h => List.mem_cons_of_mem _ (List.mem_append_left _ (List.mem_append_left _ (List.mem_append_right _ h)))) (by decide +kernel))) (goodIn_sub (fun _ h => List.mem_cons_of_mem _ (List.mem_append_left _ (List.mem_append_right _ h))) (by decide +kernel))) (goodIn_sub (fun _ h => List.mem_cons_of_mem _ (List.mem_append_right _ h)) (by decide +kernel))
set_option maxRecDepth 20000 in
theorem gL_exchange_X2_exchange : GoodIn wsL_exchange (wsV RL 33 RX2 yX2_exchange wsX2_exchange) := goodIn_app (goodIn_of _ (by decide +kernel)) ggL_exchange_X2_exchange
theorem dL_exchange_0 : decode cL_exchange 0 = .ok (.aload 4, 2) := by decide +kernel
theorem dL_exchange_2 : decode cL_exchange 2 = .ok (.iconst 0, 1) := by decide +kernel
theorem dL_exchange_3 : decode cL_exchange 3 = .ok (.aload_n 0, 1) := by decide +kernel
theorem dL_exchange_4 : decode cL_exchange 4 = .ok (.iload_n 1, 1) := by decide +kernel
theorem dL_exchange_5 : decode cL_exchange 5 = .ok (.iload_n 2, 1) := by decide +kernel
theorem dL_exchange_6 : decode cL_exchange 6 = .ok (.iload_n 3, 1) := by decide +kernel
theorem dL_exchange_7 : decode cL_exchange 7 = .ok (.invokevirtual 33, 3) := by decide +kernel
theorem dL_exchange_10 : decode cL_exchange 10 = .ok (.i2l, 1) := by decide +kernel
theorem dL_exchange_11 : decode cL_exchange 11 = .ok (.lastore, 1) := by decide +kernel
theorem dL_exchange_12 : decode cL_exchange 12 = .ok (.goto 15, 3) := by decide +kernel
theorem dL_exchange_15 : decode cL_exchange 15 = .ok (.astore 5, 2) := by decide +kernel
theorem dL_exchange_17 : decode cL_exchange 17 = .ok (.iconst 1, 1) := by decide +kernel
theorem dL_exchange_18 : decode cL_exchange 18 = .ok (.ireturn, 1) := by decide +kernel
theorem dL_exchange_19 : decode cL_exchange 19 = .ok (.astore 5, 2) := by decide +kernel
theorem dL_exchange_21 : decode cL_exchange 21 = .ok (.iconst 2, 1) := by decide +kernel
theorem dL_exchange_22 : decode cL_exchange 22 = .ok (.ireturn, 1) := by decide +kernel
theorem dL_exchange_23 : decode cL_exchange 23 = .ok (.astore 5, 2) := by decide +kernel
theorem dL_exchange_25 : decode cL_exchange 25 = .ok (.iconst 3, 1) := by decide +kernel
theorem dL_exchange_26 : decode cL_exchange 26 = .ok (.ireturn, 1) := by decide +kernel
theorem dL_exchange_27 : decode cL_exchange 27 = .ok (.iconst 0, 1) := by decide +kernel
theorem dL_exchange_28 : decode cL_exchange 28 = .ok (.ireturn, 1) := by decide +kernel
set_option maxRecDepth 20000 in
theorem ggL_grade_X2_grade : GoodIn wsL_grade wsX2_grade := goodIn_ca (goodIn_ca (goodIn_ca (goodIn_r _ [8, 9, 10, 11, 12, 13, 14, 15, 16, 7, 17, 18, 19, 20, 21, 22, 23, 24, 25, 26, 27, 28, 29, 30, 31, 32, 33, 34, 35, 36, 37, 38, 39, 40, 41, 42, 43, 44, 45, 46, 47, 48, 49, 50, 51, 52, 53, 54, 55, 56, 57, 58, 59, 60, 61, 62, 63, 64, 65, 66, 67, 68, 69, 70, 71, 72, 73, 74, 75, 76, 77, 78, 79, 80, 81, 82, 83, 84, 85, 86, 87, 88, 89, 90, 91, 92, 93, 94, 95, 96, 97, 98, 99, 100, 101, 102, 103, 104, 105, 106, 107, 108, 109, 110, 111] (by decide +kernel) (by decide +kernel)) (goodIn_sub (fun _ h => List.mem_cons_of_mem _ (List.mem_append_left _ (List.mem_append_left _ (List.mem_append_right _ h)))) (by decide +kernel))) (goodIn_sub (fun _ h => List.mem_cons_of_mem _ (List.mem_append_left _ (List.mem_append_right _ h))) (by decide +kernel))) (goodIn_sub (fun _ h => List.mem_cons_of_mem _ (List.mem_append_right _ h)) (by decide +kernel))
set_option maxRecDepth 20000 in
theorem gL_grade_X2_grade : GoodIn wsL_grade (wsV RL 36 RX2 yX2_grade wsX2_grade) := goodIn_app (goodIn_of _ (by decide +kernel)) ggL_grade_X2_grade
theorem dL_grade_0 : decode cL_grade 0 = .ok (.aload 4, 2) := by decide +kernel
theorem dL_grade_2 : decode cL_grade 2 = .ok (.iconst 0, 1) := by decide +kernel
theorem dL_grade_3 : decode cL_grade 3 = .ok (.aload_n 0, 1) := by decide +kernel
theorem dL_grade_4 : decode cL_grade 4 = .ok (.iload_n 1, 1) := by decide +kernel
theorem dL_grade_5 : decode cL_grade 5 = .ok (.iload_n 2, 1) := by decide +kernel
theorem dL_grade_6 : decode cL_grade 6 = .ok (.iload_n 3, 1) := by decide +kernel
theorem dL_grade_7 : decode cL_grade 7 = .ok (.invokevirtual 36, 3) := by decide +kernel
theorem dL_grade_10 : decode cL_grade 10 = .ok (.i2l, 1) := by decide +kernel
theorem dL_grade_11 : decode cL_grade 11 = .ok (.lastore, 1) := by decide +kernel
theorem dL_grade_12 : decode cL_grade 12 = .ok (.goto 15, 3) := by decide +kernel
theorem dL_grade_15 : decode cL_grade 15 = .ok (.astore 5, 2) := by decide +kernel
theorem dL_grade_17 : decode cL_grade 17 = .ok (.iconst 1, 1) := by decide +kernel
theorem dL_grade_18 : decode cL_grade 18 = .ok (.ireturn, 1) := by decide +kernel
theorem dL_grade_19 : decode cL_grade 19 = .ok (.astore 5, 2) := by decide +kernel
theorem dL_grade_21 : decode cL_grade 21 = .ok (.iconst 2, 1) := by decide +kernel
theorem dL_grade_22 : decode cL_grade 22 = .ok (.ireturn, 1) := by decide +kernel
theorem dL_grade_23 : decode cL_grade 23 = .ok (.astore 5, 2) := by decide +kernel
theorem dL_grade_25 : decode cL_grade 25 = .ok (.iconst 3, 1) := by decide +kernel
theorem dL_grade_26 : decode cL_grade 26 = .ok (.ireturn, 1) := by decide +kernel
theorem dL_grade_27 : decode cL_grade 27 = .ok (.iconst 0, 1) := by decide +kernel
theorem dL_grade_28 : decode cL_grade 28 = .ok (.ireturn, 1) := by decide +kernel
set_option maxRecDepth 20000 in
theorem ggL_state_X2_state : GoodIn wsL_state wsX2_state := goodIn_ca (goodIn_r _ [6, 7, 8, 9, 10, 5, 11, 12, 13, 14, 15, 16, 17, 18, 19, 20, 21, 22, 23, 24, 25, 26, 27, 28, 29, 30, 31, 32, 33, 34, 35, 36, 37, 38, 39, 40, 41] (by decide +kernel) (by decide +kernel)) (goodIn_sub (fun _ h => List.mem_cons_of_mem _ (List.mem_append_right _ h)) (by decide +kernel))
set_option maxRecDepth 20000 in
theorem gL_state_X2_state : GoodIn wsL_state (wsV RL 39 RX2 yX2_state wsX2_state) := goodIn_app (goodIn_of _ (by decide +kernel)) ggL_state_X2_state
theorem dL_state_0 : decode cL_state 0 = .ok (.aload_n 3, 1) := by decide +kernel
theorem dL_state_1 : decode cL_state 1 = .ok (.iconst 0, 1) := by decide +kernel
theorem dL_state_2 : decode cL_state 2 = .ok (.aload_n 0, 1) := by decide +kernel
theorem dL_state_3 : decode cL_state 3 = .ok (.iload_n 1, 1) := by decide +kernel
theorem dL_state_4 : decode cL_state 4 = .ok (.iload_n 2, 1) := by decide +kernel
theorem dL_state_5 : decode cL_state 5 = .ok (.invokevirtual 39, 3) := by decide +kernel
theorem dL_state_8 : decode cL_state 8 = .ok (.i2l, 1) := by decide +kernel
theorem dL_state_9 : decode cL_state 9 = .ok (.lastore, 1) := by decide +kernel
theorem dL_state_10 : decode cL_state 10 = .ok (.goto 7, 3) := by decide +kernel
theorem dL_state_13 : decode cL_state 13 = .ok (.astore 4, 2) := by decide +kernel
theorem dL_state_15 : decode cL_state 15 = .ok (.iconst 1, 1) := by decide +kernel
theorem dL_state_16 : decode cL_state 16 = .ok (.ireturn, 1) := by decide +kernel
theorem dL_state_17 : decode cL_state 17 = .ok (.iconst 0, 1) := by decide +kernel
theorem dL_state_18 : decode cL_state 18 = .ok (.ireturn, 1) := by decide +kernel
set_option maxRecDepth 20000 in
theorem ggL_price_X2_price : GoodIn wsL_price wsX2_price := goodIn_ca (goodIn_r _ [6, 7, 8, 9, 5, 10, 11, 12, 13, 14, 15, 16, 17, 18, 19, 20, 21, 22, 23, 24, 25, 26, 27, 28, 29, 30, 31, 32, 33, 34, 35, 36, 37, 38, 39, 40, 41, 42, 43, 44, 45, 46] (by decide +kernel) (by decide +kernel)) (goodIn_sub (fun _ h => List.mem_cons_of_mem _ (List.mem_append_right _ h)) (by decide +kernel))
set_option maxRecDepth 20000 in
theorem gL_price_X2_price : GoodIn wsL_price (wsV RL 42 RX2 yX2_price wsX2_price) := goodIn_app (goodIn_of _ (by decide +kernel)) ggL_price_X2_price
theorem dL_price_0 : decode cL_price 0 = .ok (.aload_n 2, 1) := by decide +kernel
theorem dL_price_1 : decode cL_price 1 = .ok (.iconst 0, 1) := by decide +kernel
theorem dL_price_2 : decode cL_price 2 = .ok (.aload_n 0, 1) := by decide +kernel
theorem dL_price_3 : decode cL_price 3 = .ok (.iload_n 1, 1) := by decide +kernel
theorem dL_price_4 : decode cL_price 4 = .ok (.invokevirtual 42, 3) := by decide +kernel
theorem dL_price_7 : decode cL_price 7 = .ok (.i2l, 1) := by decide +kernel
theorem dL_price_8 : decode cL_price 8 = .ok (.lastore, 1) := by decide +kernel
theorem dL_price_9 : decode cL_price 9 = .ok (.goto 6, 3) := by decide +kernel
theorem dL_price_12 : decode cL_price 12 = .ok (.astore_n 3, 1) := by decide +kernel
theorem dL_price_13 : decode cL_price 13 = .ok (.iconst 1, 1) := by decide +kernel
theorem dL_price_14 : decode cL_price 14 = .ok (.ireturn, 1) := by decide +kernel
theorem dL_price_15 : decode cL_price 15 = .ok (.iconst 0, 1) := by decide +kernel
theorem dL_price_16 : decode cL_price 16 = .ok (.ireturn, 1) := by decide +kernel
set_option maxRecDepth 20000 in
theorem ggL_fees_X2_fees : GoodIn wsL_fees wsX2_fees := goodIn_ca (goodIn_r _ [6, 7, 8, 9, 10, 5, 11, 12, 13, 14, 15, 16, 17, 18, 19, 20, 21, 22, 23, 24, 25, 26, 27, 28, 29, 30, 31, 32] (by decide +kernel) (by decide +kernel)) (goodIn_sub (fun _ h => List.mem_cons_of_mem _ (List.mem_append_right _ h)) (by decide +kernel))
set_option maxRecDepth 20000 in
theorem gL_fees_X2_fees : GoodIn wsL_fees (wsV RL 46 RX2 yX2_fees wsX2_fees) := goodIn_app (goodIn_of _ (by decide +kernel)) ggL_fees_X2_fees
theorem dL_fees_0 : decode cL_fees 0 = .ok (.aload_n 2, 1) := by decide +kernel
theorem dL_fees_1 : decode cL_fees 1 = .ok (.iconst 0, 1) := by decide +kernel
theorem dL_fees_2 : decode cL_fees 2 = .ok (.aload_n 0, 1) := by decide +kernel
theorem dL_fees_3 : decode cL_fees 3 = .ok (.iload_n 1, 1) := by decide +kernel
theorem dL_fees_4 : decode cL_fees 4 = .ok (.invokevirtual 46, 3) := by decide +kernel
theorem dL_fees_7 : decode cL_fees 7 = .ok (.i2l, 1) := by decide +kernel
theorem dL_fees_8 : decode cL_fees 8 = .ok (.lastore, 1) := by decide +kernel
theorem dL_fees_9 : decode cL_fees 9 = .ok (.goto 6, 3) := by decide +kernel
theorem dL_fees_12 : decode cL_fees 12 = .ok (.astore_n 3, 1) := by decide +kernel
theorem dL_fees_13 : decode cL_fees 13 = .ok (.iconst 1, 1) := by decide +kernel
theorem dL_fees_14 : decode cL_fees 14 = .ok (.ireturn, 1) := by decide +kernel
theorem dL_fees_15 : decode cL_fees 15 = .ok (.iconst 0, 1) := by decide +kernel
theorem dL_fees_16 : decode cL_fees 16 = .ok (.ireturn, 1) := by decide +kernel
set_option maxRecDepth 20000 in
theorem ggL_charges_X2_charges : GoodIn wsL_charges wsX2_charges := goodIn_ca (goodIn_r _ [6, 7, 8, 9, 10, 5, 11, 12, 13, 14, 15, 16, 17, 18, 19, 20, 21, 22, 23, 24, 25, 26, 27, 28, 29, 30, 31, 32] (by decide +kernel) (by decide +kernel)) (goodIn_sub (fun _ h => List.mem_cons_of_mem _ (List.mem_append_right _ h)) (by decide +kernel))
set_option maxRecDepth 20000 in
theorem gL_charges_X2_charges : GoodIn wsL_charges (wsV RL 49 RX2 yX2_charges wsX2_charges) := goodIn_app (goodIn_of _ (by decide +kernel)) ggL_charges_X2_charges
theorem dL_charges_0 : decode cL_charges 0 = .ok (.aload_n 2, 1) := by decide +kernel
theorem dL_charges_1 : decode cL_charges 1 = .ok (.iconst 0, 1) := by decide +kernel
theorem dL_charges_2 : decode cL_charges 2 = .ok (.aload_n 0, 1) := by decide +kernel
theorem dL_charges_3 : decode cL_charges 3 = .ok (.iload_n 1, 1) := by decide +kernel
theorem dL_charges_4 : decode cL_charges 4 = .ok (.invokevirtual 49, 3) := by decide +kernel
theorem dL_charges_7 : decode cL_charges 7 = .ok (.i2l, 1) := by decide +kernel
theorem dL_charges_8 : decode cL_charges 8 = .ok (.lastore, 1) := by decide +kernel
theorem dL_charges_9 : decode cL_charges 9 = .ok (.goto 6, 3) := by decide +kernel
theorem dL_charges_12 : decode cL_charges 12 = .ok (.astore_n 3, 1) := by decide +kernel
theorem dL_charges_13 : decode cL_charges 13 = .ok (.iconst 1, 1) := by decide +kernel
theorem dL_charges_14 : decode cL_charges 14 = .ok (.ireturn, 1) := by decide +kernel
theorem dL_charges_15 : decode cL_charges 15 = .ok (.iconst 0, 1) := by decide +kernel
theorem dL_charges_16 : decode cL_charges 16 = .ok (.ireturn, 1) := by decide +kernel
set_option maxRecDepth 20000 in
theorem ggL_taken_X2_taken : GoodIn wsL_taken wsX2_taken := goodIn_ca (goodIn_ca (goodIn_r _ [7, 8, 9, 10, 11, 12, 13, 6, 14, 15, 16, 17, 18, 19, 20, 21, 22, 23, 24, 25, 26, 27, 28, 29, 30, 31, 32, 33, 34, 35, 36, 37, 38, 39, 40] (by decide +kernel) (by decide +kernel)) (goodIn_sub (fun _ h => List.mem_cons_of_mem _ (List.mem_append_left _ (List.mem_append_right _ h))) (by decide +kernel))) (goodIn_sub (fun _ h => List.mem_cons_of_mem _ (List.mem_append_right _ h)) (by decide +kernel))
set_option maxRecDepth 20000 in
theorem gL_taken_X2_taken : GoodIn wsL_taken (wsV RL 52 RX2 yX2_taken wsX2_taken) := goodIn_app (goodIn_of _ (by decide +kernel)) ggL_taken_X2_taken
theorem dL_taken_0 : decode cL_taken 0 = .ok (.aload_n 3, 1) := by decide +kernel
theorem dL_taken_1 : decode cL_taken 1 = .ok (.iconst 0, 1) := by decide +kernel
theorem dL_taken_2 : decode cL_taken 2 = .ok (.aload_n 0, 1) := by decide +kernel
theorem dL_taken_3 : decode cL_taken 3 = .ok (.iload_n 1, 1) := by decide +kernel
theorem dL_taken_4 : decode cL_taken 4 = .ok (.iload_n 2, 1) := by decide +kernel
theorem dL_taken_5 : decode cL_taken 5 = .ok (.invokevirtual 52, 3) := by decide +kernel
theorem dL_taken_8 : decode cL_taken 8 = .ok (.i2l, 1) := by decide +kernel
theorem dL_taken_9 : decode cL_taken 9 = .ok (.lastore, 1) := by decide +kernel
theorem dL_taken_10 : decode cL_taken 10 = .ok (.goto 11, 3) := by decide +kernel
theorem dL_taken_13 : decode cL_taken 13 = .ok (.astore 4, 2) := by decide +kernel
theorem dL_taken_15 : decode cL_taken 15 = .ok (.iconst 1, 1) := by decide +kernel
theorem dL_taken_16 : decode cL_taken 16 = .ok (.ireturn, 1) := by decide +kernel
theorem dL_taken_17 : decode cL_taken 17 = .ok (.astore 4, 2) := by decide +kernel
theorem dL_taken_19 : decode cL_taken 19 = .ok (.iconst 2, 1) := by decide +kernel
theorem dL_taken_20 : decode cL_taken 20 = .ok (.ireturn, 1) := by decide +kernel
theorem dL_taken_21 : decode cL_taken 21 = .ok (.iconst 0, 1) := by decide +kernel
theorem dL_taken_22 : decode cL_taken 22 = .ok (.ireturn, 1) := by decide +kernel
set_option maxRecDepth 20000 in
theorem ggL_refunded_X2_refunded : GoodIn wsL_refunded wsX2_refunded := goodIn_ca (goodIn_r _ [6, 7, 8, 9, 10, 5, 11, 12, 13, 14, 15, 16, 17, 18, 19, 20, 21, 22, 23, 24, 25, 26, 27, 28, 29, 30, 31, 32] (by decide +kernel) (by decide +kernel)) (goodIn_sub (fun _ h => List.mem_cons_of_mem _ (List.mem_append_right _ h)) (by decide +kernel))
set_option maxRecDepth 20000 in
theorem gL_refunded_X2_refunded : GoodIn wsL_refunded (wsV RL 55 RX2 yX2_refunded wsX2_refunded) := goodIn_app (goodIn_of _ (by decide +kernel)) ggL_refunded_X2_refunded
theorem dL_refunded_0 : decode cL_refunded 0 = .ok (.aload_n 2, 1) := by decide +kernel
theorem dL_refunded_1 : decode cL_refunded 1 = .ok (.iconst 0, 1) := by decide +kernel
theorem dL_refunded_2 : decode cL_refunded 2 = .ok (.aload_n 0, 1) := by decide +kernel
theorem dL_refunded_3 : decode cL_refunded 3 = .ok (.iload_n 1, 1) := by decide +kernel
theorem dL_refunded_4 : decode cL_refunded 4 = .ok (.invokevirtual 55, 3) := by decide +kernel
theorem dL_refunded_7 : decode cL_refunded 7 = .ok (.i2l, 1) := by decide +kernel
theorem dL_refunded_8 : decode cL_refunded 8 = .ok (.lastore, 1) := by decide +kernel
theorem dL_refunded_9 : decode cL_refunded 9 = .ok (.goto 6, 3) := by decide +kernel
theorem dL_refunded_12 : decode cL_refunded 12 = .ok (.astore_n 3, 1) := by decide +kernel
theorem dL_refunded_13 : decode cL_refunded 13 = .ok (.iconst 1, 1) := by decide +kernel
theorem dL_refunded_14 : decode cL_refunded 14 = .ok (.ireturn, 1) := by decide +kernel
theorem dL_refunded_15 : decode cL_refunded 15 = .ok (.iconst 0, 1) := by decide +kernel
theorem dL_refunded_16 : decode cL_refunded 16 = .ok (.ireturn, 1) := by decide +kernel
set_option maxRecDepth 20000 in
theorem ggL_isShortBy_X2_isShortBy : GoodIn wsL_isShortBy wsX2_isShortBy := goodIn_ca (goodIn_r _ [6, 7, 8, 9, 10, 11, 12, 13, 14, 5, 15, 16, 17, 18, 19, 20, 21, 22, 23, 24, 25, 26, 27, 28, 29, 30, 31, 32, 33, 34, 35, 36, 37, 38, 39, 40, 41, 42, 43, 44, 45, 46, 47, 48, 49, 50, 51, 52, 53, 54, 55, 56, 57, 58, 59, 60, 61, 62, 63, 64] (by decide +kernel) (by decide +kernel)) (goodIn_sub (fun _ h => List.mem_cons_of_mem _ (List.mem_append_right _ h)) (by decide +kernel))
set_option maxRecDepth 20000 in
theorem gL_isShortBy_X2_isShortBy : GoodIn wsL_isShortBy (wsV RL 58 RX2 yX2_isShortBy wsX2_isShortBy) := goodIn_app (goodIn_of _ (by decide +kernel)) ggL_isShortBy_X2_isShortBy
theorem dL_isShortBy_0 : decode cL_isShortBy 0 = .ok (.aload_n 2, 1) := by decide +kernel
theorem dL_isShortBy_1 : decode cL_isShortBy 1 = .ok (.iconst 0, 1) := by decide +kernel
theorem dL_isShortBy_2 : decode cL_isShortBy 2 = .ok (.aload_n 0, 1) := by decide +kernel
theorem dL_isShortBy_3 : decode cL_isShortBy 3 = .ok (.iload_n 1, 1) := by decide +kernel
theorem dL_isShortBy_4 : decode cL_isShortBy 4 = .ok (.invokevirtual 58, 3) := by decide +kernel
theorem dL_isShortBy_7 : decode cL_isShortBy 7 = .ok (.i2l, 1) := by decide +kernel
theorem dL_isShortBy_8 : decode cL_isShortBy 8 = .ok (.lastore, 1) := by decide +kernel
theorem dL_isShortBy_9 : decode cL_isShortBy 9 = .ok (.goto 6, 3) := by decide +kernel
theorem dL_isShortBy_12 : decode cL_isShortBy 12 = .ok (.astore_n 3, 1) := by decide +kernel
theorem dL_isShortBy_13 : decode cL_isShortBy 13 = .ok (.iconst 1, 1) := by decide +kernel
theorem dL_isShortBy_14 : decode cL_isShortBy 14 = .ok (.ireturn, 1) := by decide +kernel
theorem dL_isShortBy_15 : decode cL_isShortBy 15 = .ok (.iconst 0, 1) := by decide +kernel
theorem dL_isShortBy_16 : decode cL_isShortBy 16 = .ok (.ireturn, 1) := by decide +kernel
set_option maxRecDepth 20000 in
theorem ggL_stock_X2_stock : GoodIn wsL_stock wsX2_stock := goodIn_ca (goodIn_r _ [6, 7, 8, 9, 10, 11, 5, 12, 13, 14, 15, 16, 17, 18, 19, 20] (by decide +kernel) (by decide +kernel)) (goodIn_sub (fun _ h => List.mem_cons_of_mem _ (List.mem_append_right _ h)) (by decide +kernel))
set_option maxRecDepth 20000 in
theorem gL_stock_X2_stock : GoodIn wsL_stock (wsV RL 61 RX2 yX2_stock wsX2_stock) := goodIn_app (goodIn_of _ (by decide +kernel)) ggL_stock_X2_stock
theorem dL_stock_0 : decode cL_stock 0 = .ok (.aload_n 2, 1) := by decide +kernel
theorem dL_stock_1 : decode cL_stock 1 = .ok (.iconst 0, 1) := by decide +kernel
theorem dL_stock_2 : decode cL_stock 2 = .ok (.aload_n 0, 1) := by decide +kernel
theorem dL_stock_3 : decode cL_stock 3 = .ok (.iload_n 1, 1) := by decide +kernel
theorem dL_stock_4 : decode cL_stock 4 = .ok (.invokevirtual 61, 3) := by decide +kernel
theorem dL_stock_7 : decode cL_stock 7 = .ok (.i2l, 1) := by decide +kernel
theorem dL_stock_8 : decode cL_stock 8 = .ok (.lastore, 1) := by decide +kernel
theorem dL_stock_9 : decode cL_stock 9 = .ok (.goto 6, 3) := by decide +kernel
theorem dL_stock_12 : decode cL_stock 12 = .ok (.astore_n 3, 1) := by decide +kernel
theorem dL_stock_13 : decode cL_stock 13 = .ok (.iconst 1, 1) := by decide +kernel
theorem dL_stock_14 : decode cL_stock 14 = .ok (.ireturn, 1) := by decide +kernel
theorem dL_stock_15 : decode cL_stock 15 = .ok (.iconst 0, 1) := by decide +kernel
theorem dL_stock_16 : decode cL_stock 16 = .ok (.ireturn, 1) := by decide +kernel
set_option maxRecDepth 20000 in
theorem ggL_pass_X2_pass : GoodIn wsL_pass wsX2_pass := goodIn_ca (goodIn_ca (goodIn_r _ [7, 8, 9, 10, 11, 12, 13, 6, 14, 15, 16, 17, 18, 19, 20, 21, 22, 23, 24, 25, 26, 27, 28, 29, 30, 31, 32, 33, 34, 35, 36, 37, 38, 39, 40, 41, 42, 43, 44, 45, 46, 47, 48, 49, 50, 51, 52, 53, 54, 55, 56, 57, 58, 59, 60] (by decide +kernel) (by decide +kernel)) (goodIn_sub (fun _ h => List.mem_cons_of_mem _ (List.mem_append_left _ (List.mem_append_right _ h))) (by decide +kernel))) (goodIn_sub (fun _ h => List.mem_cons_of_mem _ (List.mem_append_right _ h)) (by decide +kernel))
set_option maxRecDepth 20000 in
theorem gL_pass_X2_pass : GoodIn wsL_pass (wsV RL 64 RX2 yX2_pass wsX2_pass) := goodIn_app (goodIn_of _ (by decide +kernel)) ggL_pass_X2_pass
theorem dL_pass_0 : decode cL_pass 0 = .ok (.aload_n 2, 1) := by decide +kernel
theorem dL_pass_1 : decode cL_pass 1 = .ok (.iconst 0, 1) := by decide +kernel
theorem dL_pass_2 : decode cL_pass 2 = .ok (.aload_n 0, 1) := by decide +kernel
theorem dL_pass_3 : decode cL_pass 3 = .ok (.iload_n 1, 1) := by decide +kernel
theorem dL_pass_4 : decode cL_pass 4 = .ok (.invokevirtual 64, 3) := by decide +kernel
theorem dL_pass_7 : decode cL_pass 7 = .ok (.i2l, 1) := by decide +kernel
theorem dL_pass_8 : decode cL_pass 8 = .ok (.lastore, 1) := by decide +kernel
theorem dL_pass_9 : decode cL_pass 9 = .ok (.goto 9, 3) := by decide +kernel
theorem dL_pass_12 : decode cL_pass 12 = .ok (.astore_n 3, 1) := by decide +kernel
theorem dL_pass_13 : decode cL_pass 13 = .ok (.iconst 1, 1) := by decide +kernel
theorem dL_pass_14 : decode cL_pass 14 = .ok (.ireturn, 1) := by decide +kernel
theorem dL_pass_15 : decode cL_pass 15 = .ok (.astore_n 3, 1) := by decide +kernel
theorem dL_pass_16 : decode cL_pass 16 = .ok (.iconst 2, 1) := by decide +kernel
theorem dL_pass_17 : decode cL_pass 17 = .ok (.ireturn, 1) := by decide +kernel
theorem dL_pass_18 : decode cL_pass 18 = .ok (.iconst 0, 1) := by decide +kernel
theorem dL_pass_19 : decode cL_pass 19 = .ok (.ireturn, 1) := by decide +kernel
