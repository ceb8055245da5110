set_option maxRecDepth 20000 in
theorem ggX0_init_X8_init : GoodIn wsX0_init wsX8_init := goodIn_r _ [12, 13, 2, 3, 14, 15, 16] (by decide +kernel) (by decide +kernel)
set_option maxRecDepth 20000 in
theorem gX0_init_X8_init : GoodIn wsX0_init (wsX8_init) := ggX0_init_X8_init
theorem dX0_init_0 : decode cX0_init 0 = .ok (.aload_n 0, 1) := by decide +kernel
theorem dX0_init_1 : decode cX0_init 1 = .ok (.invokespecial 3, 3) := by decide +kernel
theorem dX0_init_4 : decode cX0_init 4 = .ok (.aload_n 0, 1) := by decide +kernel
theorem dX0_init_5 : decode cX0_init 5 = .ok (.new 9, 3) := by decide +kernel
theorem dX0_init_8 : decode cX0_init 8 = .ok (.dup, 1) := by decide +kernel
theorem dX0_init_9 : decode cX0_init 9 = .ok (.bipush 7, 2) := by decide +kernel
theorem dX0_init_11 : decode cX0_init 11 = .ok (.invokespecial 11, 3) := by decide +kernel
theorem dX0_init_14 : decode cX0_init 14 = .ok (.putfield 14, 3) := by decide +kernel
theorem dX0_init_17 : decode cX0_init 17 = .ok (.aload_n 0, 1) := by decide +kernel
theorem dX0_init_18 : decode cX0_init 18 = .ok (.new 9, 3) := by decide +kernel
theorem dX0_init_21 : decode cX0_init 21 = .ok (.dup, 1) := by decide +kernel
theorem dX0_init_22 : decode cX0_init 22 = .ok (.bipush 10, 2) := by decide +kernel
theorem dX0_init_24 : decode cX0_init 24 = .ok (.invokespecial 11, 3) := by decide +kernel
theorem dX0_init_27 : decode cX0_init 27 = .ok (.putfield 20, 3) := by decide +kernel
theorem dX0_init_30 : decode cX0_init 30 = .ok (.aload_n 0, 1) := by decide +kernel
theorem dX0_init_31 : decode cX0_init 31 = .ok (.new 9, 3) := by decide +kernel
theorem dX0_init_34 : decode cX0_init 34 = .ok (.dup, 1) := by decide +kernel
theorem dX0_init_35 : decode cX0_init 35 = .ok (.bipush 7, 2) := by decide +kernel
theorem dX0_init_37 : decode cX0_init 37 = .ok (.invokespecial 11, 3) := by decide +kernel
theorem dX0_init_40 : decode cX0_init 40 = .ok (.putfield 23, 3) := by decide +kernel
theorem dX0_init_43 : decode cX0_init 43 = .ok (.return_, 1) := by decide +kernel
set_option maxRecDepth 20000 in
theorem ggX0_blow_X0_findNearest : GoodIn wsX0_blow wsX0_findNearest := goodIn_r _ [7, 2, 8, 9, 10, 11, 12, 13, 14, 15, 16, 17, 18, 19, 20, 21, 22, 23, 24, 25, 26, 27, 6, 28, 56, 57, 58, 59, 60, 61, 62, 63, 64, 65, 66, 67] (by decide +kernel) (by decide +kernel)
set_option maxRecDepth 20000 in
theorem gX0_blow_X0_findNearest : GoodIn wsX0_blow (wsV RX0 26 RX0 yX0_findNearest wsX0_findNearest) := goodIn_app (goodIn_of _ (by decide +kernel)) ggX0_blow_X0_findNearest
set_option maxRecDepth 20000 in
theorem ggX0_blow_X8_get : GoodIn wsX0_blow wsX8_get := goodIn_r _ [24, 17, 67] (by decide +kernel) (by decide +kernel)
set_option maxRecDepth 20000 in
theorem gX0_blow_X8_get : GoodIn wsX0_blow (wsV RX0 30 RX8 yX8_get wsX8_get) := goodIn_app (goodIn_of _ (by decide +kernel)) ggX0_blow_X8_get
set_option maxRecDepth 20000 in
theorem ggX0_blow_X0_heightOf : GoodIn wsX0_blow wsX0_heightOf := goodIn_r _ [31, 32, 33, 34, 35, 36, 37, 38, 18, 19, 20, 39, 40, 41, 42, 43, 44, 45, 22, 23, 15, 24, 17, 60, 61, 62, 63, 64, 65, 66, 67] (by decide +kernel) (by decide +kernel)
set_option maxRecDepth 20000 in
theorem gX0_blow_X0_heightOf : GoodIn wsX0_blow (va_wsS RX0 34 yX0_heightOf wsX0_heightOf) := goodIn_app (goodIn_of _ (by decide +kernel)) ggX0_blow_X0_heightOf
set_option maxRecDepth 20000 in
theorem ggX0_blow_X8_set : GoodIn wsX0_blow wsX8_set := goodIn_r _ [16, 17, 67] (by decide +kernel) (by decide +kernel)
set_option maxRecDepth 20000 in
theorem gX0_blow_X8_set : GoodIn wsX0_blow (wsV RX0 38 RX8 yX8_set wsX8_set) := goodIn_app (goodIn_of _ (by decide +kernel)) ggX0_blow_X8_set
set_option maxRecDepth 20000 in
theorem ggX0_blow_X0_findFlows : GoodIn wsX0_blow wsX0_findFlows := goodIn_r _ [49, 50, 9, 10, 11, 51, 21, 22, 23, 15, 24, 17, 18, 19, 20, 52, 53, 54, 6, 55, 1, 12, 13, 14, 16, 56, 57, 58, 59, 60, 61, 62, 63, 64, 65, 66, 67] (by decide +kernel) (by decide +kernel)
set_option maxRecDepth 20000 in
theorem gX0_blow_X0_findFlows : GoodIn wsX0_blow (wsV RX0 42 RX0 yX0_findFlows wsX0_findFlows) := goodIn_app (goodIn_of _ (by decide +kernel)) ggX0_blow_X0_findFlows
theorem dX0_blow_0 : decode cX0_blow 0 = .ok (.aload_n 0, 1) := by decide +kernel
theorem dX0_blow_1 : decode cX0_blow 1 = .ok (.aload_n 1, 1) := by decide +kernel
theorem dX0_blow_2 : decode cX0_blow 2 = .ok (.iload_n 2, 1) := by decide +kernel
theorem dX0_blow_3 : decode cX0_blow 3 = .ok (.invokevirtual 26, 3) := by decide +kernel
theorem dX0_blow_6 : decode cX0_blow 6 = .ok (.iconst 0, 1) := by decide +kernel
theorem dX0_blow_7 : decode cX0_blow 7 = .ok (.istore 4, 2) := by decide +kernel
theorem dX0_blow_9 : decode cX0_blow 9 = .ok (.iload 4, 2) := by decide +kernel
theorem dX0_blow_11 : decode cX0_blow 11 = .ok (.bipush 7, 2) := by decide +kernel
theorem dX0_blow_13 : decode cX0_blow 13 = .ok (.if_icmp .ge 32, 3) := by decide +kernel
theorem dX0_blow_16 : decode cX0_blow 16 = .ok (.aload_n 0, 1) := by decide +kernel
theorem dX0_blow_17 : decode cX0_blow 17 = .ok (.getfield 14, 3) := by decide +kernel
theorem dX0_blow_20 : decode cX0_blow 20 = .ok (.iload 4, 2) := by decide +kernel
theorem dX0_blow_22 : decode cX0_blow 22 = .ok (.aload_n 0, 1) := by decide +kernel
theorem dX0_blow_23 : decode cX0_blow 23 = .ok (.getfield 23, 3) := by decide +kernel
theorem dX0_blow_26 : decode cX0_blow 26 = .ok (.iload 4, 2) := by decide +kernel
theorem dX0_blow_28 : decode cX0_blow 28 = .ok (.invokevirtual 30, 3) := by decide +kernel
theorem dX0_blow_31 : decode cX0_blow 31 = .ok (.aload_n 1, 1) := by decide +kernel
theorem dX0_blow_32 : decode cX0_blow 32 = .ok (.iload_n 3, 1) := by decide +kernel
theorem dX0_blow_33 : decode cX0_blow 33 = .ok (.invokestatic 34, 3) := by decide +kernel
theorem dX0_blow_36 : decode cX0_blow 36 = .ok (.invokevirtual 38, 3) := by decide +kernel
theorem dX0_blow_39 : decode cX0_blow 39 = .ok (.iinc 4 1, 3) := by decide +kernel
theorem dX0_blow_42 : decode cX0_blow 42 = .ok (.goto (-33), 3) := by decide +kernel
theorem dX0_blow_45 : decode cX0_blow 45 = .ok (.aload_n 0, 1) := by decide +kernel
theorem dX0_blow_46 : decode cX0_blow 46 = .ok (.aload_n 1, 1) := by decide +kernel
theorem dX0_blow_47 : decode cX0_blow 47 = .ok (.iload_n 2, 1) := by decide +kernel
theorem dX0_blow_48 : decode cX0_blow 48 = .ok (.invokevirtual 42, 3) := by decide +kernel
theorem dX0_blow_51 : decode cX0_blow 51 = .ok (.return_, 1) := by decide +kernel
set_option maxRecDepth 20000 in
theorem ggX0_findNearest_X8_set : GoodIn wsX0_findNearest wsX8_set := goodIn_r _ [10, 11, 35] (by decide +kernel) (by decide +kernel)
set_option maxRecDepth 20000 in
theorem gX0_findNearest_X8_set : GoodIn wsX0_findNearest (wsV RX0 38 RX8 yX8_set wsX8_set) := goodIn_app (goodIn_of _ (by decide +kernel)) ggX0_findNearest_X8_set
set_option maxRecDepth 20000 in
theorem ggX0_findNearest_X10_bit : GoodIn wsX0_findNearest wsX10_bit := goodIn_r _ [14] (by decide +kernel) (by decide +kernel)
set_option maxRecDepth 20000 in
theorem gX0_findNearest_X10_bit_n54 : GoodIn wsX0_findNearest (wsX10_bit) := ggX0_findNearest_X10_bit
set_option maxRecDepth 20000 in
theorem ggX0_findNearest_X8_get : GoodIn wsX0_findNearest wsX8_get := goodIn_r _ [18, 11, 35] (by decide +kernel) (by decide +kernel)
set_option maxRecDepth 20000 in
theorem gX0_findNearest_X8_get : GoodIn wsX0_findNearest (wsV RX0 30 RX8 yX8_get wsX8_get) := goodIn_app (goodIn_of _ (by decide +kernel)) ggX0_findNearest_X8_get
set_option maxRecDepth 20000 in
theorem ggX0_findNearest_X0_spread : GoodIn wsX0_findNearest wsX0_spread := goodIn_r _ [23, 1, 12, 13, 14, 15, 16, 17, 9, 18, 11, 6, 7, 8, 10, 24, 25, 26, 27, 35] (by decide +kernel) (by decide +kernel)
set_option maxRecDepth 20000 in
theorem gX0_findNearest_X0_spread : GoodIn wsX0_findNearest (wsV RX0 64 RX0 yX0_spread wsX0_spread) := goodIn_app (goodIn_of _ (by decide +kernel)) ggX0_findNearest_X0_spread
theorem dX0_findNearest_0 : decode cX0_findNearest 0 = .ok (.iconst 0, 1) := by decide +kernel
theorem dX0_findNearest_1 : decode cX0_findNearest 1 = .ok (.istore_n 3, 1) := by decide +kernel
theorem dX0_findNearest_2 : decode cX0_findNearest 2 = .ok (.iload_n 3, 1) := by decide +kernel
theorem dX0_findNearest_3 : decode cX0_findNearest 3 = .ok (.bipush 7, 2) := by decide +kernel
theorem dX0_findNearest_5 : decode cX0_findNearest 5 = .ok (.if_icmp .ge 25, 3) := by decide +kernel
theorem dX0_findNearest_8 : decode cX0_findNearest 8 = .ok (.aload_n 0, 1) := by decide +kernel
theorem dX0_findNearest_9 : decode cX0_findNearest 9 = .ok (.getfield 23, 3) := by decide +kernel
theorem dX0_findNearest_12 : decode cX0_findNearest 12 = .ok (.iload_n 3, 1) := by decide +kernel
theorem dX0_findNearest_13 : decode cX0_findNearest 13 = .ok (.aload_n 1, 1) := by decide +kernel
theorem dX0_findNearest_14 : decode cX0_findNearest 14 = .ok (.getfield 45, 3) := by decide +kernel
theorem dX0_findNearest_17 : decode cX0_findNearest 17 = .ok (.iconst 1, 1) := by decide +kernel
theorem dX0_findNearest_18 : decode cX0_findNearest 18 = .ok (.iload_n 3, 1) := by decide +kernel
theorem dX0_findNearest_19 : decode cX0_findNearest 19 = .ok (.ishl, 1) := by decide +kernel
theorem dX0_findNearest_20 : decode cX0_findNearest 20 = .ok (.iand, 1) := by decide +kernel
theorem dX0_findNearest_21 : decode cX0_findNearest 21 = .ok (.invokevirtual 38, 3) := by decide +kernel
theorem dX0_findNearest_24 : decode cX0_findNearest 24 = .ok (.iinc 3 1, 3) := by decide +kernel
theorem dX0_findNearest_27 : decode cX0_findNearest 27 = .ok (.goto (-25), 3) := by decide +kernel
theorem dX0_findNearest_30 : decode cX0_findNearest 30 = .ok (.aload_n 1, 1) := by decide +kernel
theorem dX0_findNearest_31 : decode cX0_findNearest 31 = .ok (.getfield 45, 3) := by decide +kernel
theorem dX0_findNearest_34 : decode cX0_findNearest 34 = .ok (.istore_n 3, 1) := by decide +kernel
theorem dX0_findNearest_35 : decode cX0_findNearest 35 = .ok (.iconst 1, 1) := by decide +kernel
theorem dX0_findNearest_36 : decode cX0_findNearest 36 = .ok (.istore 4, 2) := by decide +kernel
theorem dX0_findNearest_38 : decode cX0_findNearest 38 = .ok (.iload 4, 2) := by decide +kernel
theorem dX0_findNearest_40 : decode cX0_findNearest 40 = .ok (.bipush 7, 2) := by decide +kernel
theorem dX0_findNearest_42 : decode cX0_findNearest 42 = .ok (.if_icmp .ge 107, 3) := by decide +kernel
theorem dX0_findNearest_45 : decode cX0_findNearest 45 = .ok (.iconst 0, 1) := by decide +kernel
theorem dX0_findNearest_46 : decode cX0_findNearest 46 = .ok (.istore 5, 2) := by decide +kernel
theorem dX0_findNearest_48 : decode cX0_findNearest 48 = .ok (.iconst 0, 1) := by decide +kernel
theorem dX0_findNearest_49 : decode cX0_findNearest 49 = .ok (.istore 6, 2) := by decide +kernel
theorem dX0_findNearest_51 : decode cX0_findNearest 51 = .ok (.iload 6, 2) := by decide +kernel
theorem dX0_findNearest_53 : decode cX0_findNearest 53 = .ok (.aload_n 1, 1) := by decide +kernel
theorem dX0_findNearest_54 : decode cX0_findNearest 54 = .ok (.getfield 51, 3) := by decide +kernel
theorem dX0_findNearest_57 : decode cX0_findNearest 57 = .ok (.if_icmp .ge 75, 3) := by decide +kernel
theorem dX0_findNearest_60 : decode cX0_findNearest 60 = .ok (.iload_n 2, 1) := by decide +kernel
theorem dX0_findNearest_61 : decode cX0_findNearest 61 = .ok (.iload 6, 2) := by decide +kernel
theorem dX0_findNearest_63 : decode cX0_findNearest 63 = .ok (.invokestatic 54, 3) := by decide +kernel
theorem dX0_findNearest_66 : decode cX0_findNearest 66 = .ok (.iconst 1, 1) := by decide +kernel
theorem dX0_findNearest_67 : decode cX0_findNearest 67 = .ok (.if_icmp .ne 59, 3) := by decide +kernel
theorem dX0_findNearest_70 : decode cX0_findNearest 70 = .ok (.iload 5, 2) := by decide +kernel
theorem dX0_findNearest_72 : decode cX0_findNearest 72 = .ok (.aload_n 0, 1) := by decide +kernel
theorem dX0_findNearest_73 : decode cX0_findNearest 73 = .ok (.aload_n 1, 1) := by decide +kernel
theorem dX0_findNearest_74 : decode cX0_findNearest 74 = .ok (.getfield 58, 3) := by decide +kernel
theorem dX0_findNearest_77 : decode cX0_findNearest 77 = .ok (.iload 6, 2) := by decide +kernel
theorem dX0_findNearest_79 : decode cX0_findNearest 79 = .ok (.invokevirtual 30, 3) := by decide +kernel
theorem dX0_findNearest_82 : decode cX0_findNearest 82 = .ok (.aload_n 1, 1) := by decide +kernel
theorem dX0_findNearest_83 : decode cX0_findNearest 83 = .ok (.getfield 61, 3) := by decide +kernel
theorem dX0_findNearest_86 : decode cX0_findNearest 86 = .ok (.iload 6, 2) := by decide +kernel
theorem dX0_findNearest_88 : decode cX0_findNearest 88 = .ok (.invokevirtual 30, 3) := by decide +kernel
theorem dX0_findNearest_91 : decode cX0_findNearest 91 = .ok (.iload_n 3, 1) := by decide +kernel
theorem dX0_findNearest_92 : decode cX0_findNearest 92 = .ok (.invokevirtual 64, 3) := by decide +kernel
theorem dX0_findNearest_95 : decode cX0_findNearest 95 = .ok (.ior, 1) := by decide +kernel
theorem dX0_findNearest_96 : decode cX0_findNearest 96 = .ok (.istore 5, 2) := by decide +kernel
theorem dX0_findNearest_98 : decode cX0_findNearest 98 = .ok (.iload 5, 2) := by decide +kernel
theorem dX0_findNearest_100 : decode cX0_findNearest 100 = .ok (.aload_n 0, 1) := by decide +kernel
theorem dX0_findNearest_101 : decode cX0_findNearest 101 = .ok (.aload_n 1, 1) := by decide +kernel
theorem dX0_findNearest_102 : decode cX0_findNearest 102 = .ok (.getfield 61, 3) := by decide +kernel
theorem dX0_findNearest_105 : decode cX0_findNearest 105 = .ok (.iload 6, 2) := by decide +kernel
theorem dX0_findNearest_107 : decode cX0_findNearest 107 = .ok (.invokevirtual 30, 3) := by decide +kernel
theorem dX0_findNearest_110 : decode cX0_findNearest 110 = .ok (.aload_n 1, 1) := by decide +kernel
theorem dX0_findNearest_111 : decode cX0_findNearest 111 = .ok (.getfield 58, 3) := by decide +kernel
theorem dX0_findNearest_114 : decode cX0_findNearest 114 = .ok (.iload 6, 2) := by decide +kernel
theorem dX0_findNearest_116 : decode cX0_findNearest 116 = .ok (.invokevirtual 30, 3) := by decide +kernel
theorem dX0_findNearest_119 : decode cX0_findNearest 119 = .ok (.iload_n 3, 1) := by decide +kernel
theorem dX0_findNearest_120 : decode cX0_findNearest 120 = .ok (.invokevirtual 64, 3) := by decide +kernel
theorem dX0_findNearest_123 : decode cX0_findNearest 123 = .ok (.ior, 1) := by decide +kernel
theorem dX0_findNearest_124 : decode cX0_findNearest 124 = .ok (.istore 5, 2) := by decide +kernel
theorem dX0_findNearest_126 : decode cX0_findNearest 126 = .ok (.iinc 6 1, 3) := by decide +kernel
theorem dX0_findNearest_129 : decode cX0_findNearest 129 = .ok (.goto (-78), 3) := by decide +kernel
theorem dX0_findNearest_132 : decode cX0_findNearest 132 = .ok (.iload 5, 2) := by decide +kernel
theorem dX0_findNearest_134 : decode cX0_findNearest 134 = .ok (.ifCond .ne 4, 3) := by decide +kernel
theorem dX0_findNearest_137 : decode cX0_findNearest 137 = .ok (.return_, 1) := by decide +kernel
theorem dX0_findNearest_138 : decode cX0_findNearest 138 = .ok (.iload_n 3, 1) := by decide +kernel
theorem dX0_findNearest_139 : decode cX0_findNearest 139 = .ok (.iload 5, 2) := by decide +kernel
theorem dX0_findNearest_141 : decode cX0_findNearest 141 = .ok (.ior, 1) := by decide +kernel
theorem dX0_findNearest_142 : decode cX0_findNearest 142 = .ok (.istore_n 3, 1) := by decide +kernel
theorem dX0_findNearest_143 : decode cX0_findNearest 143 = .ok (.iinc 4 1, 3) := by decide +kernel
theorem dX0_findNearest_146 : decode cX0_findNearest 146 = .ok (.goto (-108), 3) := by decide +kernel
theorem dX0_findNearest_149 : decode cX0_findNearest 149 = .ok (.return_, 1) := by decide +kernel
set_option maxRecDepth 20000 in
theorem ggX0_spread_X10_bit : GoodIn wsX0_spread wsX10_bit := goodIn_r _ [4] (by decide +kernel) (by decide +kernel)
set_option maxRecDepth 20000 in
theorem gX0_spread_X10_bit_n54 : GoodIn wsX0_spread (wsX10_bit) := ggX0_spread_X10_bit
set_option maxRecDepth 20000 in
theorem ggX0_spread_X8_get : GoodIn wsX0_spread wsX8_get := goodIn_r _ [9, 10, 19] (by decide +kernel) (by decide +kernel)
set_option maxRecDepth 20000 in
theorem gX0_spread_X8_get : GoodIn wsX0_spread (wsV RX0 30 RX8 yX8_get wsX8_get) := goodIn_app (goodIn_of _ (by decide +kernel)) ggX0_spread_X8_get
set_option maxRecDepth 20000 in
theorem ggX0_spread_X8_set : GoodIn wsX0_spread wsX8_set := goodIn_r _ [14, 10, 19] (by decide +kernel) (by decide +kernel)
set_option maxRecDepth 20000 in
theorem gX0_spread_X8_set : GoodIn wsX0_spread (wsV RX0 38 RX8 yX8_set wsX8_set) := goodIn_app (goodIn_of _ (by decide +kernel)) ggX0_spread_X8_set
theorem dX0_spread_0 : decode cX0_spread 0 = .ok (.iload_n 3, 1) := by decide +kernel
theorem dX0_spread_1 : decode cX0_spread 1 = .ok (.iload_n 1, 1) := by decide +kernel
theorem dX0_spread_2 : decode cX0_spread 2 = .ok (.invokestatic 54, 3) := by decide +kernel
theorem dX0_spread_5 : decode cX0_spread 5 = .ok (.ifCond .eq 12, 3) := by decide +kernel
theorem dX0_spread_8 : decode cX0_spread 8 = .ok (.iload_n 3, 1) := by decide +kernel
theorem dX0_spread_9 : decode cX0_spread 9 = .ok (.iload_n 2, 1) := by decide +kernel
theorem dX0_spread_10 : decode cX0_spread 10 = .ok (.invokestatic 54, 3) := by decide +kernel
theorem dX0_spread_13 : decode cX0_spread 13 = .ok (.iconst 1, 1) := by decide +kernel
theorem dX0_spread_14 : decode cX0_spread 14 = .ok (.if_icmp .ne 5, 3) := by decide +kernel
theorem dX0_spread_17 : decode cX0_spread 17 = .ok (.iconst 0, 1) := by decide +kernel
theorem dX0_spread_18 : decode cX0_spread 18 = .ok (.ireturn, 1) := by decide +kernel
theorem dX0_spread_19 : decode cX0_spread 19 = .ok (.aload_n 0, 1) := by decide +kernel
theorem dX0_spread_20 : decode cX0_spread 20 = .ok (.getfield 23, 3) := by decide +kernel
theorem dX0_spread_23 : decode cX0_spread 23 = .ok (.iload_n 2, 1) := by decide +kernel
theorem dX0_spread_24 : decode cX0_spread 24 = .ok (.aload_n 0, 1) := by decide +kernel
theorem dX0_spread_25 : decode cX0_spread 25 = .ok (.getfield 23, 3) := by decide +kernel
theorem dX0_spread_28 : decode cX0_spread 28 = .ok (.iload_n 2, 1) := by decide +kernel
theorem dX0_spread_29 : decode cX0_spread 29 = .ok (.invokevirtual 30, 3) := by decide +kernel
theorem dX0_spread_32 : decode cX0_spread 32 = .ok (.aload_n 0, 1) := by decide +kernel
theorem dX0_spread_33 : decode cX0_spread 33 = .ok (.getfield 23, 3) := by decide +kernel
theorem dX0_spread_36 : decode cX0_spread 36 = .ok (.iload_n 1, 1) := by decide +kernel
theorem dX0_spread_37 : decode cX0_spread 37 = .ok (.invokevirtual 30, 3) := by decide +kernel
theorem dX0_spread_40 : decode cX0_spread 40 = .ok (.ior, 1) := by decide +kernel
theorem dX0_spread_41 : decode cX0_spread 41 = .ok (.invokevirtual 38, 3) := by decide +kernel
theorem dX0_spread_44 : decode cX0_spread 44 = .ok (.iconst 1, 1) := by decide +kernel
theorem dX0_spread_45 : decode cX0_spread 45 = .ok (.iload_n 2, 1) := by decide +kernel
theorem dX0_spread_46 : decode cX0_spread 46 = .ok (.ishl, 1) := by decide +kernel
theorem dX0_spread_47 : decode cX0_spread 47 = .ok (.ireturn, 1) := by decide +kernel
set_option maxRecDepth 20000 in
theorem ggX0_heightOf_J6_bitCount_0f7a4 : GoodIn wsX0_heightOf wsJ6_bitCount_0f7a4 := goodIn_r _ [4, 5, 6, 7] (by decide +kernel) (by decide +kernel)
set_option maxRecDepth 20000 in
theorem gX0_heightOf_J6_bitCount_0f7a4 : GoodIn wsX0_heightOf (va_wsS RX0 68 yJ6_bitCount_0f7a4 wsJ6_bitCount_0f7a4) := goodIn_app (goodIn_of _ (by decide +kernel)) ggX0_heightOf_J6_bitCount_0f7a4
set_option maxRecDepth 20000 in
theorem ggX0_heightOf_X10_bit : GoodIn wsX0_heightOf wsX10_bit := goodIn_r _ [10] (by decide +kernel) (by decide +kernel)
set_option maxRecDepth 20000 in
theorem gX0_heightOf_X10_bit_n54 : GoodIn wsX0_heightOf (wsX10_bit) := ggX0_heightOf_X10_bit
set_option maxRecDepth 20000 in
theorem ggX0_heightOf_X5_shaftHeight : GoodIn wsX0_heightOf wsX5_shaftHeight := goodIn_r _ [15, 16, 17, 18, 19, 20, 21, 22, 23, 24, 25, 26, 27, 28, 29, 30] (by decide +kernel) (by decide +kernel)
set_option maxRecDepth 20000 in
theorem gX0_heightOf_X5_shaftHeight : GoodIn wsX0_heightOf (wsV RX0 73 RX5 yX5_shaftHeight wsX5_shaftHeight) := goodIn_app (goodIn_of _ (by decide +kernel)) ggX0_heightOf_X5_shaftHeight
theorem dX0_heightOf_0 : decode cX0_heightOf 0 = .ok (.iload_n 0, 1) := by decide +kernel
theorem dX0_heightOf_1 : decode cX0_heightOf 1 = .ok (.invokestatic 68, 3) := by decide +kernel
theorem dX0_heightOf_4 : decode cX0_heightOf 4 = .ok (.istore_n 3, 1) := by decide +kernel
theorem dX0_heightOf_5 : decode cX0_heightOf 5 = .ok (.iload_n 3, 1) := by decide +kernel
theorem dX0_heightOf_6 : decode cX0_heightOf 6 = .ok (.ifCond .ne 5, 3) := by decide +kernel
theorem dX0_heightOf_9 : decode cX0_heightOf 9 = .ok (.iconst (-1), 1) := by decide +kernel
theorem dX0_heightOf_10 : decode cX0_heightOf 10 = .ok (.ireturn, 1) := by decide +kernel
theorem dX0_heightOf_11 : decode cX0_heightOf 11 = .ok (.iconst 0, 1) := by decide +kernel
theorem dX0_heightOf_12 : decode cX0_heightOf 12 = .ok (.istore 4, 2) := by decide +kernel
theorem dX0_heightOf_14 : decode cX0_heightOf 14 = .ok (.iconst 0, 1) := by decide +kernel
theorem dX0_heightOf_15 : decode cX0_heightOf 15 = .ok (.istore 5, 2) := by decide +kernel
theorem dX0_heightOf_17 : decode cX0_heightOf 17 = .ok (.iload 5, 2) := by decide +kernel
theorem dX0_heightOf_19 : decode cX0_heightOf 19 = .ok (.bipush 7, 2) := by decide +kernel
theorem dX0_heightOf_21 : decode cX0_heightOf 21 = .ok (.if_icmp .ge 31, 3) := by decide +kernel
theorem dX0_heightOf_24 : decode cX0_heightOf 24 = .ok (.iload_n 0, 1) := by decide +kernel
theorem dX0_heightOf_25 : decode cX0_heightOf 25 = .ok (.iload 5, 2) := by decide +kernel
theorem dX0_heightOf_27 : decode cX0_heightOf 27 = .ok (.invokestatic 54, 3) := by decide +kernel
theorem dX0_heightOf_30 : decode cX0_heightOf 30 = .ok (.iconst 1, 1) := by decide +kernel
theorem dX0_heightOf_31 : decode cX0_heightOf 31 = .ok (.if_icmp .ne 15, 3) := by decide +kernel
theorem dX0_heightOf_34 : decode cX0_heightOf 34 = .ok (.iload 4, 2) := by decide +kernel
theorem dX0_heightOf_36 : decode cX0_heightOf 36 = .ok (.aload_n 1, 1) := by decide +kernel
theorem dX0_heightOf_37 : decode cX0_heightOf 37 = .ok (.iload 5, 2) := by decide +kernel
theorem dX0_heightOf_39 : decode cX0_heightOf 39 = .ok (.iload_n 2, 1) := by decide +kernel
theorem dX0_heightOf_40 : decode cX0_heightOf 40 = .ok (.invokevirtual 73, 3) := by decide +kernel
theorem dX0_heightOf_43 : decode cX0_heightOf 43 = .ok (.iadd, 1) := by decide +kernel
theorem dX0_heightOf_44 : decode cX0_heightOf 44 = .ok (.istore 4, 2) := by decide +kernel
theorem dX0_heightOf_46 : decode cX0_heightOf 46 = .ok (.iinc 5 1, 3) := by decide +kernel
theorem dX0_heightOf_49 : decode cX0_heightOf 49 = .ok (.goto (-32), 3) := by decide +kernel
theorem dX0_heightOf_52 : decode cX0_heightOf 52 = .ok (.iload 4, 2) := by decide +kernel
theorem dX0_heightOf_54 : decode cX0_heightOf 54 = .ok (.iload_n 3, 1) := by decide +kernel
theorem dX0_heightOf_55 : decode cX0_heightOf 55 = .ok (.idiv, 1) := by decide +kernel
theorem dX0_heightOf_56 : decode cX0_heightOf 56 = .ok (.ireturn, 1) := by decide +kernel
set_option maxRecDepth 20000 in
theorem ggX0_findFlows_X8_get : GoodIn wsX0_findFlows wsX8_get := goodIn_r _ [10, 11, 36] (by decide +kernel) (by decide +kernel)
set_option maxRecDepth 20000 in
theorem gX0_findFlows_X8_get : GoodIn wsX0_findFlows (wsV RX0 30 RX8 yX8_get wsX8_get) := goodIn_app (goodIn_of _ (by decide +kernel)) ggX0_findFlows_X8_get
set_option maxRecDepth 20000 in
theorem ggX0_findFlows_X10_bit : GoodIn wsX0_findFlows wsX10_bit := goodIn_r _ [14] (by decide +kernel) (by decide +kernel)
set_option maxRecDepth 20000 in
theorem gX0_findFlows_X10_bit_n54 : GoodIn wsX0_findFlows (wsX10_bit) := ggX0_findFlows_X10_bit
set_option maxRecDepth 20000 in
theorem ggX0_findFlows_X0_lower : GoodIn wsX0_findFlows wsX0_lower := goodIn_r _ [19, 20, 6, 7, 8, 9, 10, 11, 25, 26, 27, 28, 36] (by decide +kernel) (by decide +kernel)
set_option maxRecDepth 20000 in
theorem gX0_findFlows_X0_lower : GoodIn wsX0_findFlows (wsV RX0 80 RX0 yX0_lower wsX0_lower) := goodIn_app (goodIn_of _ (by decide +kernel)) ggX0_findFlows_X0_lower
set_option maxRecDepth 20000 in
theorem ggX0_findFlows_X8_set : GoodIn wsX0_findFlows wsX8_set := goodIn_r _ [24, 11, 36] (by decide +kernel) (by decide +kernel)
set_option maxRecDepth 20000 in
theorem gX0_findFlows_X8_set : GoodIn wsX0_findFlows (wsV RX0 38 RX8 yX8_set wsX8_set) := goodIn_app (goodIn_of _ (by decide +kernel)) ggX0_findFlows_X8_set
theorem dX0_findFlows_0 : decode cX0_findFlows 0 = .ok (.aload_n 0, 1) := by decide +kernel
theorem dX0_findFlows_1 : decode cX0_findFlows 1 = .ok (.iconst 0, 1) := by decide +kernel
theorem dX0_findFlows_2 : decode cX0_findFlows 2 = .ok (.putfield 77, 3) := by decide +kernel
theorem dX0_findFlows_5 : decode cX0_findFlows 5 = .ok (.iconst 0, 1) := by decide +kernel
theorem dX0_findFlows_6 : decode cX0_findFlows 6 = .ok (.istore_n 3, 1) := by decide +kernel
theorem dX0_findFlows_7 : decode cX0_findFlows 7 = .ok (.iload_n 3, 1) := by decide +kernel
theorem dX0_findFlows_8 : decode cX0_findFlows 8 = .ok (.aload_n 1, 1) := by decide +kernel
theorem dX0_findFlows_9 : decode cX0_findFlows 9 = .ok (.getfield 51, 3) := by decide +kernel
theorem dX0_findFlows_12 : decode cX0_findFlows 12 = .ok (.if_icmp .ge 86, 3) := by decide +kernel
theorem dX0_findFlows_15 : decode cX0_findFlows 15 = .ok (.aload_n 1, 1) := by decide +kernel
theorem dX0_findFlows_16 : decode cX0_findFlows 16 = .ok (.getfield 58, 3) := by decide +kernel
theorem dX0_findFlows_19 : decode cX0_findFlows 19 = .ok (.iload_n 3, 1) := by decide +kernel
theorem dX0_findFlows_20 : decode cX0_findFlows 20 = .ok (.invokevirtual 30, 3) := by decide +kernel
theorem dX0_findFlows_23 : decode cX0_findFlows 23 = .ok (.istore 4, 2) := by decide +kernel
theorem dX0_findFlows_25 : decode cX0_findFlows 25 = .ok (.aload_n 1, 1) := by decide +kernel
theorem dX0_findFlows_26 : decode cX0_findFlows 26 = .ok (.getfield 61, 3) := by decide +kernel
theorem dX0_findFlows_29 : decode cX0_findFlows 29 = .ok (.iload_n 3, 1) := by decide +kernel
theorem dX0_findFlows_30 : decode cX0_findFlows 30 = .ok (.invokevirtual 30, 3) := by decide +kernel
theorem dX0_findFlows_33 : decode cX0_findFlows 33 = .ok (.istore 5, 2) := by decide +kernel
theorem dX0_findFlows_35 : decode cX0_findFlows 35 = .ok (.iload_n 2, 1) := by decide +kernel
theorem dX0_findFlows_36 : decode cX0_findFlows 36 = .ok (.iload_n 3, 1) := by decide +kernel
theorem dX0_findFlows_37 : decode cX0_findFlows 37 = .ok (.invokestatic 54, 3) := by decide +kernel
theorem dX0_findFlows_40 : decode cX0_findFlows 40 = .ok (.iconst 1, 1) := by decide +kernel
theorem dX0_findFlows_41 : decode cX0_findFlows 41 = .ok (.if_icmp .ne 14, 3) := by decide +kernel
theorem dX0_findFlows_44 : decode cX0_findFlows 44 = .ok (.aload_n 0, 1) := by decide +kernel
theorem dX0_findFlows_45 : decode cX0_findFlows 45 = .ok (.iload 4, 2) := by decide +kernel
theorem dX0_findFlows_47 : decode cX0_findFlows 47 = .ok (.iload 5, 2) := by decide +kernel
theorem dX0_findFlows_49 : decode cX0_findFlows 49 = .ok (.invokevirtual 80, 3) := by decide +kernel
theorem dX0_findFlows_52 : decode cX0_findFlows 52 = .ok (.goto 4, 3) := by decide +kernel
theorem dX0_findFlows_55 : decode cX0_findFlows 55 = .ok (.iconst (-1), 1) := by decide +kernel
theorem dX0_findFlows_56 : decode cX0_findFlows 56 = .ok (.istore 6, 2) := by decide +kernel
theorem dX0_findFlows_58 : decode cX0_findFlows 58 = .ok (.aload_n 0, 1) := by decide +kernel
theorem dX0_findFlows_59 : decode cX0_findFlows 59 = .ok (.getfield 20, 3) := by decide +kernel
theorem dX0_findFlows_62 : decode cX0_findFlows 62 = .ok (.iload_n 3, 1) := by decide +kernel
theorem dX0_findFlows_63 : decode cX0_findFlows 63 = .ok (.iload 6, 2) := by decide +kernel
theorem dX0_findFlows_65 : decode cX0_findFlows 65 = .ok (.invokevirtual 38, 3) := by decide +kernel
theorem dX0_findFlows_68 : decode cX0_findFlows 68 = .ok (.iload 6, 2) := by decide +kernel
theorem dX0_findFlows_70 : decode cX0_findFlows 70 = .ok (.iconst (-1), 1) := by decide +kernel
theorem dX0_findFlows_71 : decode cX0_findFlows 71 = .ok (.if_icmp .eq 21, 3) := by decide +kernel
theorem dX0_findFlows_74 : decode cX0_findFlows 74 = .ok (.aload_n 0, 1) := by decide +kernel
theorem dX0_findFlows_75 : decode cX0_findFlows 75 = .ok (.dup, 1) := by decide +kernel
theorem dX0_findFlows_76 : decode cX0_findFlows 76 = .ok (.getfield 77, 3) := by decide +kernel
theorem dX0_findFlows_79 : decode cX0_findFlows 79 = .ok (.iconst 1, 1) := by decide +kernel
theorem dX0_findFlows_80 : decode cX0_findFlows 80 = .ok (.iload 4, 2) := by decide +kernel
theorem dX0_findFlows_82 : decode cX0_findFlows 82 = .ok (.ishl, 1) := by decide +kernel
theorem dX0_findFlows_83 : decode cX0_findFlows 83 = .ok (.iconst 1, 1) := by decide +kernel
theorem dX0_findFlows_84 : decode cX0_findFlows 84 = .ok (.iload 5, 2) := by decide +kernel
theorem dX0_findFlows_86 : decode cX0_findFlows 86 = .ok (.ishl, 1) := by decide +kernel
theorem dX0_findFlows_87 : decode cX0_findFlows 87 = .ok (.ior, 1) := by decide +kernel
theorem dX0_findFlows_88 : decode cX0_findFlows 88 = .ok (.ior, 1) := by decide +kernel
theorem dX0_findFlows_89 : decode cX0_findFlows 89 = .ok (.putfield 77, 3) := by decide +kernel
theorem dX0_findFlows_92 : decode cX0_findFlows 92 = .ok (.iinc 3 1, 3) := by decide +kernel
theorem dX0_findFlows_95 : decode cX0_findFlows 95 = .ok (.goto (-88), 3) := by decide +kernel
theorem dX0_findFlows_98 : decode cX0_findFlows 98 = .ok (.return_, 1) := by decide +kernel
set_option maxRecDepth 20000 in
theorem ggX0_lower_X8_get : GoodIn wsX0_lower wsX8_get := goodIn_r _ [6, 7, 12] (by decide +kernel) (by decide +kernel)
set_option maxRecDepth 20000 in
theorem gX0_lower_X8_get : GoodIn wsX0_lower (wsV RX0 30 RX8 yX8_get wsX8_get) := goodIn_app (goodIn_of _ (by decide +kernel)) ggX0_lower_X8_get
theorem dX0_lower_0 : decode cX0_lower 0 = .ok (.aload_n 0, 1) := by decide +kernel
theorem dX0_lower_1 : decode cX0_lower 1 = .ok (.getfield 14, 3) := by decide +kernel
theorem dX0_lower_4 : decode cX0_lower 4 = .ok (.iload_n 1, 1) := by decide +kernel
theorem dX0_lower_5 : decode cX0_lower 5 = .ok (.invokevirtual 30, 3) := by decide +kernel
theorem dX0_lower_8 : decode cX0_lower 8 = .ok (.istore_n 3, 1) := by decide +kernel
theorem dX0_lower_9 : decode cX0_lower 9 = .ok (.aload_n 0, 1) := by decide +kernel
theorem dX0_lower_10 : decode cX0_lower 10 = .ok (.getfield 14, 3) := by decide +kernel
theorem dX0_lower_13 : decode cX0_lower 13 = .ok (.iload_n 2, 1) := by decide +kernel
theorem dX0_lower_14 : decode cX0_lower 14 = .ok (.invokevirtual 30, 3) := by decide +kernel
theorem dX0_lower_17 : decode cX0_lower 17 = .ok (.istore 4, 2) := by decide +kernel
theorem dX0_lower_19 : decode cX0_lower 19 = .ok (.iload_n 3, 1) := by decide +kernel
theorem dX0_lower_20 : decode cX0_lower 20 = .ok (.iload 4, 2) := by decide +kernel
theorem dX0_lower_22 : decode cX0_lower 22 = .ok (.if_icmp .eq 14, 3) := by decide +kernel
theorem dX0_lower_25 : decode cX0_lower 25 = .ok (.iload_n 3, 1) := by decide +kernel
theorem dX0_lower_26 : decode cX0_lower 26 = .ok (.iconst (-1), 1) := by decide +kernel
theorem dX0_lower_27 : decode cX0_lower 27 = .ok (.if_icmp .eq 9, 3) := by decide +kernel
theorem dX0_lower_30 : decode cX0_lower 30 = .ok (.iload 4, 2) := by decide +kernel
theorem dX0_lower_32 : decode cX0_lower 32 = .ok (.iconst (-1), 1) := by decide +kernel
theorem dX0_lower_33 : decode cX0_lower 33 = .ok (.if_icmp .ne 5, 3) := by decide +kernel
theorem dX0_lower_36 : decode cX0_lower 36 = .ok (.iconst (-1), 1) := by decide +kernel
theorem dX0_lower_37 : decode cX0_lower 37 = .ok (.ireturn, 1) := by decide +kernel
theorem dX0_lower_38 : decode cX0_lower 38 = .ok (.iload_n 3, 1) := by decide +kernel
theorem dX0_lower_39 : decode cX0_lower 39 = .ok (.iload 4, 2) := by decide +kernel
theorem dX0_lower_41 : decode cX0_lower 41 = .ok (.if_icmp .ge 7, 3) := by decide +kernel
theorem dX0_lower_44 : decode cX0_lower 44 = .ok (.iload_n 1, 1) := by decide +kernel
theorem dX0_lower_45 : decode cX0_lower 45 = .ok (.goto 4, 3) := by decide +kernel
theorem dX0_lower_48 : decode cX0_lower 48 = .ok (.iload_n 2, 1) := by decide +kernel
theorem dX0_lower_49 : decode cX0_lower 49 = .ok (.ireturn, 1) := by decide +kernel
set_option maxRecDepth 20000 in
theorem ggX0_firstInto_X8_get : GoodIn wsX0_firstInto wsX8_get := goodIn_r _ [7, 8, 20] (by decide +kernel) (by decide +kernel)
set_option maxRecDepth 20000 in
theorem gX0_firstInto_X8_get : GoodIn wsX0_firstInto (wsV RX0 30 RX8 yX8_get wsX8_get) := goodIn_app (goodIn_of _ (by decide +kernel)) ggX0_firstInto_X8_get
theorem dX0_firstInto_0 : decode cX0_firstInto 0 = .ok (.iconst 0, 1) := by decide +kernel
theorem dX0_firstInto_1 : decode cX0_firstInto 1 = .ok (.istore_n 3, 1) := by decide +kernel
theorem dX0_firstInto_2 : decode cX0_firstInto 2 = .ok (.iload_n 3, 1) := by decide +kernel
theorem dX0_firstInto_3 : decode cX0_firstInto 3 = .ok (.aload_n 1, 1) := by decide +kernel
theorem dX0_firstInto_4 : decode cX0_firstInto 4 = .ok (.getfield 51, 3) := by decide +kernel
theorem dX0_firstInto_7 : decode cX0_firstInto 7 = .ok (.if_icmp .ge 23, 3) := by decide +kernel
theorem dX0_firstInto_10 : decode cX0_firstInto 10 = .ok (.aload_n 0, 1) := by decide +kernel
theorem dX0_firstInto_11 : decode cX0_firstInto 11 = .ok (.getfield 20, 3) := by decide +kernel
theorem dX0_firstInto_14 : decode cX0_firstInto 14 = .ok (.iload_n 3, 1) := by decide +kernel
theorem dX0_firstInto_15 : decode cX0_firstInto 15 = .ok (.invokevirtual 30, 3) := by decide +kernel
theorem dX0_firstInto_18 : decode cX0_firstInto 18 = .ok (.iload_n 2, 1) := by decide +kernel
theorem dX0_firstInto_19 : decode cX0_firstInto 19 = .ok (.if_icmp .ne 5, 3) := by decide +kernel
theorem dX0_firstInto_22 : decode cX0_firstInto 22 = .ok (.iload_n 3, 1) := by decide +kernel
theorem dX0_firstInto_23 : decode cX0_firstInto 23 = .ok (.ireturn, 1) := by decide +kernel
theorem dX0_firstInto_24 : decode cX0_firstInto 24 = .ok (.iinc 3 1, 3) := by decide +kernel
theorem dX0_firstInto_27 : decode cX0_firstInto 27 = .ok (.goto (-25), 3) := by decide +kernel
theorem dX0_firstInto_30 : decode cX0_firstInto 30 = .ok (.iconst (-1), 1) := by decide +kernel
theorem dX0_firstInto_31 : decode cX0_firstInto 31 = .ok (.ireturn, 1) := by decide +kernel
set_option maxRecDepth 20000 in
theorem ggX0_carrySmoke_X9_clear : GoodIn wsX0_carrySmoke wsX9_clear := goodIn_r _ [8, 9, 10, 11, 12, 13, 14, 15, 16, 17, 18, 19, 57, 58] (by decide +kernel) (by decide +kernel)
set_option maxRecDepth 20000 in
theorem gX0_carrySmoke_X9_clear : GoodIn wsX0_carrySmoke (wsV RX0 83 RX9 yX9_clear wsX9_clear) := goodIn_app (goodIn_of _ (by decide +kernel)) ggX0_carrySmoke_X9_clear
set_option maxRecDepth 20000 in
theorem ggX0_carrySmoke_X8_get : GoodIn wsX0_carrySmoke wsX8_get := goodIn_r _ [23, 15, 58] (by decide +kernel) (by decide +kernel)
set_option maxRecDepth 20000 in
theorem gX0_carrySmoke_X8_get : GoodIn wsX0_carrySmoke (wsV RX0 30 RX8 yX8_get wsX8_get) := goodIn_app (goodIn_of _ (by decide +kernel)) ggX0_carrySmoke_X8_get
set_option maxRecDepth 20000 in
theorem ggX0_carrySmoke_X5_otherEnd : GoodIn wsX0_carrySmoke wsX5_otherEnd := goodIn_r _ [28, 29, 30, 31, 21, 22, 13, 23, 15, 46, 47, 48, 49, 50, 51, 52, 58] (by decide +kernel) (by decide +kernel)
set_option maxRecDepth 20000 in
theorem gX0_carrySmoke_X5_otherEnd : GoodIn wsX0_carrySmoke (wsV RX0 88 RX5 yX5_otherEnd wsX5_otherEnd) := goodIn_app (goodIn_of _ (by decide +kernel)) ggX0_carrySmoke_X5_otherEnd
set_option maxRecDepth 20000 in
theorem ggX0_carrySmoke_X9_link : GoodIn wsX0_carrySmoke wsX9_link := goodIn_r _ [35, 9, 36, 37, 38, 7, 39, 40, 21, 22, 13, 23, 15, 16, 17, 18, 19, 57, 58] (by decide +kernel) (by decide +kernel)
set_option maxRecDepth 20000 in
theorem gX0_carrySmoke_X9_link : GoodIn wsX0_carrySmoke (wsV RX0 94 RX9 yX9_link wsX9_link) := goodIn_app (goodIn_of _ (by decide +kernel)) ggX0_carrySmoke_X9_link
set_option maxRecDepth 20000 in
theorem ggX0_carrySmoke_X9_joinWays : GoodIn wsX0_carrySmoke wsX9_joinWays := goodIn_r _ [44, 36, 37, 38, 7, 39, 9, 40, 21, 22, 13, 23, 15, 45, 33, 34, 35, 16, 17, 18, 19, 57, 58] (by decide +kernel) (by decide +kernel)
set_option maxRecDepth 20000 in
theorem gX0_carrySmoke_X9_joinWays : GoodIn wsX0_carrySmoke (wsV RX0 98 RX9 yX9_joinWays wsX9_joinWays) := goodIn_app (goodIn_of _ (by decide +kernel)) ggX0_carrySmoke_X9_joinWays
theorem dX0_carrySmoke_0 : decode cX0_carrySmoke 0 = .ok (.aload_n 2, 1) := by decide +kernel
theorem dX0_carrySmoke_1 : decode cX0_carrySmoke 1 = .ok (.invokevirtual 83, 3) := by decide +kernel
theorem dX0_carrySmoke_4 : decode cX0_carrySmoke 4 = .ok (.iconst 0, 1) := by decide +kernel
theorem dX0_carrySmoke_5 : decode cX0_carrySmoke 5 = .ok (.istore_n 3, 1) := by decide +kernel
theorem dX0_carrySmoke_6 : decode cX0_carrySmoke 6 = .ok (.iload_n 3, 1) := by decide +kernel
theorem dX0_carrySmoke_7 : decode cX0_carrySmoke 7 = .ok (.aload_n 1, 1) := by decide +kernel
theorem dX0_carrySmoke_8 : decode cX0_carrySmoke 8 = .ok (.getfield 51, 3) := by decide +kernel
theorem dX0_carrySmoke_11 : decode cX0_carrySmoke 11 = .ok (.if_icmp .ge 46, 3) := by decide +kernel
theorem dX0_carrySmoke_14 : decode cX0_carrySmoke 14 = .ok (.aload_n 0, 1) := by decide +kernel
theorem dX0_carrySmoke_15 : decode cX0_carrySmoke 15 = .ok (.getfield 20, 3) := by decide +kernel
theorem dX0_carrySmoke_18 : decode cX0_carrySmoke 18 = .ok (.iload_n 3, 1) := by decide +kernel
theorem dX0_carrySmoke_19 : decode cX0_carrySmoke 19 = .ok (.invokevirtual 30, 3) := by decide +kernel
theorem dX0_carrySmoke_22 : decode cX0_carrySmoke 22 = .ok (.istore 4, 2) := by decide +kernel
theorem dX0_carrySmoke_24 : decode cX0_carrySmoke 24 = .ok (.iload 4, 2) := by decide +kernel
theorem dX0_carrySmoke_26 : decode cX0_carrySmoke 26 = .ok (.iconst (-1), 1) := by decide +kernel
theorem dX0_carrySmoke_27 : decode cX0_carrySmoke 27 = .ok (.if_icmp .eq 24, 3) := by decide +kernel
theorem dX0_carrySmoke_30 : decode cX0_carrySmoke 30 = .ok (.aload_n 2, 1) := by decide +kernel
theorem dX0_carrySmoke_31 : decode cX0_carrySmoke 31 = .ok (.aload_n 1, 1) := by decide +kernel
theorem dX0_carrySmoke_32 : decode cX0_carrySmoke 32 = .ok (.iload_n 3, 1) := by decide +kernel
theorem dX0_carrySmoke_33 : decode cX0_carrySmoke 33 = .ok (.iload 4, 2) := by decide +kernel
theorem dX0_carrySmoke_35 : decode cX0_carrySmoke 35 = .ok (.invokevirtual 88, 3) := by decide +kernel
theorem dX0_carrySmoke_38 : decode cX0_carrySmoke 38 = .ok (.iload 4, 2) := by decide +kernel
theorem dX0_carrySmoke_40 : decode cX0_carrySmoke 40 = .ok (.aload_n 1, 1) := by decide +kernel
theorem dX0_carrySmoke_41 : decode cX0_carrySmoke 41 = .ok (.getfield 91, 3) := by decide +kernel
theorem dX0_carrySmoke_44 : decode cX0_carrySmoke 44 = .ok (.iload_n 3, 1) := by decide +kernel
theorem dX0_carrySmoke_45 : decode cX0_carrySmoke 45 = .ok (.invokevirtual 30, 3) := by decide +kernel
theorem dX0_carrySmoke_48 : decode cX0_carrySmoke 48 = .ok (.invokevirtual 94, 3) := by decide +kernel
theorem dX0_carrySmoke_51 : decode cX0_carrySmoke 51 = .ok (.iinc 3 1, 3) := by decide +kernel
theorem dX0_carrySmoke_54 : decode cX0_carrySmoke 54 = .ok (.goto (-48), 3) := by decide +kernel
theorem dX0_carrySmoke_57 : decode cX0_carrySmoke 57 = .ok (.aload_n 2, 1) := by decide +kernel
theorem dX0_carrySmoke_58 : decode cX0_carrySmoke 58 = .ok (.invokevirtual 98, 3) := by decide +kernel
theorem dX0_carrySmoke_61 : decode cX0_carrySmoke 61 = .ok (.return_, 1) := by decide +kernel
set_option maxRecDepth 20000 in
theorem ggX1_init_X8_init : GoodIn wsX1_init wsX8_init := goodIn_r _ [10, 11, 2, 3, 12, 13, 14] (by decide +kernel) (by decide +kernel)
set_option maxRecDepth 20000 in
theorem gX1_init_X8_init : GoodIn wsX1_init (wsX8_init) := ggX1_init_X8_init
theorem dX1_init_0 : decode cX1_init 0 = .ok (.aload_n 0, 1) := by decide +kernel
theorem dX1_init_1 : decode cX1_init 1 = .ok (.invokespecial 3, 3) := by decide +kernel
theorem dX1_init_4 : decode cX1_init 4 = .ok (.aload_n 0, 1) := by decide +kernel
theorem dX1_init_5 : decode cX1_init 5 = .ok (.new 9, 3) := by decide +kernel
theorem dX1_init_8 : decode cX1_init 8 = .ok (.dup, 1) := by decide +kernel
theorem dX1_init_9 : decode cX1_init 9 = .ok (.bipush 6, 2) := by decide +kernel
theorem dX1_init_11 : decode cX1_init 11 = .ok (.invokespecial 11, 3) := by decide +kernel
theorem dX1_init_14 : decode cX1_init 14 = .ok (.putfield 14, 3) := by decide +kernel
theorem dX1_init_17 : decode cX1_init 17 = .ok (.return_, 1) := by decide +kernel
theorem dX1_isKind_0 : decode cX1_isKind 0 = .ok (.iload_n 0, 1) := by decide +kernel
theorem dX1_isKind_1 : decode cX1_isKind 1 = .ok (.ifCond .lt 12, 3) := by decide +kernel
theorem dX1_isKind_4 : decode cX1_isKind 4 = .ok (.iload_n 0, 1) := by decide +kernel
theorem dX1_isKind_5 : decode cX1_isKind 5 = .ok (.iconst 4, 1) := by decide +kernel
theorem dX1_isKind_6 : decode cX1_isKind 6 = .ok (.if_icmp .gt 7, 3) := by decide +kernel
theorem dX1_isKind_9 : decode cX1_isKind 9 = .ok (.iconst 1, 1) := by decide +kernel
theorem dX1_isKind_10 : decode cX1_isKind 10 = .ok (.goto 4, 3) := by decide +kernel
theorem dX1_isKind_13 : decode cX1_isKind 13 = .ok (.iconst 0, 1) := by decide +kernel
theorem dX1_isKind_14 : decode cX1_isKind 14 = .ok (.ireturn, 1) := by decide +kernel
theorem dX1_has_0 : decode cX1_has 0 = .ok (.iload_n 1, 1) := by decide +kernel
theorem dX1_has_1 : decode cX1_has 1 = .ok (.ifCond .lt 15, 3) := by decide +kernel
theorem dX1_has_4 : decode cX1_has 4 = .ok (.iload_n 1, 1) := by decide +kernel
theorem dX1_has_5 : decode cX1_has 5 = .ok (.aload_n 0, 1) := by decide +kernel
theorem dX1_has_6 : decode cX1_has 6 = .ok (.getfield 20, 3) := by decide +kernel
theorem dX1_has_9 : decode cX1_has 9 = .ok (.if_icmp .ge 7, 3) := by decide +kernel
theorem dX1_has_12 : decode cX1_has 12 = .ok (.iconst 1, 1) := by decide +kernel
theorem dX1_has_13 : decode cX1_has 13 = .ok (.goto 4, 3) := by decide +kernel
theorem dX1_has_16 : decode cX1_has 16 = .ok (.iconst 0, 1) := by decide +kernel
theorem dX1_has_17 : decode cX1_has 17 = .ok (.ireturn, 1) := by decide +kernel
set_option maxRecDepth 20000 in
theorem ggX1_isOf_X8_get : GoodIn wsX1_isOf wsX8_get := goodIn_r _ [6, 7, 10] (by decide +kernel) (by decide +kernel)
set_option maxRecDepth 20000 in
theorem gX1_isOf_X8_get : GoodIn wsX1_isOf (wsV RX1 24 RX8 yX8_get wsX8_get) := goodIn_app (goodIn_of _ (by decide +kernel)) ggX1_isOf_X8_get
theorem dX1_isOf_0 : decode cX1_isOf 0 = .ok (.aload_n 0, 1) := by decide +kernel
theorem dX1_isOf_1 : decode cX1_isOf 1 = .ok (.getfield 14, 3) := by decide +kernel
theorem dX1_isOf_4 : decode cX1_isOf 4 = .ok (.iload_n 1, 1) := by decide +kernel
theorem dX1_isOf_5 : decode cX1_isOf 5 = .ok (.invokevirtual 24, 3) := by decide +kernel
theorem dX1_isOf_8 : decode cX1_isOf 8 = .ok (.istore_n 3, 1) := by decide +kernel
theorem dX1_isOf_9 : decode cX1_isOf 9 = .ok (.iload_n 2, 1) := by decide +kernel
theorem dX1_isOf_10 : decode cX1_isOf 10 = .ok (.ifCond .eq 18, 3) := by decide +kernel
theorem dX1_isOf_13 : decode cX1_isOf 13 = .ok (.iload_n 2, 1) := by decide +kernel
theorem dX1_isOf_14 : decode cX1_isOf 14 = .ok (.iload_n 3, 1) := by decide +kernel
theorem dX1_isOf_15 : decode cX1_isOf 15 = .ok (.if_icmp .eq 13, 3) := by decide +kernel
theorem dX1_isOf_18 : decode cX1_isOf 18 = .ok (.iload_n 2, 1) := by decide +kernel
theorem dX1_isOf_19 : decode cX1_isOf 19 = .ok (.iconst 1, 1) := by decide +kernel
theorem dX1_isOf_20 : decode cX1_isOf 20 = .ok (.if_icmp .ne 12, 3) := by decide +kernel
theorem dX1_isOf_23 : decode cX1_isOf 23 = .ok (.iload_n 3, 1) := by decide +kernel
theorem dX1_isOf_24 : decode cX1_isOf 24 = .ok (.iconst 4, 1) := by decide +kernel
theorem dX1_isOf_25 : decode cX1_isOf 25 = .ok (.if_icmp .ne 7, 3) := by decide +kernel
theorem dX1_isOf_28 : decode cX1_isOf 28 = .ok (.iconst 1, 1) := by decide +kernel
theorem dX1_isOf_29 : decode cX1_isOf 29 = .ok (.goto 4, 3) := by decide +kernel
theorem dX1_isOf_32 : decode cX1_isOf 32 = .ok (.iconst 0, 1) := by decide +kernel
theorem dX1_isOf_33 : decode cX1_isOf 33 = .ok (.ireturn, 1) := by decide +kernel
set_option maxRecDepth 20000 in
theorem ggX1_bears_X8_get : GoodIn wsX1_bears wsX8_get := goodIn_r _ [6, 7, 10] (by decide +kernel) (by decide +kernel)
set_option maxRecDepth 20000 in
theorem gX1_bears_X8_get : GoodIn wsX1_bears (wsV RX1 24 RX8 yX8_get wsX8_get) := goodIn_app (goodIn_of _ (by decide +kernel)) ggX1_bears_X8_get
theorem dX1_bears_0 : decode cX1_bears 0 = .ok (.aload_n 0, 1) := by decide +kernel
theorem dX1_bears_1 : decode cX1_bears 1 = .ok (.getfield 14, 3) := by decide +kernel
theorem dX1_bears_4 : decode cX1_bears 4 = .ok (.iload_n 1, 1) := by decide +kernel
theorem dX1_bears_5 : decode cX1_bears 5 = .ok (.invokevirtual 24, 3) := by decide +kernel
theorem dX1_bears_8 : decode cX1_bears 8 = .ok (.tableswitch 35 2 4 #[28, 30, 32], 28) := by decide +kernel
theorem dX1_bears_36 : decode cX1_bears 36 = .ok (.iconst 1, 1) := by decide +kernel
theorem dX1_bears_37 : decode cX1_bears 37 = .ok (.ireturn, 1) := by decide +kernel
theorem dX1_bears_38 : decode cX1_bears 38 = .ok (.iconst 2, 1) := by decide +kernel
theorem dX1_bears_39 : decode cX1_bears 39 = .ok (.ireturn, 1) := by decide +kernel
theorem dX1_bears_40 : decode cX1_bears 40 = .ok (.bipush 6, 2) := by decide +kernel
theorem dX1_bears_42 : decode cX1_bears 42 = .ok (.ireturn, 1) := by decide +kernel
theorem dX1_bears_43 : decode cX1_bears 43 = .ok (.iconst 4, 1) := by decide +kernel
theorem dX1_bears_44 : decode cX1_bears 44 = .ok (.ireturn, 1) := by decide +kernel
theorem dX2_init_0 : decode cX2_init 0 = .ok (.aload_n 0, 1) := by decide +kernel
theorem dX2_init_1 : decode cX2_init 1 = .ok (.invokespecial 1, 3) := by decide +kernel
theorem dX2_init_4 : decode cX2_init 4 = .ok (.return_, 1) := by decide +kernel
theorem dX2_draw_0 : decode cX2_draw 0 = .ok (.aload_n 0, 1) := by decide +kernel
theorem dX2_draw_1 : decode cX2_draw 1 = .ok (.ldc2_w 9, 3) := by decide +kernel
theorem dX2_draw_4 : decode cX2_draw 4 = .ok (.aload_n 0, 1) := by decide +kernel
theorem dX2_draw_5 : decode cX2_draw 5 = .ok (.getfield 11, 3) := by decide +kernel
theorem dX2_draw_8 : decode cX2_draw 8 = .ok (.i2l, 1) := by decide +kernel
theorem dX2_draw_9 : decode cX2_draw 9 = .ok (.lmul, 1) := by decide +kernel
theorem dX2_draw_10 : decode cX2_draw 10 = .ok (.ldc2_w 15, 3) := by decide +kernel
theorem dX2_draw_13 : decode cX2_draw 13 = .ok (.ladd, 1) := by decide +kernel
theorem dX2_draw_14 : decode cX2_draw 14 = .ok (.ldc2_w 17, 3) := by decide +kernel
theorem dX2_draw_17 : decode cX2_draw 17 = .ok (.lrem, 1) := by decide +kernel
theorem dX2_draw_18 : decode cX2_draw 18 = .ok (.l2i, 1) := by decide +kernel
theorem dX2_draw_19 : decode cX2_draw 19 = .ok (.putfield 11, 3) := by decide +kernel
theorem dX2_draw_22 : decode cX2_draw 22 = .ok (.iload_n 1, 1) := by decide +kernel
theorem dX2_draw_23 : decode cX2_draw 23 = .ok (.ifCond .le 15, 3) := by decide +kernel
theorem dX2_draw_26 : decode cX2_draw 26 = .ok (.aload_n 0, 1) := by decide +kernel
theorem dX2_draw_27 : decode cX2_draw 27 = .ok (.getfield 11, 3) := by decide +kernel
theorem dX2_draw_30 : decode cX2_draw 30 = .ok (.ldc 19, 2) := by decide +kernel
theorem dX2_draw_32 : decode cX2_draw 32 = .ok (.idiv, 1) := by decide +kernel
theorem dX2_draw_33 : decode cX2_draw 33 = .ok (.iload_n 1, 1) := by decide +kernel
theorem dX2_draw_34 : decode cX2_draw 34 = .ok (.irem, 1) := by decide +kernel
theorem dX2_draw_35 : decode cX2_draw 35 = .ok (.goto 4, 3) := by decide +kernel
theorem dX2_draw_38 : decode cX2_draw 38 = .ok (.iconst 0, 1) := by decide +kernel
theorem dX2_draw_39 : decode cX2_draw 39 = .ok (.ireturn, 1) := by decide +kernel
set_option maxRecDepth 20000 in
theorem ggX3_init_X8_init : GoodIn wsX3_init wsX8_init := goodIn_r _ [11, 12, 2, 3, 13, 14, 15] (by decide +kernel) (by decide +kernel)
set_option maxRecDepth 20000 in
theorem gX3_init_X8_init : GoodIn wsX3_init (wsX8_init) := ggX3_init_X8_init
theorem dX3_init_0 : decode cX3_init 0 = .ok (.aload_n 0, 1) := by decide +kernel
theorem dX3_init_1 : decode cX3_init 1 = .ok (.invokespecial 3, 3) := by decide +kernel
theorem dX3_init_4 : decode cX3_init 4 = .ok (.aload_n 0, 1) := by decide +kernel
theorem dX3_init_5 : decode cX3_init 5 = .ok (.new 9, 3) := by decide +kernel
theorem dX3_init_8 : decode cX3_init 8 = .ok (.dup, 1) := by decide +kernel
theorem dX3_init_9 : decode cX3_init 9 = .ok (.bipush 7, 2) := by decide +kernel
theorem dX3_init_11 : decode cX3_init 11 = .ok (.invokespecial 11, 3) := by decide +kernel
theorem dX3_init_14 : decode cX3_init 14 = .ok (.putfield 14, 3) := by decide +kernel
theorem dX3_init_17 : decode cX3_init 17 = .ok (.aload_n 0, 1) := by decide +kernel
theorem dX3_init_18 : decode cX3_init 18 = .ok (.new 9, 3) := by decide +kernel
theorem dX3_init_21 : decode cX3_init 21 = .ok (.dup, 1) := by decide +kernel
theorem dX3_init_22 : decode cX3_init 22 = .ok (.bipush 6, 2) := by decide +kernel
theorem dX3_init_24 : decode cX3_init 24 = .ok (.invokespecial 11, 3) := by decide +kernel
theorem dX3_init_27 : decode cX3_init 27 = .ok (.putfield 20, 3) := by decide +kernel
theorem dX3_init_30 : decode cX3_init 30 = .ok (.return_, 1) := by decide +kernel
set_option maxRecDepth 20000 in
theorem ggX3_begin_X8_fill : GoodIn wsX3_begin wsX8_fill := goodIn_r _ [10, 11, 18] (by decide +kernel) (by decide +kernel)
set_option maxRecDepth 20000 in
theorem gX3_begin_X8_fill : GoodIn wsX3_begin (wsV RX3 31 RX8 yX8_fill wsX8_fill) := goodIn_app (goodIn_of _ (by decide +kernel)) ggX3_begin_X8_fill
theorem dX3_begin_0 : decode cX3_begin 0 = .ok (.aload_n 0, 1) := by decide +kernel
theorem dX3_begin_1 : decode cX3_begin 1 = .ok (.iload_n 1, 1) := by decide +kernel
theorem dX3_begin_2 : decode cX3_begin 2 = .ok (.putfield 23, 3) := by decide +kernel
theorem dX3_begin_5 : decode cX3_begin 5 = .ok (.aload_n 0, 1) := by decide +kernel
theorem dX3_begin_6 : decode cX3_begin 6 = .ok (.iconst 0, 1) := by decide +kernel
theorem dX3_begin_7 : decode cX3_begin 7 = .ok (.putfield 27, 3) := by decide +kernel
theorem dX3_begin_10 : decode cX3_begin 10 = .ok (.aload_n 0, 1) := by decide +kernel
theorem dX3_begin_11 : decode cX3_begin 11 = .ok (.getfield 14, 3) := by decide +kernel
theorem dX3_begin_14 : decode cX3_begin 14 = .ok (.iconst 0, 1) := by decide +kernel
theorem dX3_begin_15 : decode cX3_begin 15 = .ok (.invokevirtual 31, 3) := by decide +kernel
theorem dX3_begin_18 : decode cX3_begin 18 = .ok (.aload_n 0, 1) := by decide +kernel
theorem dX3_begin_19 : decode cX3_begin 19 = .ok (.iconst 0, 1) := by decide +kernel
theorem dX3_begin_20 : decode cX3_begin 20 = .ok (.putfield 34, 3) := by decide +kernel
theorem dX3_begin_23 : decode cX3_begin 23 = .ok (.aload_n 0, 1) := by decide +kernel
theorem dX3_begin_24 : decode cX3_begin 24 = .ok (.iconst 0, 1) := by decide +kernel
theorem dX3_begin_25 : decode cX3_begin 25 = .ok (.putfield 37, 3) := by decide +kernel
theorem dX3_begin_28 : decode cX3_begin 28 = .ok (.return_, 1) := by decide +kernel
set_option maxRecDepth 20000 in
theorem ggX3_copyFrom_X8_copyFrom : GoodIn wsX3_copyFrom wsX8_copyFrom := goodIn_r _ [11, 12, 13, 14, 15, 10, 16, 23] (by decide +kernel) (by decide +kernel)
set_option maxRecDepth 20000 in
theorem gX3_copyFrom_X8_copyFrom : GoodIn wsX3_copyFrom (wsV RX3 40 RX8 yX8_copyFrom wsX8_copyFrom) := goodIn_app (goodIn_of _ (by decide +kernel)) ggX3_copyFrom_X8_copyFrom
theorem dX3_copyFrom_0 : decode cX3_copyFrom 0 = .ok (.aload_n 0, 1) := by decide +kernel
theorem dX3_copyFrom_1 : decode cX3_copyFrom 1 = .ok (.aload_n 1, 1) := by decide +kernel
theorem dX3_copyFrom_2 : decode cX3_copyFrom 2 = .ok (.getfield 23, 3) := by decide +kernel
theorem dX3_copyFrom_5 : decode cX3_copyFrom 5 = .ok (.putfield 23, 3) := by decide +kernel
theorem dX3_copyFrom_8 : decode cX3_copyFrom 8 = .ok (.aload_n 0, 1) := by decide +kernel
theorem dX3_copyFrom_9 : decode cX3_copyFrom 9 = .ok (.aload_n 1, 1) := by decide +kernel
theorem dX3_copyFrom_10 : decode cX3_copyFrom 10 = .ok (.getfield 27, 3) := by decide +kernel
theorem dX3_copyFrom_13 : decode cX3_copyFrom 13 = .ok (.putfield 27, 3) := by decide +kernel
theorem dX3_copyFrom_16 : decode cX3_copyFrom 16 = .ok (.aload_n 0, 1) := by decide +kernel
theorem dX3_copyFrom_17 : decode cX3_copyFrom 17 = .ok (.getfield 14, 3) := by decide +kernel
theorem dX3_copyFrom_20 : decode cX3_copyFrom 20 = .ok (.aload_n 1, 1) := by decide +kernel
theorem dX3_copyFrom_21 : decode cX3_copyFrom 21 = .ok (.getfield 14, 3) := by decide +kernel
theorem dX3_copyFrom_24 : decode cX3_copyFrom 24 = .ok (.invokevirtual 40, 3) := by decide +kernel
theorem dX3_copyFrom_27 : decode cX3_copyFrom 27 = .ok (.aload_n 0, 1) := by decide +kernel
theorem dX3_copyFrom_28 : decode cX3_copyFrom 28 = .ok (.getfield 20, 3) := by decide +kernel
theorem dX3_copyFrom_31 : decode cX3_copyFrom 31 = .ok (.aload_n 1, 1) := by decide +kernel
theorem dX3_copyFrom_32 : decode cX3_copyFrom 32 = .ok (.getfield 20, 3) := by decide +kernel
theorem dX3_copyFrom_35 : decode cX3_copyFrom 35 = .ok (.invokevirtual 40, 3) := by decide +kernel
theorem dX3_copyFrom_38 : decode cX3_copyFrom 38 = .ok (.aload_n 0, 1) := by decide +kernel
theorem dX3_copyFrom_39 : decode cX3_copyFrom 39 = .ok (.aload_n 1, 1) := by decide +kernel
theorem dX3_copyFrom_40 : decode cX3_copyFrom 40 = .ok (.getfield 34, 3) := by decide +kernel
theorem dX3_copyFrom_43 : decode cX3_copyFrom 43 = .ok (.putfield 34, 3) := by decide +kernel
theorem dX3_copyFrom_46 : decode cX3_copyFrom 46 = .ok (.aload_n 0, 1) := by decide +kernel
theorem dX3_copyFrom_47 : decode cX3_copyFrom 47 = .ok (.aload_n 1, 1) := by decide +kernel
theorem dX3_copyFrom_48 : decode cX3_copyFrom 48 = .ok (.getfield 37, 3) := by decide +kernel
theorem dX3_copyFrom_51 : decode cX3_copyFrom 51 = .ok (.putfield 37, 3) := by decide +kernel
theorem dX3_copyFrom_54 : decode cX3_copyFrom 54 = .ok (.return_, 1) := by decide +kernel
set_option maxRecDepth 20000 in
theorem ggX3_passMinute_X10_bit : GoodIn wsX3_passMinute wsX10_bit := goodIn_r _ [12] (by decide +kernel) (by decide +kernel)
set_option maxRecDepth 20000 in
theorem gX3_passMinute_X10_bit_n44 : GoodIn wsX3_passMinute (wsX10_bit) := ggX3_passMinute_X10_bit
set_option maxRecDepth 20000 in
theorem ggX3_passMinute_X8_get : GoodIn wsX3_passMinute wsX8_get := goodIn_r _ [17, 18, 38] (by decide +kernel) (by decide +kernel)
set_option maxRecDepth 20000 in
theorem gX3_passMinute_X8_get : GoodIn wsX3_passMinute (wsV RX3 48 RX8 yX8_get wsX8_get) := goodIn_app (goodIn_of _ (by decide +kernel)) ggX3_passMinute_X8_get
set_option maxRecDepth 20000 in
theorem ggX3_passMinute_X8_set : GoodIn wsX3_passMinute wsX8_set := goodIn_r _ [22, 18, 38] (by decide +kernel) (by decide +kernel)
set_option maxRecDepth 20000 in
theorem gX3_passMinute_X8_set : GoodIn wsX3_passMinute (wsV RX3 57 RX8 yX8_set wsX8_set) := goodIn_app (goodIn_of _ (by decide +kernel)) ggX3_passMinute_X8_set
set_option maxRecDepth 20000 in
theorem ggX3_passMinute_X1_bears : GoodIn wsX3_passMinute wsX1_bears := goodIn_r _ [27, 28, 29, 14, 15, 16, 17, 18, 36, 37, 38] (by decide +kernel) (by decide +kernel)
set_option maxRecDepth 20000 in
theorem gX3_passMinute_X1_bears : GoodIn wsX3_passMinute (wsV RX3 66 RX1 yX1_bears wsX1_bears) := goodIn_app (goodIn_of _ (by decide +kernel)) ggX3_passMinute_X1_bears
theorem dX3_passMinute_0 : decode cX3_passMinute 0 = .ok (.iconst 0, 1) := by decide +kernel
theorem dX3_passMinute_1 : decode cX3_passMinute 1 = .ok (.istore_n 3, 1) := by decide +kernel
theorem dX3_passMinute_2 : decode cX3_passMinute 2 = .ok (.iload_n 3, 1) := by decide +kernel
theorem dX3_passMinute_3 : decode cX3_passMinute 3 = .ok (.bipush 7, 2) := by decide +kernel
theorem dX3_passMinute_5 : decode cX3_passMinute 5 = .ok (.if_icmp .ge 57, 3) := by decide +kernel
theorem dX3_passMinute_8 : decode cX3_passMinute 8 = .ok (.iload_n 2, 1) := by decide +kernel
theorem dX3_passMinute_9 : decode cX3_passMinute 9 = .ok (.iload_n 3, 1) := by decide +kernel
theorem dX3_passMinute_10 : decode cX3_passMinute 10 = .ok (.invokestatic 44, 3) := by decide +kernel
theorem dX3_passMinute_13 : decode cX3_passMinute 13 = .ok (.iconst 1, 1) := by decide +kernel
theorem dX3_passMinute_14 : decode cX3_passMinute 14 = .ok (.if_icmp .ne 7, 3) := by decide +kernel
theorem dX3_passMinute_17 : decode cX3_passMinute 17 = .ok (.iconst 1, 1) := by decide +kernel
theorem dX3_passMinute_18 : decode cX3_passMinute 18 = .ok (.goto 4, 3) := by decide +kernel
theorem dX3_passMinute_21 : decode cX3_passMinute 21 = .ok (.iconst 0, 1) := by decide +kernel
theorem dX3_passMinute_22 : decode cX3_passMinute 22 = .ok (.istore 4, 2) := by decide +kernel
theorem dX3_passMinute_24 : decode cX3_passMinute 24 = .ok (.aload_n 0, 1) := by decide +kernel
theorem dX3_passMinute_25 : decode cX3_passMinute 25 = .ok (.getfield 14, 3) := by decide +kernel
theorem dX3_passMinute_28 : decode cX3_passMinute 28 = .ok (.iload_n 3, 1) := by decide +kernel
theorem dX3_passMinute_29 : decode cX3_passMinute 29 = .ok (.iload 4, 2) := by decide +kernel
theorem dX3_passMinute_31 : decode cX3_passMinute 31 = .ok (.ifCond .eq 7, 3) := by decide +kernel
theorem dX3_passMinute_34 : decode cX3_passMinute 34 = .ok (.iconst 0, 1) := by decide +kernel
theorem dX3_passMinute_35 : decode cX3_passMinute 35 = .ok (.goto 18, 3) := by decide +kernel
theorem dX3_passMinute_38 : decode cX3_passMinute 38 = .ok (.bipush 9, 2) := by decide +kernel
theorem dX3_passMinute_40 : decode cX3_passMinute 40 = .ok (.aload_n 0, 1) := by decide +kernel
theorem dX3_passMinute_41 : decode cX3_passMinute 41 = .ok (.getfield 14, 3) := by decide +kernel
theorem dX3_passMinute_44 : decode cX3_passMinute 44 = .ok (.iload_n 3, 1) := by decide +kernel
theorem dX3_passMinute_45 : decode cX3_passMinute 45 = .ok (.invokevirtual 48, 3) := by decide +kernel
theorem dX3_passMinute_48 : decode cX3_passMinute 48 = .ok (.iconst 1, 1) := by decide +kernel
theorem dX3_passMinute_49 : decode cX3_passMinute 49 = .ok (.iadd, 1) := by decide +kernel
theorem dX3_passMinute_50 : decode cX3_passMinute 50 = .ok (.invokestatic 52, 3) := by decide +kernel
theorem dX3_passMinute_53 : decode cX3_passMinute 53 = .ok (.invokevirtual 57, 3) := by decide +kernel
theorem dX3_passMinute_56 : decode cX3_passMinute 56 = .ok (.iinc 3 1, 3) := by decide +kernel
theorem dX3_passMinute_59 : decode cX3_passMinute 59 = .ok (.goto (-57), 3) := by decide +kernel
theorem dX3_passMinute_62 : decode cX3_passMinute 62 = .ok (.iconst 0, 1) := by decide +kernel
theorem dX3_passMinute_63 : decode cX3_passMinute 63 = .ok (.istore_n 3, 1) := by decide +kernel
theorem dX3_passMinute_64 : decode cX3_passMinute 64 = .ok (.iload_n 3, 1) := by decide +kernel
theorem dX3_passMinute_65 : decode cX3_passMinute 65 = .ok (.aload_n 1, 1) := by decide +kernel
theorem dX3_passMinute_66 : decode cX3_passMinute 66 = .ok (.getfield 61, 3) := by decide +kernel
theorem dX3_passMinute_69 : decode cX3_passMinute 69 = .ok (.if_icmp .ge 44, 3) := by decide +kernel
theorem dX3_passMinute_72 : decode cX3_passMinute 72 = .ok (.aload_n 0, 1) := by decide +kernel
theorem dX3_passMinute_73 : decode cX3_passMinute 73 = .ok (.getfield 14, 3) := by decide +kernel
theorem dX3_passMinute_76 : decode cX3_passMinute 76 = .ok (.aload_n 0, 1) := by decide +kernel
theorem dX3_passMinute_77 : decode cX3_passMinute 77 = .ok (.getfield 20, 3) := by decide +kernel
theorem dX3_passMinute_80 : decode cX3_passMinute 80 = .ok (.iload_n 3, 1) := by decide +kernel
theorem dX3_passMinute_81 : decode cX3_passMinute 81 = .ok (.invokevirtual 48, 3) := by decide +kernel
theorem dX3_passMinute_84 : decode cX3_passMinute 84 = .ok (.invokevirtual 48, 3) := by decide +kernel
theorem dX3_passMinute_87 : decode cX3_passMinute 87 = .ok (.aload_n 1, 1) := by decide +kernel
theorem dX3_passMinute_88 : decode cX3_passMinute 88 = .ok (.iload_n 3, 1) := by decide +kernel
theorem dX3_passMinute_89 : decode cX3_passMinute 89 = .ok (.invokevirtual 66, 3) := by decide +kernel
theorem dX3_passMinute_92 : decode cX3_passMinute 92 = .ok (.if_icmp .le 15, 3) := by decide +kernel
theorem dX3_passMinute_95 : decode cX3_passMinute 95 = .ok (.aload_n 0, 1) := by decide +kernel
theorem dX3_passMinute_96 : decode cX3_passMinute 96 = .ok (.dup, 1) := by decide +kernel
theorem dX3_passMinute_97 : decode cX3_passMinute 97 = .ok (.getfield 34, 3) := by decide +kernel
theorem dX3_passMinute_100 : decode cX3_passMinute 100 = .ok (.iconst 1, 1) := by decide +kernel
theorem dX3_passMinute_101 : decode cX3_passMinute 101 = .ok (.iload_n 3, 1) := by decide +kernel
theorem dX3_passMinute_102 : decode cX3_passMinute 102 = .ok (.ishl, 1) := by decide +kernel
theorem dX3_passMinute_103 : decode cX3_passMinute 103 = .ok (.ior, 1) := by decide +kernel
theorem dX3_passMinute_104 : decode cX3_passMinute 104 = .ok (.putfield 34, 3) := by decide +kernel
theorem dX3_passMinute_107 : decode cX3_passMinute 107 = .ok (.iinc 3 1, 3) := by decide +kernel
theorem dX3_passMinute_110 : decode cX3_passMinute 110 = .ok (.goto (-46), 3) := by decide +kernel
theorem dX3_passMinute_113 : decode cX3_passMinute 113 = .ok (.aload_n 0, 1) := by decide +kernel
theorem dX3_passMinute_114 : decode cX3_passMinute 114 = .ok (.dup, 1) := by decide +kernel
theorem dX3_passMinute_115 : decode cX3_passMinute 115 = .ok (.getfield 37, 3) := by decide +kernel
theorem dX3_passMinute_118 : decode cX3_passMinute 118 = .ok (.iconst 1, 1) := by decide +kernel
theorem dX3_passMinute_119 : decode cX3_passMinute 119 = .ok (.iadd, 1) := by decide +kernel
theorem dX3_passMinute_120 : decode cX3_passMinute 120 = .ok (.putfield 37, 3) := by decide +kernel
theorem dX3_passMinute_123 : decode cX3_passMinute 123 = .ok (.return_, 1) := by decide +kernel
set_option maxRecDepth 20000 in
theorem ggX4_init_X8_init : GoodIn wsX4_init wsX8_init := goodIn_r _ [14, 15, 2, 3, 16, 17, 21] (by decide +kernel) (by decide +kernel)
set_option maxRecDepth 20000 in
theorem gX4_init_X8_init : GoodIn wsX4_init (wsX8_init) := ggX4_init_X8_init
set_option maxRecDepth 20000 in
theorem ggX4_init_X6_init : GoodIn wsX4_init wsX6_init := goodIn_r _ [19, 20, 2, 3] (by decide +kernel) (by decide +kernel)
set_option maxRecDepth 20000 in
theorem gX4_init_X6_init_n22 : GoodIn wsX4_init (wsX6_init) := ggX4_init_X6_init
theorem dX4_init_0 : decode cX4_init 0 = .ok (.aload_n 0, 1) := by decide +kernel
theorem dX4_init_1 : decode cX4_init 1 = .ok (.invokespecial 3, 3) := by decide +kernel
theorem dX4_init_4 : decode cX4_init 4 = .ok (.aload_n 0, 1) := by decide +kernel
theorem dX4_init_5 : decode cX4_init 5 = .ok (.new 9, 3) := by decide +kernel
theorem dX4_init_8 : decode cX4_init 8 = .ok (.dup, 1) := by decide +kernel
theorem dX4_init_9 : decode cX4_init 9 = .ok (.bipush 66, 2) := by decide +kernel
theorem dX4_init_11 : decode cX4_init 11 = .ok (.invokespecial 11, 3) := by decide +kernel
theorem dX4_init_14 : decode cX4_init 14 = .ok (.putfield 14, 3) := by decide +kernel
theorem dX4_init_17 : decode cX4_init 17 = .ok (.aload_n 0, 1) := by decide +kernel
theorem dX4_init_18 : decode cX4_init 18 = .ok (.new 20, 3) := by decide +kernel
theorem dX4_init_21 : decode cX4_init 21 = .ok (.dup, 1) := by decide +kernel
theorem dX4_init_22 : decode cX4_init 22 = .ok (.invokespecial 22, 3) := by decide +kernel
theorem dX4_init_25 : decode cX4_init 25 = .ok (.putfield 23, 3) := by decide +kernel
theorem dX4_init_28 : decode cX4_init 28 = .ok (.return_, 1) := by decide +kernel
set_option maxRecDepth 20000 in
theorem ggX4_lettersIn_X4_byteOf : GoodIn wsX4_lettersIn wsX4_byteOf := goodIn_r _ [4, 5] (by decide +kernel) (by decide +kernel)
set_option maxRecDepth 20000 in
theorem gX4_lettersIn_X4_byteOf : GoodIn wsX4_lettersIn (va_wsS RX4 27 yX4_byteOf wsX4_byteOf) := goodIn_app (goodIn_of _ (by decide +kernel)) ggX4_lettersIn_X4_byteOf
theorem dX4_lettersIn_0 : decode cX4_lettersIn 0 = .ok (.iconst 0, 1) := by decide +kernel
theorem dX4_lettersIn_1 : decode cX4_lettersIn 1 = .ok (.istore_n 2, 1) := by decide +kernel
theorem dX4_lettersIn_2 : decode cX4_lettersIn 2 = .ok (.iconst 0, 1) := by decide +kernel
theorem dX4_lettersIn_3 : decode cX4_lettersIn 3 = .ok (.istore_n 3, 1) := by decide +kernel
theorem dX4_lettersIn_4 : decode cX4_lettersIn 4 = .ok (.iload_n 3, 1) := by decide +kernel
theorem dX4_lettersIn_5 : decode cX4_lettersIn 5 = .ok (.bipush 8, 2) := by decide +kernel
theorem dX4_lettersIn_7 : decode cX4_lettersIn 7 = .ok (.if_icmp .ge 43, 3) := by decide +kernel
theorem dX4_lettersIn_10 : decode cX4_lettersIn 10 = .ok (.lload_n 0, 1) := by decide +kernel
theorem dX4_lettersIn_11 : decode cX4_lettersIn 11 = .ok (.iload_n 3, 1) := by decide +kernel
theorem dX4_lettersIn_12 : decode cX4_lettersIn 12 = .ok (.invokestatic 27, 3) := by decide +kernel
theorem dX4_lettersIn_15 : decode cX4_lettersIn 15 = .ok (.istore 4, 2) := by decide +kernel
theorem dX4_lettersIn_17 : decode cX4_lettersIn 17 = .ok (.iload 4, 2) := by decide +kernel
theorem dX4_lettersIn_19 : decode cX4_lettersIn 19 = .ok (.bipush 126, 2) := by decide +kernel
theorem dX4_lettersIn_21 : decode cX4_lettersIn 21 = .ok (.if_icmp .gt 13, 3) := by decide +kernel
theorem dX4_lettersIn_24 : decode cX4_lettersIn 24 = .ok (.iload 4, 2) := by decide +kernel
theorem dX4_lettersIn_26 : decode cX4_lettersIn 26 = .ok (.ifCond .eq 10, 3) := by decide +kernel
theorem dX4_lettersIn_29 : decode cX4_lettersIn 29 = .ok (.iload_n 2, 1) := by decide +kernel
theorem dX4_lettersIn_30 : decode cX4_lettersIn 30 = .ok (.iload_n 3, 1) := by decide +kernel
theorem dX4_lettersIn_31 : decode cX4_lettersIn 31 = .ok (.if_icmp .ge 5, 3) := by decide +kernel
theorem dX4_lettersIn_34 : decode cX4_lettersIn 34 = .ok (.iconst (-1), 1) := by decide +kernel
theorem dX4_lettersIn_35 : decode cX4_lettersIn 35 = .ok (.ireturn, 1) := by decide +kernel
theorem dX4_lettersIn_36 : decode cX4_lettersIn 36 = .ok (.iload 4, 2) := by decide +kernel
theorem dX4_lettersIn_38 : decode cX4_lettersIn 38 = .ok (.ifCond .eq 6, 3) := by decide +kernel
theorem dX4_lettersIn_41 : decode cX4_lettersIn 41 = .ok (.iinc 2 1, 3) := by decide +kernel
theorem dX4_lettersIn_44 : decode cX4_lettersIn 44 = .ok (.iinc 3 1, 3) := by decide +kernel
theorem dX4_lettersIn_47 : decode cX4_lettersIn 47 = .ok (.goto (-43), 3) := by decide +kernel
theorem dX4_lettersIn_50 : decode cX4_lettersIn 50 = .ok (.iload_n 2, 1) := by decide +kernel
theorem dX4_lettersIn_51 : decode cX4_lettersIn 51 = .ok (.ireturn, 1) := by decide +kernel
theorem dX4_byteOf_0 : decode cX4_byteOf 0 = .ok (.lload_n 0, 1) := by decide +kernel
theorem dX4_byteOf_1 : decode cX4_byteOf 1 = .ok (.bipush 8, 2) := by decide +kernel
theorem dX4_byteOf_3 : decode cX4_byteOf 3 = .ok (.iload_n 2, 1) := by decide +kernel
theorem dX4_byteOf_4 : decode cX4_byteOf 4 = .ok (.imul, 1) := by decide +kernel
theorem dX4_byteOf_5 : decode cX4_byteOf 5 = .ok (.lushr, 1) := by decide +kernel
theorem dX4_byteOf_6 : decode cX4_byteOf 6 = .ok (.ldc2_w 31, 3) := by decide +kernel
theorem dX4_byteOf_9 : decode cX4_byteOf 9 = .ok (.land, 1) := by decide +kernel
theorem dX4_byteOf_10 : decode cX4_byteOf 10 = .ok (.l2i, 1) := by decide +kernel
theorem dX4_byteOf_11 : decode cX4_byteOf 11 = .ok (.ireturn, 1) := by decide +kernel
set_option maxRecDepth 20000 in
theorem ggX4_append_X4_byteOf : GoodIn wsX4_append wsX4_byteOf := goodIn_r _ [6, 7] (by decide +kernel) (by decide +kernel)
set_option maxRecDepth 20000 in
theorem gX4_append_X4_byteOf : GoodIn wsX4_append (va_wsS RX4 27 yX4_byteOf wsX4_byteOf) := goodIn_app (goodIn_of _ (by decide +kernel)) ggX4_append_X4_byteOf
