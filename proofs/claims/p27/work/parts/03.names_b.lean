theorem dX6_takes_150 : decode cX6_takes 150 = .ok (.iload_n 1, 1) := by decide +kernel
theorem dX6_takes_151 : decode cX6_takes 151 = .ok (.invokevirtual 28, 3) := by decide +kernel
theorem dX6_takes_154 : decode cX6_takes 154 = .ok (.ireturn, 1) := by decide +kernel
theorem dX6_takes_155 : decode cX6_takes 155 = .ok (.aload_n 0, 1) := by decide +kernel
theorem dX6_takes_156 : decode cX6_takes 156 = .ok (.iload_n 1, 1) := by decide +kernel
theorem dX6_takes_157 : decode cX6_takes 157 = .ok (.bipush 48, 2) := by decide +kernel
theorem dX6_takes_159 : decode cX6_takes 159 = .ok (.isub, 1) := by decide +kernel
theorem dX6_takes_160 : decode cX6_takes 160 = .ok (.invokevirtual 31, 3) := by decide +kernel
theorem dX6_takes_163 : decode cX6_takes 163 = .ok (.ireturn, 1) := by decide +kernel
theorem dX6_takes_164 : decode cX6_takes 164 = .ok (.aload_n 0, 1) := by decide +kernel
theorem dX6_takes_165 : decode cX6_takes 165 = .ok (.iconst 5, 1) := by decide +kernel
theorem dX6_takes_166 : decode cX6_takes 166 = .ok (.putfield 11, 3) := by decide +kernel
theorem dX6_takes_169 : decode cX6_takes 169 = .ok (.iload_n 1, 1) := by decide +kernel
theorem dX6_takes_170 : decode cX6_takes 170 = .ok (.bipush 48, 2) := by decide +kernel
theorem dX6_takes_172 : decode cX6_takes 172 = .ok (.if_icmp .lt 13, 3) := by decide +kernel
theorem dX6_takes_175 : decode cX6_takes 175 = .ok (.iload_n 1, 1) := by decide +kernel
theorem dX6_takes_176 : decode cX6_takes 176 = .ok (.bipush 57, 2) := by decide +kernel
theorem dX6_takes_178 : decode cX6_takes 178 = .ok (.if_icmp .gt 7, 3) := by decide +kernel
theorem dX6_takes_181 : decode cX6_takes 181 = .ok (.iconst 1, 1) := by decide +kernel
theorem dX6_takes_182 : decode cX6_takes 182 = .ok (.goto 4, 3) := by decide +kernel
theorem dX6_takes_185 : decode cX6_takes 185 = .ok (.iconst 0, 1) := by decide +kernel
theorem dX6_takes_186 : decode cX6_takes 186 = .ok (.ireturn, 1) := by decide +kernel
set_option maxRecDepth 20000 in
theorem ggX6_mayEnd_J6_bitCount_0f7a4 : GoodIn wsX6_mayEnd wsJ6_bitCount_0f7a4 := goodIn_r _ [6, 7, 8, 9] (by decide +kernel) (by decide +kernel)
set_option maxRecDepth 20000 in
theorem gX6_mayEnd_J6_bitCount_0f7a4 : GoodIn wsX6_mayEnd (va_wsS RX6 34 yJ6_bitCount_0f7a4 wsJ6_bitCount_0f7a4) := goodIn_app (goodIn_of _ (by decide +kernel)) ggX6_mayEnd_J6_bitCount_0f7a4
theorem dX6_mayEnd_0 : decode cX6_mayEnd 0 = .ok (.aload_n 0, 1) := by decide +kernel
theorem dX6_mayEnd_1 : decode cX6_mayEnd 1 = .ok (.getfield 11, 3) := by decide +kernel
theorem dX6_mayEnd_4 : decode cX6_mayEnd 4 = .ok (.iconst 5, 1) := by decide +kernel
theorem dX6_mayEnd_5 : decode cX6_mayEnd 5 = .ok (.if_icmp .ne 18, 3) := by decide +kernel
theorem dX6_mayEnd_8 : decode cX6_mayEnd 8 = .ok (.aload_n 0, 1) := by decide +kernel
theorem dX6_mayEnd_9 : decode cX6_mayEnd 9 = .ok (.getfield 18, 3) := by decide +kernel
theorem dX6_mayEnd_12 : decode cX6_mayEnd 12 = .ok (.invokestatic 34, 3) := by decide +kernel
theorem dX6_mayEnd_15 : decode cX6_mayEnd 15 = .ok (.iconst 2, 1) := by decide +kernel
theorem dX6_mayEnd_16 : decode cX6_mayEnd 16 = .ok (.if_icmp .lt 7, 3) := by decide +kernel
theorem dX6_mayEnd_19 : decode cX6_mayEnd 19 = .ok (.iconst 1, 1) := by decide +kernel
theorem dX6_mayEnd_20 : decode cX6_mayEnd 20 = .ok (.goto 4, 3) := by decide +kernel
theorem dX6_mayEnd_23 : decode cX6_mayEnd 23 = .ok (.iconst 0, 1) := by decide +kernel
theorem dX6_mayEnd_24 : decode cX6_mayEnd 24 = .ok (.ireturn, 1) := by decide +kernel
theorem dX6_takesBreak_0 : decode cX6_takesBreak 0 = .ok (.aload_n 0, 1) := by decide +kernel
theorem dX6_takesBreak_1 : decode cX6_takesBreak 1 = .ok (.iload_n 1, 1) := by decide +kernel
theorem dX6_takesBreak_2 : decode cX6_takesBreak 2 = .ok (.bipush 59, 2) := by decide +kernel
theorem dX6_takesBreak_4 : decode cX6_takesBreak 4 = .ok (.if_icmp .ne 7, 3) := by decide +kernel
theorem dX6_takesBreak_7 : decode cX6_takesBreak 7 = .ok (.iconst 5, 1) := by decide +kernel
theorem dX6_takesBreak_8 : decode cX6_takesBreak 8 = .ok (.goto 4, 3) := by decide +kernel
theorem dX6_takesBreak_11 : decode cX6_takesBreak 11 = .ok (.iconst 0, 1) := by decide +kernel
theorem dX6_takesBreak_12 : decode cX6_takesBreak 12 = .ok (.putfield 11, 3) := by decide +kernel
theorem dX6_takesBreak_15 : decode cX6_takesBreak 15 = .ok (.iload_n 1, 1) := by decide +kernel
theorem dX6_takesBreak_16 : decode cX6_takesBreak 16 = .ok (.bipush 59, 2) := by decide +kernel
theorem dX6_takesBreak_18 : decode cX6_takesBreak 18 = .ok (.if_icmp .eq 18, 3) := by decide +kernel
theorem dX6_takesBreak_21 : decode cX6_takesBreak 21 = .ok (.iload_n 1, 1) := by decide +kernel
theorem dX6_takesBreak_22 : decode cX6_takesBreak 22 = .ok (.bipush 44, 2) := by decide +kernel
theorem dX6_takesBreak_24 : decode cX6_takesBreak 24 = .ok (.if_icmp .ne 16, 3) := by decide +kernel
theorem dX6_takesBreak_27 : decode cX6_takesBreak 27 = .ok (.aload_n 0, 1) := by decide +kernel
theorem dX6_takesBreak_28 : decode cX6_takesBreak 28 = .ok (.getfield 15, 3) := by decide +kernel
theorem dX6_takesBreak_31 : decode cX6_takesBreak 31 = .ok (.bipush 10, 2) := by decide +kernel
theorem dX6_takesBreak_33 : decode cX6_takesBreak 33 = .ok (.if_icmp .ge 7, 3) := by decide +kernel
theorem dX6_takesBreak_36 : decode cX6_takesBreak 36 = .ok (.iconst 1, 1) := by decide +kernel
theorem dX6_takesBreak_37 : decode cX6_takesBreak 37 = .ok (.goto 4, 3) := by decide +kernel
theorem dX6_takesBreak_40 : decode cX6_takesBreak 40 = .ok (.iconst 0, 1) := by decide +kernel
theorem dX6_takesBreak_41 : decode cX6_takesBreak 41 = .ok (.ireturn, 1) := by decide +kernel
set_option maxRecDepth 20000 in
theorem ggX6_takesShaft_X10_isKnot : GoodIn wsX6_takesShaft wsX10_isKnot := goodIn_r _ [5] (by decide +kernel) (by decide +kernel)
set_option maxRecDepth 20000 in
theorem gX6_takesShaft_X10_isKnot_n24 : GoodIn wsX6_takesShaft (wsX10_isKnot) := ggX6_takesShaft_X10_isKnot
set_option maxRecDepth 20000 in
theorem ggX6_takesShaft_X10_bit : GoodIn wsX6_takesShaft wsX10_bit := goodIn_r _ [7] (by decide +kernel) (by decide +kernel)
set_option maxRecDepth 20000 in
theorem gX6_takesShaft_X10_bit_n40 : GoodIn wsX6_takesShaft (wsX10_bit) := ggX6_takesShaft_X10_bit
theorem dX6_takesShaft_0 : decode cX6_takesShaft 0 = .ok (.iload_n 1, 1) := by decide +kernel
theorem dX6_takesShaft_1 : decode cX6_takesShaft 1 = .ok (.invokestatic 24, 3) := by decide +kernel
theorem dX6_takesShaft_4 : decode cX6_takesShaft 4 = .ok (.ifCond .eq 15, 3) := by decide +kernel
theorem dX6_takesShaft_7 : decode cX6_takesShaft 7 = .ok (.aload_n 0, 1) := by decide +kernel
theorem dX6_takesShaft_8 : decode cX6_takesShaft 8 = .ok (.getfield 18, 3) := by decide +kernel
theorem dX6_takesShaft_11 : decode cX6_takesShaft 11 = .ok (.iload_n 1, 1) := by decide +kernel
theorem dX6_takesShaft_12 : decode cX6_takesShaft 12 = .ok (.invokestatic 40, 3) := by decide +kernel
theorem dX6_takesShaft_15 : decode cX6_takesShaft 15 = .ok (.iconst 1, 1) := by decide +kernel
theorem dX6_takesShaft_16 : decode cX6_takesShaft 16 = .ok (.if_icmp .ne 5, 3) := by decide +kernel
theorem dX6_takesShaft_19 : decode cX6_takesShaft 19 = .ok (.iconst 0, 1) := by decide +kernel
theorem dX6_takesShaft_20 : decode cX6_takesShaft 20 = .ok (.ireturn, 1) := by decide +kernel
theorem dX6_takesShaft_21 : decode cX6_takesShaft 21 = .ok (.aload_n 0, 1) := by decide +kernel
theorem dX6_takesShaft_22 : decode cX6_takesShaft 22 = .ok (.dup, 1) := by decide +kernel
theorem dX6_takesShaft_23 : decode cX6_takesShaft 23 = .ok (.getfield 18, 3) := by decide +kernel
theorem dX6_takesShaft_26 : decode cX6_takesShaft 26 = .ok (.iconst 1, 1) := by decide +kernel
theorem dX6_takesShaft_27 : decode cX6_takesShaft 27 = .ok (.iload_n 1, 1) := by decide +kernel
theorem dX6_takesShaft_28 : decode cX6_takesShaft 28 = .ok (.ishl, 1) := by decide +kernel
theorem dX6_takesShaft_29 : decode cX6_takesShaft 29 = .ok (.ior, 1) := by decide +kernel
theorem dX6_takesShaft_30 : decode cX6_takesShaft 30 = .ok (.putfield 18, 3) := by decide +kernel
theorem dX6_takesShaft_33 : decode cX6_takesShaft 33 = .ok (.aload_n 0, 1) := by decide +kernel
theorem dX6_takesShaft_34 : decode cX6_takesShaft 34 = .ok (.bipush 6, 2) := by decide +kernel
theorem dX6_takesShaft_36 : decode cX6_takesShaft 36 = .ok (.putfield 11, 3) := by decide +kernel
theorem dX6_takesShaft_39 : decode cX6_takesShaft 39 = .ok (.iconst 1, 1) := by decide +kernel
theorem dX6_takesShaft_40 : decode cX6_takesShaft 40 = .ok (.ireturn, 1) := by decide +kernel
set_option maxRecDepth 20000 in
theorem ggX7_init_X8_init : GoodIn wsX7_init wsX8_init := goodIn_r _ [15, 16, 2, 3, 17, 18, 25] (by decide +kernel) (by decide +kernel)
set_option maxRecDepth 20000 in
theorem gX7_init_X8_init : GoodIn wsX7_init (wsX8_init) := ggX7_init_X8_init
set_option maxRecDepth 20000 in
theorem ggX7_init_X9_init : GoodIn wsX7_init wsX9_init := goodIn_r _ [20, 21, 2, 3, 22, 5, 6, 23, 24, 14, 15, 16, 17, 18, 25, 31] (by decide +kernel) (by decide +kernel)
set_option maxRecDepth 20000 in
theorem gX7_init_X9_init_n25 : GoodIn wsX7_init (wsX9_init) := ggX7_init_X9_init
theorem dX7_init_0 : decode cX7_init 0 = .ok (.aload_n 0, 1) := by decide +kernel
theorem dX7_init_1 : decode cX7_init 1 = .ok (.invokespecial 3, 3) := by decide +kernel
theorem dX7_init_4 : decode cX7_init 4 = .ok (.aload_n 0, 1) := by decide +kernel
theorem dX7_init_5 : decode cX7_init 5 = .ok (.new 9, 3) := by decide +kernel
theorem dX7_init_8 : decode cX7_init 8 = .ok (.dup, 1) := by decide +kernel
theorem dX7_init_9 : decode cX7_init 9 = .ok (.iconst 5, 1) := by decide +kernel
theorem dX7_init_10 : decode cX7_init 10 = .ok (.invokespecial 11, 3) := by decide +kernel
theorem dX7_init_13 : decode cX7_init 13 = .ok (.putfield 14, 3) := by decide +kernel
theorem dX7_init_16 : decode cX7_init 16 = .ok (.aload_n 0, 1) := by decide +kernel
theorem dX7_init_17 : decode cX7_init 17 = .ok (.new 9, 3) := by decide +kernel
theorem dX7_init_20 : decode cX7_init 20 = .ok (.dup, 1) := by decide +kernel
theorem dX7_init_21 : decode cX7_init 21 = .ok (.iconst 5, 1) := by decide +kernel
theorem dX7_init_22 : decode cX7_init 22 = .ok (.invokespecial 11, 3) := by decide +kernel
theorem dX7_init_25 : decode cX7_init 25 = .ok (.putfield 20, 3) := by decide +kernel
theorem dX7_init_28 : decode cX7_init 28 = .ok (.aload_n 0, 1) := by decide +kernel
theorem dX7_init_29 : decode cX7_init 29 = .ok (.new 23, 3) := by decide +kernel
theorem dX7_init_32 : decode cX7_init 32 = .ok (.dup, 1) := by decide +kernel
theorem dX7_init_33 : decode cX7_init 33 = .ok (.invokespecial 25, 3) := by decide +kernel
theorem dX7_init_36 : decode cX7_init 36 = .ok (.putfield 26, 3) := by decide +kernel
theorem dX7_init_39 : decode cX7_init 39 = .ok (.return_, 1) := by decide +kernel
theorem dX8_init_0 : decode cX8_init 0 = .ok (.aload_n 0, 1) := by decide +kernel
theorem dX8_init_1 : decode cX8_init 1 = .ok (.invokespecial 1, 3) := by decide +kernel
theorem dX8_init_4 : decode cX8_init 4 = .ok (.aload_n 0, 1) := by decide +kernel
theorem dX8_init_5 : decode cX8_init 5 = .ok (.iload_n 1, 1) := by decide +kernel
theorem dX8_init_6 : decode cX8_init 6 = .ok (.ifCond .le 7, 3) := by decide +kernel
theorem dX8_init_9 : decode cX8_init 9 = .ok (.iload_n 1, 1) := by decide +kernel
theorem dX8_init_10 : decode cX8_init 10 = .ok (.goto 4, 3) := by decide +kernel
theorem dX8_init_13 : decode cX8_init 13 = .ok (.iconst 0, 1) := by decide +kernel
theorem dX8_init_14 : decode cX8_init 14 = .ok (.newarray .int, 2) := by decide +kernel
theorem dX8_init_16 : decode cX8_init 16 = .ok (.putfield 7, 3) := by decide +kernel
theorem dX8_init_19 : decode cX8_init 19 = .ok (.return_, 1) := by decide +kernel
theorem dX8_get_0 : decode cX8_get 0 = .ok (.iload_n 1, 1) := by decide +kernel
theorem dX8_get_1 : decode cX8_get 1 = .ok (.ifCond .lt 21, 3) := by decide +kernel
theorem dX8_get_4 : decode cX8_get 4 = .ok (.iload_n 1, 1) := by decide +kernel
theorem dX8_get_5 : decode cX8_get 5 = .ok (.aload_n 0, 1) := by decide +kernel
theorem dX8_get_6 : decode cX8_get 6 = .ok (.getfield 7, 3) := by decide +kernel
theorem dX8_get_9 : decode cX8_get 9 = .ok (.arraylength, 1) := by decide +kernel
theorem dX8_get_10 : decode cX8_get 10 = .ok (.if_icmp .ge 12, 3) := by decide +kernel
theorem dX8_get_13 : decode cX8_get 13 = .ok (.aload_n 0, 1) := by decide +kernel
theorem dX8_get_14 : decode cX8_get 14 = .ok (.getfield 7, 3) := by decide +kernel
theorem dX8_get_17 : decode cX8_get 17 = .ok (.iload_n 1, 1) := by decide +kernel
theorem dX8_get_18 : decode cX8_get 18 = .ok (.iaload, 1) := by decide +kernel
theorem dX8_get_19 : decode cX8_get 19 = .ok (.goto 4, 3) := by decide +kernel
theorem dX8_get_22 : decode cX8_get 22 = .ok (.iconst 0, 1) := by decide +kernel
theorem dX8_get_23 : decode cX8_get 23 = .ok (.ireturn, 1) := by decide +kernel
theorem dX8_set_0 : decode cX8_set 0 = .ok (.iload_n 1, 1) := by decide +kernel
theorem dX8_set_1 : decode cX8_set 1 = .ok (.ifCond .lt 19, 3) := by decide +kernel
theorem dX8_set_4 : decode cX8_set 4 = .ok (.iload_n 1, 1) := by decide +kernel
theorem dX8_set_5 : decode cX8_set 5 = .ok (.aload_n 0, 1) := by decide +kernel
theorem dX8_set_6 : decode cX8_set 6 = .ok (.getfield 7, 3) := by decide +kernel
theorem dX8_set_9 : decode cX8_set 9 = .ok (.arraylength, 1) := by decide +kernel
theorem dX8_set_10 : decode cX8_set 10 = .ok (.if_icmp .ge 10, 3) := by decide +kernel
theorem dX8_set_13 : decode cX8_set 13 = .ok (.aload_n 0, 1) := by decide +kernel
theorem dX8_set_14 : decode cX8_set 14 = .ok (.getfield 7, 3) := by decide +kernel
theorem dX8_set_17 : decode cX8_set 17 = .ok (.iload_n 1, 1) := by decide +kernel
theorem dX8_set_18 : decode cX8_set 18 = .ok (.iload_n 2, 1) := by decide +kernel
theorem dX8_set_19 : decode cX8_set 19 = .ok (.iastore, 1) := by decide +kernel
theorem dX8_set_20 : decode cX8_set 20 = .ok (.return_, 1) := by decide +kernel
theorem dX8_fill_0 : decode cX8_fill 0 = .ok (.iconst 0, 1) := by decide +kernel
theorem dX8_fill_1 : decode cX8_fill 1 = .ok (.istore_n 2, 1) := by decide +kernel
theorem dX8_fill_2 : decode cX8_fill 2 = .ok (.iload_n 2, 1) := by decide +kernel
theorem dX8_fill_3 : decode cX8_fill 3 = .ok (.aload_n 0, 1) := by decide +kernel
theorem dX8_fill_4 : decode cX8_fill 4 = .ok (.getfield 7, 3) := by decide +kernel
theorem dX8_fill_7 : decode cX8_fill 7 = .ok (.arraylength, 1) := by decide +kernel
theorem dX8_fill_8 : decode cX8_fill 8 = .ok (.if_icmp .ge 16, 3) := by decide +kernel
theorem dX8_fill_11 : decode cX8_fill 11 = .ok (.aload_n 0, 1) := by decide +kernel
theorem dX8_fill_12 : decode cX8_fill 12 = .ok (.getfield 7, 3) := by decide +kernel
theorem dX8_fill_15 : decode cX8_fill 15 = .ok (.iload_n 2, 1) := by decide +kernel
theorem dX8_fill_16 : decode cX8_fill 16 = .ok (.iload_n 1, 1) := by decide +kernel
theorem dX8_fill_17 : decode cX8_fill 17 = .ok (.iastore, 1) := by decide +kernel
theorem dX8_fill_18 : decode cX8_fill 18 = .ok (.iinc 2 1, 3) := by decide +kernel
theorem dX8_fill_21 : decode cX8_fill 21 = .ok (.goto (-19), 3) := by decide +kernel
theorem dX8_fill_24 : decode cX8_fill 24 = .ok (.return_, 1) := by decide +kernel
set_option maxRecDepth 20000 in
theorem ggX8_copyFrom_X8_get : GoodIn wsX8_copyFrom wsX8_get := goodIn_r _ [6, 1, 7] (by decide +kernel) (by decide +kernel)
set_option maxRecDepth 20000 in
theorem gX8_copyFrom_X8_get : GoodIn wsX8_copyFrom (wsV RX8 13 RX8 yX8_get wsX8_get) := goodIn_app (goodIn_of _ (by decide +kernel)) ggX8_copyFrom_X8_get
theorem dX8_copyFrom_0 : decode cX8_copyFrom 0 = .ok (.iconst 0, 1) := by decide +kernel
theorem dX8_copyFrom_1 : decode cX8_copyFrom 1 = .ok (.istore_n 2, 1) := by decide +kernel
theorem dX8_copyFrom_2 : decode cX8_copyFrom 2 = .ok (.iload_n 2, 1) := by decide +kernel
theorem dX8_copyFrom_3 : decode cX8_copyFrom 3 = .ok (.aload_n 0, 1) := by decide +kernel
theorem dX8_copyFrom_4 : decode cX8_copyFrom 4 = .ok (.getfield 7, 3) := by decide +kernel
theorem dX8_copyFrom_7 : decode cX8_copyFrom 7 = .ok (.arraylength, 1) := by decide +kernel
theorem dX8_copyFrom_8 : decode cX8_copyFrom 8 = .ok (.if_icmp .ge 20, 3) := by decide +kernel
theorem dX8_copyFrom_11 : decode cX8_copyFrom 11 = .ok (.aload_n 0, 1) := by decide +kernel
theorem dX8_copyFrom_12 : decode cX8_copyFrom 12 = .ok (.getfield 7, 3) := by decide +kernel
theorem dX8_copyFrom_15 : decode cX8_copyFrom 15 = .ok (.iload_n 2, 1) := by decide +kernel
theorem dX8_copyFrom_16 : decode cX8_copyFrom 16 = .ok (.aload_n 1, 1) := by decide +kernel
theorem dX8_copyFrom_17 : decode cX8_copyFrom 17 = .ok (.iload_n 2, 1) := by decide +kernel
theorem dX8_copyFrom_18 : decode cX8_copyFrom 18 = .ok (.invokevirtual 13, 3) := by decide +kernel
theorem dX8_copyFrom_21 : decode cX8_copyFrom 21 = .ok (.iastore, 1) := by decide +kernel
theorem dX8_copyFrom_22 : decode cX8_copyFrom 22 = .ok (.iinc 2 1, 3) := by decide +kernel
theorem dX8_copyFrom_25 : decode cX8_copyFrom 25 = .ok (.goto (-23), 3) := by decide +kernel
theorem dX8_copyFrom_28 : decode cX8_copyFrom 28 = .ok (.return_, 1) := by decide +kernel
theorem dX8_sum_0 : decode cX8_sum 0 = .ok (.iconst 0, 1) := by decide +kernel
theorem dX8_sum_1 : decode cX8_sum 1 = .ok (.istore_n 1, 1) := by decide +kernel
theorem dX8_sum_2 : decode cX8_sum 2 = .ok (.iconst 0, 1) := by decide +kernel
theorem dX8_sum_3 : decode cX8_sum 3 = .ok (.istore_n 2, 1) := by decide +kernel
theorem dX8_sum_4 : decode cX8_sum 4 = .ok (.iload_n 2, 1) := by decide +kernel
theorem dX8_sum_5 : decode cX8_sum 5 = .ok (.aload_n 0, 1) := by decide +kernel
theorem dX8_sum_6 : decode cX8_sum 6 = .ok (.getfield 7, 3) := by decide +kernel
theorem dX8_sum_9 : decode cX8_sum 9 = .ok (.arraylength, 1) := by decide +kernel
theorem dX8_sum_10 : decode cX8_sum 10 = .ok (.if_icmp .ge 18, 3) := by decide +kernel
theorem dX8_sum_13 : decode cX8_sum 13 = .ok (.iload_n 1, 1) := by decide +kernel
theorem dX8_sum_14 : decode cX8_sum 14 = .ok (.aload_n 0, 1) := by decide +kernel
theorem dX8_sum_15 : decode cX8_sum 15 = .ok (.getfield 7, 3) := by decide +kernel
theorem dX8_sum_18 : decode cX8_sum 18 = .ok (.iload_n 2, 1) := by decide +kernel
theorem dX8_sum_19 : decode cX8_sum 19 = .ok (.iaload, 1) := by decide +kernel
theorem dX8_sum_20 : decode cX8_sum 20 = .ok (.iadd, 1) := by decide +kernel
theorem dX8_sum_21 : decode cX8_sum 21 = .ok (.istore_n 1, 1) := by decide +kernel
theorem dX8_sum_22 : decode cX8_sum 22 = .ok (.iinc 2 1, 3) := by decide +kernel
theorem dX8_sum_25 : decode cX8_sum 25 = .ok (.goto (-21), 3) := by decide +kernel
theorem dX8_sum_28 : decode cX8_sum 28 = .ok (.iload_n 1, 1) := by decide +kernel
theorem dX8_sum_29 : decode cX8_sum 29 = .ok (.ireturn, 1) := by decide +kernel
set_option maxRecDepth 20000 in
theorem ggX9_init_X8_init : GoodIn wsX9_init wsX8_init := goodIn_r _ [10, 11, 2, 3, 12, 13, 14] (by decide +kernel) (by decide +kernel)
set_option maxRecDepth 20000 in
theorem gX9_init_X8_init : GoodIn wsX9_init (wsX8_init) := ggX9_init_X8_init
theorem dX9_init_0 : decode cX9_init 0 = .ok (.aload_n 0, 1) := by decide +kernel
theorem dX9_init_1 : decode cX9_init 1 = .ok (.invokespecial 3, 3) := by decide +kernel
theorem dX9_init_4 : decode cX9_init 4 = .ok (.aload_n 0, 1) := by decide +kernel
theorem dX9_init_5 : decode cX9_init 5 = .ok (.new 9, 3) := by decide +kernel
theorem dX9_init_8 : decode cX9_init 8 = .ok (.dup, 1) := by decide +kernel
theorem dX9_init_9 : decode cX9_init 9 = .ok (.bipush 49, 2) := by decide +kernel
theorem dX9_init_11 : decode cX9_init 11 = .ok (.invokespecial 11, 3) := by decide +kernel
theorem dX9_init_14 : decode cX9_init 14 = .ok (.putfield 14, 3) := by decide +kernel
theorem dX9_init_17 : decode cX9_init 17 = .ok (.return_, 1) := by decide +kernel
set_option maxRecDepth 20000 in
theorem ggX9_clear_X8_fill : GoodIn wsX9_clear wsX8_fill := goodIn_r _ [6, 7, 13] (by decide +kernel) (by decide +kernel)
set_option maxRecDepth 20000 in
theorem gX9_clear_X8_fill : GoodIn wsX9_clear (wsV RX9 20 RX8 yX8_fill wsX8_fill) := goodIn_app (goodIn_of _ (by decide +kernel)) ggX9_clear_X8_fill
set_option maxRecDepth 20000 in
theorem ggX9_clear_X8_set : GoodIn wsX9_clear wsX8_set := goodIn_r _ [11, 7, 13] (by decide +kernel) (by decide +kernel)
set_option maxRecDepth 20000 in
theorem gX9_clear_X8_set : GoodIn wsX9_clear (wsV RX9 23 RX8 yX8_set wsX8_set) := goodIn_app (goodIn_of _ (by decide +kernel)) ggX9_clear_X8_set
theorem dX9_clear_0 : decode cX9_clear 0 = .ok (.aload_n 0, 1) := by decide +kernel
theorem dX9_clear_1 : decode cX9_clear 1 = .ok (.getfield 14, 3) := by decide +kernel
theorem dX9_clear_4 : decode cX9_clear 4 = .ok (.iconst (-1), 1) := by decide +kernel
theorem dX9_clear_5 : decode cX9_clear 5 = .ok (.invokevirtual 20, 3) := by decide +kernel
theorem dX9_clear_8 : decode cX9_clear 8 = .ok (.iconst 0, 1) := by decide +kernel
theorem dX9_clear_9 : decode cX9_clear 9 = .ok (.istore_n 1, 1) := by decide +kernel
theorem dX9_clear_10 : decode cX9_clear 10 = .ok (.iload_n 1, 1) := by decide +kernel
theorem dX9_clear_11 : decode cX9_clear 11 = .ok (.bipush 7, 2) := by decide +kernel
theorem dX9_clear_13 : decode cX9_clear 13 = .ok (.if_icmp .ge 23, 3) := by decide +kernel
theorem dX9_clear_16 : decode cX9_clear 16 = .ok (.aload_n 0, 1) := by decide +kernel
theorem dX9_clear_17 : decode cX9_clear 17 = .ok (.getfield 14, 3) := by decide +kernel
theorem dX9_clear_20 : decode cX9_clear 20 = .ok (.iload_n 1, 1) := by decide +kernel
theorem dX9_clear_21 : decode cX9_clear 21 = .ok (.bipush 7, 2) := by decide +kernel
theorem dX9_clear_23 : decode cX9_clear 23 = .ok (.imul, 1) := by decide +kernel
theorem dX9_clear_24 : decode cX9_clear 24 = .ok (.iload_n 1, 1) := by decide +kernel
theorem dX9_clear_25 : decode cX9_clear 25 = .ok (.iadd, 1) := by decide +kernel
theorem dX9_clear_26 : decode cX9_clear 26 = .ok (.iconst 0, 1) := by decide +kernel
theorem dX9_clear_27 : decode cX9_clear 27 = .ok (.invokevirtual 23, 3) := by decide +kernel
theorem dX9_clear_30 : decode cX9_clear 30 = .ok (.iinc 1 1, 3) := by decide +kernel
theorem dX9_clear_33 : decode cX9_clear 33 = .ok (.goto (-23), 3) := by decide +kernel
theorem dX9_clear_36 : decode cX9_clear 36 = .ok (.return_, 1) := by decide +kernel
set_option maxRecDepth 20000 in
theorem ggX9_between_X8_get : GoodIn wsX9_between wsX8_get := goodIn_r _ [6, 7, 9] (by decide +kernel) (by decide +kernel)
set_option maxRecDepth 20000 in
theorem gX9_between_X8_get : GoodIn wsX9_between (wsV RX9 27 RX8 yX8_get wsX8_get) := goodIn_app (goodIn_of _ (by decide +kernel)) ggX9_between_X8_get
theorem dX9_between_0 : decode cX9_between 0 = .ok (.aload_n 0, 1) := by decide +kernel
theorem dX9_between_1 : decode cX9_between 1 = .ok (.getfield 14, 3) := by decide +kernel
theorem dX9_between_4 : decode cX9_between 4 = .ok (.iload_n 1, 1) := by decide +kernel
theorem dX9_between_5 : decode cX9_between 5 = .ok (.bipush 7, 2) := by decide +kernel
theorem dX9_between_7 : decode cX9_between 7 = .ok (.imul, 1) := by decide +kernel
theorem dX9_between_8 : decode cX9_between 8 = .ok (.iload_n 2, 1) := by decide +kernel
theorem dX9_between_9 : decode cX9_between 9 = .ok (.iadd, 1) := by decide +kernel
theorem dX9_between_10 : decode cX9_between 10 = .ok (.invokevirtual 27, 3) := by decide +kernel
theorem dX9_between_13 : decode cX9_between 13 = .ok (.ireturn, 1) := by decide +kernel
set_option maxRecDepth 20000 in
theorem ggX9_link_X9_between : GoodIn wsX9_link wsX9_between := goodIn_r _ [6, 1, 7, 8, 9, 10, 11, 12, 17, 18] (by decide +kernel) (by decide +kernel)
set_option maxRecDepth 20000 in
theorem gX9_link_X9_between : GoodIn wsX9_link (wsV RX9 31 RX9 yX9_between wsX9_between) := goodIn_app (goodIn_of _ (by decide +kernel)) ggX9_link_X9_between
set_option maxRecDepth 20000 in
theorem ggX9_link_X8_set : GoodIn wsX9_link wsX8_set := goodIn_r _ [16, 12, 18] (by decide +kernel) (by decide +kernel)
set_option maxRecDepth 20000 in
theorem gX9_link_X8_set : GoodIn wsX9_link (wsV RX9 23 RX8 yX8_set wsX8_set) := goodIn_app (goodIn_of _ (by decide +kernel)) ggX9_link_X8_set
theorem dX9_link_0 : decode cX9_link 0 = .ok (.aload_n 0, 1) := by decide +kernel
theorem dX9_link_1 : decode cX9_link 1 = .ok (.iload_n 1, 1) := by decide +kernel
theorem dX9_link_2 : decode cX9_link 2 = .ok (.iload_n 2, 1) := by decide +kernel
theorem dX9_link_3 : decode cX9_link 3 = .ok (.invokevirtual 31, 3) := by decide +kernel
theorem dX9_link_6 : decode cX9_link 6 = .ok (.istore 4, 2) := by decide +kernel
theorem dX9_link_8 : decode cX9_link 8 = .ok (.iload 4, 2) := by decide +kernel
theorem dX9_link_10 : decode cX9_link 10 = .ok (.iconst (-1), 1) := by decide +kernel
theorem dX9_link_11 : decode cX9_link 11 = .ok (.if_icmp .eq 9, 3) := by decide +kernel
theorem dX9_link_14 : decode cX9_link 14 = .ok (.iload_n 3, 1) := by decide +kernel
theorem dX9_link_15 : decode cX9_link 15 = .ok (.iload 4, 2) := by decide +kernel
theorem dX9_link_17 : decode cX9_link 17 = .ok (.if_icmp .ge 17, 3) := by decide +kernel
theorem dX9_link_20 : decode cX9_link 20 = .ok (.aload_n 0, 1) := by decide +kernel
theorem dX9_link_21 : decode cX9_link 21 = .ok (.getfield 14, 3) := by decide +kernel
theorem dX9_link_24 : decode cX9_link 24 = .ok (.iload_n 1, 1) := by decide +kernel
theorem dX9_link_25 : decode cX9_link 25 = .ok (.bipush 7, 2) := by decide +kernel
theorem dX9_link_27 : decode cX9_link 27 = .ok (.imul, 1) := by decide +kernel
theorem dX9_link_28 : decode cX9_link 28 = .ok (.iload_n 2, 1) := by decide +kernel
theorem dX9_link_29 : decode cX9_link 29 = .ok (.iadd, 1) := by decide +kernel
theorem dX9_link_30 : decode cX9_link 30 = .ok (.iload_n 3, 1) := by decide +kernel
theorem dX9_link_31 : decode cX9_link 31 = .ok (.invokevirtual 23, 3) := by decide +kernel
theorem dX9_link_34 : decode cX9_link 34 = .ok (.return_, 1) := by decide +kernel
set_option maxRecDepth 20000 in
theorem ggX9_joinWays_X9_between : GoodIn wsX9_joinWays wsX9_between := goodIn_r _ [5, 6, 7, 8, 9, 10, 11, 12, 21, 22] (by decide +kernel) (by decide +kernel)
set_option maxRecDepth 20000 in
theorem gX9_joinWays_X9_between : GoodIn wsX9_joinWays (wsV RX9 31 RX9 yX9_between wsX9_between) := goodIn_app (goodIn_of _ (by decide +kernel)) ggX9_joinWays_X9_between
set_option maxRecDepth 20000 in
theorem ggX9_joinWays_X9_link : GoodIn wsX9_joinWays wsX9_link := goodIn_r _ [16, 6, 1, 2, 3, 4, 5, 7, 8, 9, 10, 11, 12, 17, 18, 19, 20, 21, 22] (by decide +kernel) (by decide +kernel)
set_option maxRecDepth 20000 in
theorem gX9_joinWays_X9_link : GoodIn wsX9_joinWays (wsV RX9 35 RX9 yX9_link wsX9_link) := goodIn_app (goodIn_of _ (by decide +kernel)) ggX9_joinWays_X9_link
theorem dX9_joinWays_0 : decode cX9_joinWays 0 = .ok (.iconst 0, 1) := by decide +kernel
theorem dX9_joinWays_1 : decode cX9_joinWays 1 = .ok (.istore_n 1, 1) := by decide +kernel
theorem dX9_joinWays_2 : decode cX9_joinWays 2 = .ok (.iload_n 1, 1) := by decide +kernel
theorem dX9_joinWays_3 : decode cX9_joinWays 3 = .ok (.bipush 7, 2) := by decide +kernel
theorem dX9_joinWays_5 : decode cX9_joinWays 5 = .ok (.if_icmp .ge 77, 3) := by decide +kernel
theorem dX9_joinWays_8 : decode cX9_joinWays 8 = .ok (.iconst 0, 1) := by decide +kernel
theorem dX9_joinWays_9 : decode cX9_joinWays 9 = .ok (.istore_n 2, 1) := by decide +kernel
theorem dX9_joinWays_10 : decode cX9_joinWays 10 = .ok (.iload_n 2, 1) := by decide +kernel
theorem dX9_joinWays_11 : decode cX9_joinWays 11 = .ok (.bipush 7, 2) := by decide +kernel
theorem dX9_joinWays_13 : decode cX9_joinWays 13 = .ok (.if_icmp .ge 63, 3) := by decide +kernel
theorem dX9_joinWays_16 : decode cX9_joinWays 16 = .ok (.aload_n 0, 1) := by decide +kernel
theorem dX9_joinWays_17 : decode cX9_joinWays 17 = .ok (.iload_n 2, 1) := by decide +kernel
theorem dX9_joinWays_18 : decode cX9_joinWays 18 = .ok (.iload_n 1, 1) := by decide +kernel
theorem dX9_joinWays_19 : decode cX9_joinWays 19 = .ok (.invokevirtual 31, 3) := by decide +kernel
theorem dX9_joinWays_22 : decode cX9_joinWays 22 = .ok (.istore_n 3, 1) := by decide +kernel
theorem dX9_joinWays_23 : decode cX9_joinWays 23 = .ok (.iconst 0, 1) := by decide +kernel
theorem dX9_joinWays_24 : decode cX9_joinWays 24 = .ok (.istore 4, 2) := by decide +kernel
theorem dX9_joinWays_26 : decode cX9_joinWays 26 = .ok (.iload 4, 2) := by decide +kernel
theorem dX9_joinWays_28 : decode cX9_joinWays 28 = .ok (.bipush 7, 2) := by decide +kernel
theorem dX9_joinWays_30 : decode cX9_joinWays 30 = .ok (.if_icmp .ge 40, 3) := by decide +kernel
theorem dX9_joinWays_33 : decode cX9_joinWays 33 = .ok (.iload_n 3, 1) := by decide +kernel
theorem dX9_joinWays_34 : decode cX9_joinWays 34 = .ok (.iconst (-1), 1) := by decide +kernel
theorem dX9_joinWays_35 : decode cX9_joinWays 35 = .ok (.if_icmp .eq 35, 3) := by decide +kernel
theorem dX9_joinWays_38 : decode cX9_joinWays 38 = .ok (.aload_n 0, 1) := by decide +kernel
theorem dX9_joinWays_39 : decode cX9_joinWays 39 = .ok (.iload_n 1, 1) := by decide +kernel
theorem dX9_joinWays_40 : decode cX9_joinWays 40 = .ok (.iload 4, 2) := by decide +kernel
theorem dX9_joinWays_42 : decode cX9_joinWays 42 = .ok (.invokevirtual 31, 3) := by decide +kernel
theorem dX9_joinWays_45 : decode cX9_joinWays 45 = .ok (.istore 5, 2) := by decide +kernel
theorem dX9_joinWays_47 : decode cX9_joinWays 47 = .ok (.iload 5, 2) := by decide +kernel
theorem dX9_joinWays_49 : decode cX9_joinWays 49 = .ok (.iconst (-1), 1) := by decide +kernel
theorem dX9_joinWays_50 : decode cX9_joinWays 50 = .ok (.if_icmp .eq 14, 3) := by decide +kernel
theorem dX9_joinWays_53 : decode cX9_joinWays 53 = .ok (.aload_n 0, 1) := by decide +kernel
theorem dX9_joinWays_54 : decode cX9_joinWays 54 = .ok (.iload_n 2, 1) := by decide +kernel
theorem dX9_joinWays_55 : decode cX9_joinWays 55 = .ok (.iload 4, 2) := by decide +kernel
theorem dX9_joinWays_57 : decode cX9_joinWays 57 = .ok (.iload_n 3, 1) := by decide +kernel
theorem dX9_joinWays_58 : decode cX9_joinWays 58 = .ok (.iload 5, 2) := by decide +kernel
theorem dX9_joinWays_60 : decode cX9_joinWays 60 = .ok (.iadd, 1) := by decide +kernel
theorem dX9_joinWays_61 : decode cX9_joinWays 61 = .ok (.invokevirtual 35, 3) := by decide +kernel
theorem dX9_joinWays_64 : decode cX9_joinWays 64 = .ok (.iinc 4 1, 3) := by decide +kernel
theorem dX9_joinWays_67 : decode cX9_joinWays 67 = .ok (.goto (-41), 3) := by decide +kernel
theorem dX9_joinWays_70 : decode cX9_joinWays 70 = .ok (.iinc 2 1, 3) := by decide +kernel
theorem dX9_joinWays_73 : decode cX9_joinWays 73 = .ok (.goto (-63), 3) := by decide +kernel
theorem dX9_joinWays_76 : decode cX9_joinWays 76 = .ok (.iinc 1 1, 3) := by decide +kernel
theorem dX9_joinWays_79 : decode cX9_joinWays 79 = .ok (.goto (-77), 3) := by decide +kernel
theorem dX9_joinWays_82 : decode cX9_joinWays 82 = .ok (.return_, 1) := by decide +kernel
set_option maxRecDepth 20000 in
theorem ggX10_init_X4_init : GoodIn wsX10_init wsX4_init := goodIn_r _ [41, 42, 2, 3, 43, 44, 45, 46, 47, 48, 49, 50, 51, 52, 53, 54, 55, 56, 57, 58, 59, 152, 108, 109, 110, 153, 154, 155, 156] (by decide +kernel) (by decide +kernel)
set_option maxRecDepth 20000 in
theorem gX10_init_X4_init_n9 : GoodIn wsX10_init (wsX4_init) := ggX10_init_X4_init
set_option maxRecDepth 20000 in
theorem ggX10_init_X5_init : GoodIn wsX10_init wsX5_init := goodIn_r _ [61, 62, 2, 3, 63, 44, 45, 64, 65, 66, 67, 68, 52, 53, 54, 55, 56, 152, 126, 127, 128, 129, 130, 131, 132] (by decide +kernel) (by decide +kernel)
set_option maxRecDepth 20000 in
theorem gX10_init_X5_init_n18 : GoodIn wsX10_init (wsX5_init) := ggX10_init_X5_init
set_option maxRecDepth 20000 in
theorem ggX10_init_X0_init : GoodIn wsX10_init wsX0_init := goodIn_r _ [70, 71, 2, 3, 72, 44, 45, 73, 74, 75, 76, 52, 53, 54, 55, 56, 152, 133, 134, 135, 136] (by decide +kernel) (by decide +kernel)
set_option maxRecDepth 20000 in
theorem gX10_init_X0_init_n25 : GoodIn wsX10_init (wsX0_init) := ggX10_init_X0_init
set_option maxRecDepth 20000 in
theorem ggX10_init_X9_init : GoodIn wsX10_init wsX9_init := goodIn_r _ [78, 79, 2, 3, 80, 44, 45, 81, 82, 52, 53, 54, 55, 56, 152, 137] (by decide +kernel) (by decide +kernel)
set_option maxRecDepth 20000 in
theorem gX10_init_X9_init_n35 : GoodIn wsX10_init (wsX9_init) := ggX10_init_X9_init
set_option maxRecDepth 20000 in
theorem ggX10_init_X1_init : GoodIn wsX10_init wsX1_init := goodIn_r _ [84, 85, 2, 3, 86, 44, 45, 87, 88, 52, 53, 54, 55, 56, 152, 138, 139] (by decide +kernel) (by decide +kernel)
set_option maxRecDepth 20000 in
theorem gX10_init_X1_init_n42 : GoodIn wsX10_init (wsX1_init) := ggX10_init_X1_init
set_option maxRecDepth 20000 in
theorem ggX10_init_X3_init : GoodIn wsX10_init wsX3_init := goodIn_r _ [90, 91, 2, 3, 92, 44, 45, 93, 94, 95, 52, 53, 54, 55, 56, 152, 140, 141, 142, 143, 144, 145] (by decide +kernel) (by decide +kernel)
set_option maxRecDepth 20000 in
theorem gX10_init_X3_init_n49 : GoodIn wsX10_init (wsX3_init) := ggX10_init_X3_init
set_option maxRecDepth 20000 in
theorem ggX10_init_X2_init : GoodIn wsX10_init wsX2_init := goodIn_r _ [97, 98, 2, 3] (by decide +kernel) (by decide +kernel)
set_option maxRecDepth 20000 in
theorem gX10_init_X2_init_n62 : GoodIn wsX10_init (wsX2_init) := ggX10_init_X2_init
set_option maxRecDepth 20000 in
theorem ggX10_init_X7_init : GoodIn wsX10_init wsX7_init := goodIn_r _ [100, 101, 2, 3, 102, 44, 45, 103, 104, 105, 18, 19, 106, 107, 52, 53, 54, 55, 56, 77, 78, 79, 80, 81, 82, 152, 147, 148, 149, 150, 151, 137] (by decide +kernel) (by decide +kernel)
set_option maxRecDepth 20000 in
theorem gX10_init_X7_init_n69 : GoodIn wsX10_init (wsX7_init) := ggX10_init_X7_init
theorem dX10_init_0 : decode cX10_init 0 = .ok (.aload_n 0, 1) := by decide +kernel
theorem dX10_init_1 : decode cX10_init 1 = .ok (.invokespecial 1, 3) := by decide +kernel
theorem dX10_init_4 : decode cX10_init 4 = .ok (.aload_n 0, 1) := by decide +kernel
theorem dX10_init_5 : decode cX10_init 5 = .ok (.new 7, 3) := by decide +kernel
theorem dX10_init_8 : decode cX10_init 8 = .ok (.dup, 1) := by decide +kernel
theorem dX10_init_9 : decode cX10_init 9 = .ok (.invokespecial 9, 3) := by decide +kernel
theorem dX10_init_12 : decode cX10_init 12 = .ok (.putfield 10, 3) := by decide +kernel
theorem dX10_init_15 : decode cX10_init 15 = .ok (.aload_n 0, 1) := by decide +kernel
theorem dX10_init_16 : decode cX10_init 16 = .ok (.new 16, 3) := by decide +kernel
theorem dX10_init_19 : decode cX10_init 19 = .ok (.dup, 1) := by decide +kernel
theorem dX10_init_20 : decode cX10_init 20 = .ok (.invokespecial 18, 3) := by decide +kernel
theorem dX10_init_23 : decode cX10_init 23 = .ok (.putfield 19, 3) := by decide +kernel
theorem dX10_init_26 : decode cX10_init 26 = .ok (.aload_n 0, 1) := by decide +kernel
theorem dX10_init_27 : decode cX10_init 27 = .ok (.new 23, 3) := by decide +kernel
theorem dX10_init_30 : decode cX10_init 30 = .ok (.dup, 1) := by decide +kernel
theorem dX10_init_31 : decode cX10_init 31 = .ok (.invokespecial 25, 3) := by decide +kernel
theorem dX10_init_34 : decode cX10_init 34 = .ok (.putfield 26, 3) := by decide +kernel
theorem dX10_init_37 : decode cX10_init 37 = .ok (.aload_n 0, 1) := by decide +kernel
theorem dX10_init_38 : decode cX10_init 38 = .ok (.new 23, 3) := by decide +kernel
theorem dX10_init_41 : decode cX10_init 41 = .ok (.dup, 1) := by decide +kernel
theorem dX10_init_42 : decode cX10_init 42 = .ok (.invokespecial 25, 3) := by decide +kernel
theorem dX10_init_45 : decode cX10_init 45 = .ok (.putfield 30, 3) := by decide +kernel
theorem dX10_init_48 : decode cX10_init 48 = .ok (.aload_n 0, 1) := by decide +kernel
theorem dX10_init_49 : decode cX10_init 49 = .ok (.new 33, 3) := by decide +kernel
theorem dX10_init_52 : decode cX10_init 52 = .ok (.dup, 1) := by decide +kernel
theorem dX10_init_53 : decode cX10_init 53 = .ok (.invokespecial 35, 3) := by decide +kernel
theorem dX10_init_56 : decode cX10_init 56 = .ok (.putfield 36, 3) := by decide +kernel
theorem dX10_init_59 : decode cX10_init 59 = .ok (.aload_n 0, 1) := by decide +kernel
theorem dX10_init_60 : decode cX10_init 60 = .ok (.new 40, 3) := by decide +kernel
theorem dX10_init_63 : decode cX10_init 63 = .ok (.dup, 1) := by decide +kernel
theorem dX10_init_64 : decode cX10_init 64 = .ok (.invokespecial 42, 3) := by decide +kernel
theorem dX10_init_67 : decode cX10_init 67 = .ok (.putfield 43, 3) := by decide +kernel
theorem dX10_init_70 : decode cX10_init 70 = .ok (.aload_n 0, 1) := by decide +kernel
theorem dX10_init_71 : decode cX10_init 71 = .ok (.new 47, 3) := by decide +kernel
theorem dX10_init_74 : decode cX10_init 74 = .ok (.dup, 1) := by decide +kernel
theorem dX10_init_75 : decode cX10_init 75 = .ok (.invokespecial 49, 3) := by decide +kernel
theorem dX10_init_78 : decode cX10_init 78 = .ok (.putfield 50, 3) := by decide +kernel
theorem dX10_init_81 : decode cX10_init 81 = .ok (.aload_n 0, 1) := by decide +kernel
theorem dX10_init_82 : decode cX10_init 82 = .ok (.new 47, 3) := by decide +kernel
theorem dX10_init_85 : decode cX10_init 85 = .ok (.dup, 1) := by decide +kernel
theorem dX10_init_86 : decode cX10_init 86 = .ok (.invokespecial 49, 3) := by decide +kernel
theorem dX10_init_89 : decode cX10_init 89 = .ok (.putfield 54, 3) := by decide +kernel
theorem dX10_init_92 : decode cX10_init 92 = .ok (.aload_n 0, 1) := by decide +kernel
theorem dX10_init_93 : decode cX10_init 93 = .ok (.new 47, 3) := by decide +kernel
theorem dX10_init_96 : decode cX10_init 96 = .ok (.dup, 1) := by decide +kernel
theorem dX10_init_97 : decode cX10_init 97 = .ok (.invokespecial 49, 3) := by decide +kernel
theorem dX10_init_100 : decode cX10_init 100 = .ok (.putfield 57, 3) := by decide +kernel
theorem dX10_init_103 : decode cX10_init 103 = .ok (.aload_n 0, 1) := by decide +kernel
theorem dX10_init_104 : decode cX10_init 104 = .ok (.new 60, 3) := by decide +kernel
theorem dX10_init_107 : decode cX10_init 107 = .ok (.dup, 1) := by decide +kernel
theorem dX10_init_108 : decode cX10_init 108 = .ok (.invokespecial 62, 3) := by decide +kernel
theorem dX10_init_111 : decode cX10_init 111 = .ok (.putfield 63, 3) := by decide +kernel
theorem dX10_init_114 : decode cX10_init 114 = .ok (.aload_n 0, 1) := by decide +kernel
theorem dX10_init_115 : decode cX10_init 115 = .ok (.new 67, 3) := by decide +kernel
theorem dX10_init_118 : decode cX10_init 118 = .ok (.dup, 1) := by decide +kernel
theorem dX10_init_119 : decode cX10_init 119 = .ok (.invokespecial 69, 3) := by decide +kernel
theorem dX10_init_122 : decode cX10_init 122 = .ok (.putfield 70, 3) := by decide +kernel
theorem dX10_init_125 : decode cX10_init 125 = .ok (.aload_n 0, 1) := by decide +kernel
theorem dX10_init_126 : decode cX10_init 126 = .ok (.iconst (-1), 1) := by decide +kernel
theorem dX10_init_127 : decode cX10_init 127 = .ok (.putfield 74, 3) := by decide +kernel
theorem dX10_init_130 : decode cX10_init 130 = .ok (.return_, 1) := by decide +kernel
set_option maxRecDepth 20000 in
theorem ggX10_letters_X4_lettersIn : GoodIn wsX10_letters wsX4_lettersIn := goodIn_r _ [6, 7, 8, 5, 9, 10] (by decide +kernel) (by decide +kernel)
set_option maxRecDepth 20000 in
theorem gX10_letters_X4_lettersIn : GoodIn wsX10_letters (va_wsS RX10 78 yX4_lettersIn wsX4_lettersIn) := goodIn_app (goodIn_of _ (by decide +kernel)) ggX10_letters_X4_lettersIn
set_option maxRecDepth 20000 in
theorem ggX10_letters_X4_append : GoodIn wsX10_letters wsX4_append := goodIn_r _ [14, 15, 16, 7, 8, 5, 9, 10, 17, 18, 19, 20, 21, 22, 38, 39, 40, 41] (by decide +kernel) (by decide +kernel)
set_option maxRecDepth 20000 in
theorem gX10_letters_X4_append : GoodIn wsX10_letters (wsV RX10 85 RX4 yX4_append wsX4_append) := goodIn_app (goodIn_of _ (by decide +kernel)) ggX10_letters_X4_append
theorem dX10_letters_0 : decode cX10_letters 0 = .ok (.lload_n 1, 1) := by decide +kernel
theorem dX10_letters_1 : decode cX10_letters 1 = .ok (.invokestatic 78, 3) := by decide +kernel
theorem dX10_letters_4 : decode cX10_letters 4 = .ok (.istore_n 3, 1) := by decide +kernel
theorem dX10_letters_5 : decode cX10_letters 5 = .ok (.iload_n 3, 1) := by decide +kernel
theorem dX10_letters_6 : decode cX10_letters 6 = .ok (.iconst (-1), 1) := by decide +kernel
theorem dX10_letters_7 : decode cX10_letters 7 = .ok (.if_icmp .ne 6, 3) := by decide +kernel
theorem dX10_letters_10 : decode cX10_letters 10 = .ok (.bipush (-102), 2) := by decide +kernel
theorem dX10_letters_12 : decode cX10_letters 12 = .ok (.ireturn, 1) := by decide +kernel
theorem dX10_letters_13 : decode cX10_letters 13 = .ok (.aload_n 0, 1) := by decide +kernel
theorem dX10_letters_14 : decode cX10_letters 14 = .ok (.getfield 10, 3) := by decide +kernel
theorem dX10_letters_17 : decode cX10_letters 17 = .ok (.getfield 82, 3) := by decide +kernel
theorem dX10_letters_20 : decode cX10_letters 20 = .ok (.iload_n 3, 1) := by decide +kernel
theorem dX10_letters_21 : decode cX10_letters 21 = .ok (.iadd, 1) := by decide +kernel
theorem dX10_letters_22 : decode cX10_letters 22 = .ok (.bipush 66, 2) := by decide +kernel
theorem dX10_letters_24 : decode cX10_letters 24 = .ok (.if_icmp .le 6, 3) := by decide +kernel
theorem dX10_letters_27 : decode cX10_letters 27 = .ok (.bipush (-104), 2) := by decide +kernel
theorem dX10_letters_29 : decode cX10_letters 29 = .ok (.ireturn, 1) := by decide +kernel
theorem dX10_letters_30 : decode cX10_letters 30 = .ok (.aload_n 0, 1) := by decide +kernel
theorem dX10_letters_31 : decode cX10_letters 31 = .ok (.getfield 10, 3) := by decide +kernel
theorem dX10_letters_34 : decode cX10_letters 34 = .ok (.lload_n 1, 1) := by decide +kernel
theorem dX10_letters_35 : decode cX10_letters 35 = .ok (.iload_n 3, 1) := by decide +kernel
theorem dX10_letters_36 : decode cX10_letters 36 = .ok (.invokevirtual 85, 3) := by decide +kernel
theorem dX10_letters_39 : decode cX10_letters 39 = .ok (.aload_n 0, 1) := by decide +kernel
theorem dX10_letters_40 : decode cX10_letters 40 = .ok (.getfield 10, 3) := by decide +kernel
theorem dX10_letters_43 : decode cX10_letters 43 = .ok (.getfield 82, 3) := by decide +kernel
theorem dX10_letters_46 : decode cX10_letters 46 = .ok (.ireturn, 1) := by decide +kernel
set_option maxRecDepth 20000 in
theorem ggX10_fault_X4_firstFault : GoodIn wsX10_fault wsX4_firstFault := goodIn_r _ [6, 7, 8, 9, 10, 11, 12, 13, 14, 15, 16, 17, 18, 19, 20, 21, 22, 23, 24, 25, 26, 27, 28, 29, 30, 31, 32, 33, 34, 35, 36, 37, 38, 39, 40, 41, 57, 58, 59, 60, 61, 62, 63, 64] (by decide +kernel) (by decide +kernel)
set_option maxRecDepth 20000 in
theorem gX10_fault_X4_firstFault : GoodIn wsX10_fault (wsV RX10 89 RX4 yX4_firstFault wsX4_firstFault) := goodIn_app (goodIn_of _ (by decide +kernel)) ggX10_fault_X4_firstFault
theorem dX10_fault_0 : decode cX10_fault 0 = .ok (.aload_n 0, 1) := by decide +kernel
theorem dX10_fault_1 : decode cX10_fault 1 = .ok (.getfield 10, 3) := by decide +kernel
theorem dX10_fault_4 : decode cX10_fault 4 = .ok (.invokevirtual 89, 3) := by decide +kernel
theorem dX10_fault_7 : decode cX10_fault 7 = .ok (.ireturn, 1) := by decide +kernel
set_option maxRecDepth 20000 in
theorem ggX10_mine_X4_isMine : GoodIn wsX10_mine wsX4_isMine := goodIn_r _ [13, 14, 15, 16, 17, 18, 12, 19, 20, 21, 22, 23, 24, 25, 26, 27, 28, 29, 30, 31, 32, 33, 34, 35, 36, 37, 38, 39, 40, 41, 42, 43, 44, 45, 46, 47, 48, 49, 50, 51, 52, 53, 54, 55, 56, 57, 58, 59, 60, 61, 62, 63, 203, 204, 205, 215, 216, 217, 218, 219] (by decide +kernel) (by decide +kernel)
set_option maxRecDepth 20000 in
theorem gX10_mine_X4_isMine : GoodIn wsX10_mine (wsV RX10 93 RX4 yX4_isMine wsX4_isMine) := goodIn_app (goodIn_of _ (by decide +kernel)) ggX10_mine_X4_isMine
set_option maxRecDepth 20000 in
theorem ggX10_mine_X5_readFrom : GoodIn wsX10_mine wsX5_readFrom := goodIn_r _ [68, 69, 70, 71, 72, 73, 74, 75, 30, 31, 32, 33, 34, 76, 77, 78, 12, 79, 20, 29, 80, 81, 82, 83, 84, 85, 86, 67, 87, 88, 89, 90, 91, 92, 93, 94, 208, 209, 210, 211, 212, 213, 214, 203, 204, 205, 219] (by decide +kernel) (by decide +kernel)
set_option maxRecDepth 20000 in
theorem gX10_mine_X5_readFrom : GoodIn wsX10_mine (wsV RX10 97 RX5 yX5_readFrom wsX5_readFrom) := goodIn_app (goodIn_of _ (by decide +kernel)) ggX10_mine_X5_readFrom
set_option maxRecDepth 20000 in
theorem ggX10_mine_X5_allGalleries : GoodIn wsX10_mine wsX5_allGalleries := goodIn_r _ [98, 69, 208, 209, 210, 211, 212, 213, 214] (by decide +kernel) (by decide +kernel)
set_option maxRecDepth 20000 in
theorem gX10_mine_X5_allGalleries : GoodIn wsX10_mine (wsV RX10 104 RX5 yX5_allGalleries wsX5_allGalleries) := goodIn_app (goodIn_of _ (by decide +kernel)) ggX10_mine_X5_allGalleries
set_option maxRecDepth 20000 in
theorem ggX10_mine_X3_begin : GoodIn wsX10_mine wsX3_begin := goodIn_r _ [103, 104, 105, 106, 107, 108, 109, 92, 93, 32, 94, 34, 220, 221, 222, 223, 224, 225, 219] (by decide +kernel) (by decide +kernel)
set_option maxRecDepth 20000 in
theorem gX10_mine_X3_begin : GoodIn wsX10_mine (wsV RX10 107 RX3 yX3_begin wsX3_begin) := goodIn_app (goodIn_of _ (by decide +kernel)) ggX10_mine_X3_begin
set_option maxRecDepth 20000 in
theorem ggX10_mine_X10_windChanges : GoodIn wsX10_mine wsX10_windChanges := goodIn_r _ [113, 114, 2, 6, 115, 116, 117, 118, 119, 120, 121, 122, 123, 124, 125, 126, 127, 128, 129, 130, 131, 132, 133, 81, 82, 32, 83, 34, 51, 41, 52, 134, 30, 31, 33, 135, 136, 137, 138, 139, 140, 141, 142, 58, 59, 60, 61, 62, 63, 143, 144, 145, 67, 146, 88, 75, 147, 148, 149, 150, 151, 152, 153, 154, 155, 156, 157, 158, 159, 160, 161, 162, 163, 164, 165, 166, 167, 168, 92, 93, 94, 169, 170, 171, 172, 173, 72, 73, 174, 175, 176, 177, 178, 179, 180, 181, 182, 183, 184, 185, 186, 187, 188, 189, 190, 191, 192, 193, 194, 195, 196, 197, 198, 199, 200, 201, 202, 220, 221, 222, 223, 224, 225, 226, 227, 228, 229, 208, 209, 210, 211, 212, 213, 214, 219, 230] (by decide +kernel) (by decide +kernel)
set_option maxRecDepth 20000 in
theorem gX10_mine_X10_windChanges : GoodIn wsX10_mine (wsV RX10 114 RX10 yX10_windChanges wsX10_windChanges) := goodIn_app (goodIn_of _ (by decide +kernel)) ggX10_mine_X10_windChanges
theorem dX10_mine_0 : decode cX10_mine 0 = .ok (.aload_n 0, 1) := by decide +kernel
theorem dX10_mine_1 : decode cX10_mine 1 = .ok (.getfield 10, 3) := by decide +kernel
theorem dX10_mine_4 : decode cX10_mine 4 = .ok (.invokevirtual 93, 3) := by decide +kernel
theorem dX10_mine_7 : decode cX10_mine 7 = .ok (.ifCond .ne 6, 3) := by decide +kernel
theorem dX10_mine_10 : decode cX10_mine 10 = .ok (.bipush (-103), 2) := by decide +kernel
theorem dX10_mine_12 : decode cX10_mine 12 = .ok (.ireturn, 1) := by decide +kernel
theorem dX10_mine_13 : decode cX10_mine 13 = .ok (.aload_n 0, 1) := by decide +kernel
theorem dX10_mine_14 : decode cX10_mine 14 = .ok (.getfield 19, 3) := by decide +kernel
theorem dX10_mine_17 : decode cX10_mine 17 = .ok (.aload_n 0, 1) := by decide +kernel
theorem dX10_mine_18 : decode cX10_mine 18 = .ok (.getfield 10, 3) := by decide +kernel
theorem dX10_mine_21 : decode cX10_mine 21 = .ok (.invokevirtual 97, 3) := by decide +kernel
theorem dX10_mine_24 : decode cX10_mine 24 = .ok (.aload_n 0, 1) := by decide +kernel
theorem dX10_mine_25 : decode cX10_mine 25 = .ok (.getfield 10, 3) := by decide +kernel
theorem dX10_mine_28 : decode cX10_mine 28 = .ok (.iconst 0, 1) := by decide +kernel
theorem dX10_mine_29 : decode cX10_mine 29 = .ok (.putfield 82, 3) := by decide +kernel
theorem dX10_mine_32 : decode cX10_mine 32 = .ok (.aload_n 0, 1) := by decide +kernel
theorem dX10_mine_33 : decode cX10_mine 33 = .ok (.getfield 43, 3) := by decide +kernel
theorem dX10_mine_36 : decode cX10_mine 36 = .ok (.iconst 0, 1) := by decide +kernel
theorem dX10_mine_37 : decode cX10_mine 37 = .ok (.putfield 101, 3) := by decide +kernel
theorem dX10_mine_40 : decode cX10_mine 40 = .ok (.aload_n 0, 1) := by decide +kernel
theorem dX10_mine_41 : decode cX10_mine 41 = .ok (.getfield 50, 3) := by decide +kernel
theorem dX10_mine_44 : decode cX10_mine 44 = .ok (.aload_n 0, 1) := by decide +kernel
theorem dX10_mine_45 : decode cX10_mine 45 = .ok (.getfield 19, 3) := by decide +kernel
theorem dX10_mine_48 : decode cX10_mine 48 = .ok (.invokevirtual 104, 3) := by decide +kernel
theorem dX10_mine_51 : decode cX10_mine 51 = .ok (.invokevirtual 107, 3) := by decide +kernel
theorem dX10_mine_54 : decode cX10_mine 54 = .ok (.aload_n 0, 1) := by decide +kernel
theorem dX10_mine_55 : decode cX10_mine 55 = .ok (.dup, 1) := by decide +kernel
theorem dX10_mine_56 : decode cX10_mine 56 = .ok (.getfield 111, 3) := by decide +kernel
theorem dX10_mine_59 : decode cX10_mine 59 = .ok (.iconst 1, 1) := by decide +kernel
theorem dX10_mine_60 : decode cX10_mine 60 = .ok (.iadd, 1) := by decide +kernel
theorem dX10_mine_61 : decode cX10_mine 61 = .ok (.putfield 111, 3) := by decide +kernel
theorem dX10_mine_64 : decode cX10_mine 64 = .ok (.aload_n 0, 1) := by decide +kernel
theorem dX10_mine_65 : decode cX10_mine 65 = .ok (.invokevirtual 114, 3) := by decide +kernel
theorem dX10_mine_68 : decode cX10_mine 68 = .ok (.aload_n 0, 1) := by decide +kernel
theorem dX10_mine_69 : decode cX10_mine 69 = .ok (.getfield 19, 3) := by decide +kernel
theorem dX10_mine_72 : decode cX10_mine 72 = .ok (.getfield 117, 3) := by decide +kernel
theorem dX10_mine_75 : decode cX10_mine 75 = .ok (.ireturn, 1) := by decide +kernel
set_option maxRecDepth 20000 in
theorem ggX10_gallery_X5_hasGallery : GoodIn wsX10_gallery wsX5_hasGallery := goodIn_r _ [14, 15, 41, 42, 43, 44, 45, 46, 47] (by decide +kernel) (by decide +kernel)
set_option maxRecDepth 20000 in
theorem gX10_gallery_X5_hasGallery : GoodIn wsX10_gallery (wsV RX10 120 RX5 yX5_hasGallery wsX5_hasGallery) := goodIn_app (goodIn_of _ (by decide +kernel)) ggX10_gallery_X5_hasGallery
set_option maxRecDepth 20000 in
theorem ggX10_gallery_X8_get : GoodIn wsX10_gallery wsX8_get := goodIn_r _ [20, 21, 58] (by decide +kernel) (by decide +kernel)
set_option maxRecDepth 20000 in
theorem gX10_gallery_X8_get : GoodIn wsX10_gallery (wsV RX10 128 RX8 yX8_get wsX8_get) := goodIn_app (goodIn_of _ (by decide +kernel)) ggX10_gallery_X8_get
set_option maxRecDepth 20000 in
theorem ggX10_gallery_X10_bit : GoodIn wsX10_gallery wsX10_bit := goodIn_r _ [25] (by decide +kernel) (by decide +kernel)
set_option maxRecDepth 20000 in
theorem gX10_gallery_X10_bit : GoodIn wsX10_gallery (va_wsS RX10 142 yX10_bit wsX10_bit) := goodIn_app (goodIn_of _ (by decide +kernel)) ggX10_gallery_X10_bit
theorem dX10_gallery_0 : decode cX10_gallery 0 = .ok (.aload_n 0, 1) := by decide +kernel
theorem dX10_gallery_1 : decode cX10_gallery 1 = .ok (.getfield 19, 3) := by decide +kernel
theorem dX10_gallery_4 : decode cX10_gallery 4 = .ok (.iload_n 1, 1) := by decide +kernel
theorem dX10_gallery_5 : decode cX10_gallery 5 = .ok (.invokevirtual 120, 3) := by decide +kernel
theorem dX10_gallery_8 : decode cX10_gallery 8 = .ok (.ifCond .ne 6, 3) := by decide +kernel
theorem dX10_gallery_11 : decode cX10_gallery 11 = .ok (.bipush (-101), 2) := by decide +kernel
theorem dX10_gallery_13 : decode cX10_gallery 13 = .ok (.ireturn, 1) := by decide +kernel
theorem dX10_gallery_14 : decode cX10_gallery 14 = .ok (.iload_n 2, 1) := by decide +kernel
theorem dX10_gallery_15 : decode cX10_gallery 15 = .ok (.tableswitch 109 0 5 #[37, 49, 61, 73, 85, 97], 37) := by decide +kernel
theorem dX10_gallery_52 : decode cX10_gallery 52 = .ok (.aload_n 0, 1) := by decide +kernel
theorem dX10_gallery_53 : decode cX10_gallery 53 = .ok (.getfield 19, 3) := by decide +kernel
theorem dX10_gallery_56 : decode cX10_gallery 56 = .ok (.getfield 124, 3) := by decide +kernel
theorem dX10_gallery_59 : decode cX10_gallery 59 = .ok (.iload_n 1, 1) := by decide +kernel
theorem dX10_gallery_60 : decode cX10_gallery 60 = .ok (.invokevirtual 128, 3) := by decide +kernel
theorem dX10_gallery_63 : decode cX10_gallery 63 = .ok (.ireturn, 1) := by decide +kernel
theorem dX10_gallery_64 : decode cX10_gallery 64 = .ok (.aload_n 0, 1) := by decide +kernel
theorem dX10_gallery_65 : decode cX10_gallery 65 = .ok (.getfield 19, 3) := by decide +kernel
theorem dX10_gallery_68 : decode cX10_gallery 68 = .ok (.getfield 134, 3) := by decide +kernel
theorem dX10_gallery_71 : decode cX10_gallery 71 = .ok (.iload_n 1, 1) := by decide +kernel
theorem dX10_gallery_72 : decode cX10_gallery 72 = .ok (.invokevirtual 128, 3) := by decide +kernel
theorem dX10_gallery_75 : decode cX10_gallery 75 = .ok (.ireturn, 1) := by decide +kernel
theorem dX10_gallery_76 : decode cX10_gallery 76 = .ok (.aload_n 0, 1) := by decide +kernel
theorem dX10_gallery_77 : decode cX10_gallery 77 = .ok (.getfield 19, 3) := by decide +kernel
theorem dX10_gallery_80 : decode cX10_gallery 80 = .ok (.getfield 137, 3) := by decide +kernel
theorem dX10_gallery_83 : decode cX10_gallery 83 = .ok (.iload_n 1, 1) := by decide +kernel
theorem dX10_gallery_84 : decode cX10_gallery 84 = .ok (.invokevirtual 128, 3) := by decide +kernel
theorem dX10_gallery_87 : decode cX10_gallery 87 = .ok (.ireturn, 1) := by decide +kernel
theorem dX10_gallery_88 : decode cX10_gallery 88 = .ok (.aload_n 0, 1) := by decide +kernel
theorem dX10_gallery_89 : decode cX10_gallery 89 = .ok (.getfield 19, 3) := by decide +kernel
theorem dX10_gallery_92 : decode cX10_gallery 92 = .ok (.getfield 139, 3) := by decide +kernel
theorem dX10_gallery_95 : decode cX10_gallery 95 = .ok (.iload_n 1, 1) := by decide +kernel
theorem dX10_gallery_96 : decode cX10_gallery 96 = .ok (.invokestatic 142, 3) := by decide +kernel
theorem dX10_gallery_99 : decode cX10_gallery 99 = .ok (.ireturn, 1) := by decide +kernel
theorem dX10_gallery_100 : decode cX10_gallery 100 = .ok (.aload_n 0, 1) := by decide +kernel
theorem dX10_gallery_101 : decode cX10_gallery 101 = .ok (.getfield 50, 3) := by decide +kernel
theorem dX10_gallery_104 : decode cX10_gallery 104 = .ok (.getfield 146, 3) := by decide +kernel
theorem dX10_gallery_107 : decode cX10_gallery 107 = .ok (.iload_n 1, 1) := by decide +kernel
theorem dX10_gallery_108 : decode cX10_gallery 108 = .ok (.invokestatic 142, 3) := by decide +kernel
theorem dX10_gallery_111 : decode cX10_gallery 111 = .ok (.ireturn, 1) := by decide +kernel
theorem dX10_gallery_112 : decode cX10_gallery 112 = .ok (.aload_n 0, 1) := by decide +kernel
theorem dX10_gallery_113 : decode cX10_gallery 113 = .ok (.getfield 26, 3) := by decide +kernel
theorem dX10_gallery_116 : decode cX10_gallery 116 = .ok (.getfield 149, 3) := by decide +kernel
theorem dX10_gallery_119 : decode cX10_gallery 119 = .ok (.iload_n 1, 1) := by decide +kernel
theorem dX10_gallery_120 : decode cX10_gallery 120 = .ok (.invokevirtual 128, 3) := by decide +kernel
theorem dX10_gallery_123 : decode cX10_gallery 123 = .ok (.ireturn, 1) := by decide +kernel
theorem dX10_gallery_124 : decode cX10_gallery 124 = .ok (.bipush (-102), 2) := by decide +kernel
theorem dX10_gallery_126 : decode cX10_gallery 126 = .ok (.ireturn, 1) := by decide +kernel
set_option maxRecDepth 20000 in
theorem ggX10_knot_X5_isRead : GoodIn wsX10_knot wsX5_isRead := goodIn_r _ [12, 13, 42, 43, 44, 45, 46, 47, 48] (by decide +kernel) (by decide +kernel)
set_option maxRecDepth 20000 in
theorem gX10_knot_X5_isRead : GoodIn wsX10_knot (wsV RX10 152 RX5 yX5_isRead wsX5_isRead) := goodIn_app (goodIn_of _ (by decide +kernel)) ggX10_knot_X5_isRead
set_option maxRecDepth 20000 in
theorem ggX10_knot_X10_isKnot : GoodIn wsX10_knot wsX10_isKnot := goodIn_r _ [17] (by decide +kernel) (by decide +kernel)
set_option maxRecDepth 20000 in
theorem gX10_knot_X10_isKnot : GoodIn wsX10_knot (va_wsS RX10 155 yX10_isKnot wsX10_isKnot) := goodIn_app (goodIn_of _ (by decide +kernel)) ggX10_knot_X10_isKnot
set_option maxRecDepth 20000 in
theorem ggX10_knot_X8_get : GoodIn wsX10_knot wsX8_get := goodIn_r _ [22, 23, 59] (by decide +kernel) (by decide +kernel)
set_option maxRecDepth 20000 in
theorem gX10_knot_X8_get : GoodIn wsX10_knot (wsV RX10 128 RX8 yX8_get wsX8_get) := goodIn_app (goodIn_of _ (by decide +kernel)) ggX10_knot_X8_get
set_option maxRecDepth 20000 in
theorem ggX10_knot_X10_bit : GoodIn wsX10_knot wsX10_bit := goodIn_r _ [26] (by decide +kernel) (by decide +kernel)
set_option maxRecDepth 20000 in
theorem gX10_knot_X10_bit : GoodIn wsX10_knot (va_wsS RX10 142 yX10_bit wsX10_bit) := goodIn_app (goodIn_of _ (by decide +kernel)) ggX10_knot_X10_bit
theorem dX10_knot_0 : decode cX10_knot 0 = .ok (.aload_n 0, 1) := by decide +kernel
theorem dX10_knot_1 : decode cX10_knot 1 = .ok (.getfield 19, 3) := by decide +kernel
theorem dX10_knot_4 : decode cX10_knot 4 = .ok (.invokevirtual 152, 3) := by decide +kernel
theorem dX10_knot_7 : decode cX10_knot 7 = .ok (.ifCond .eq 10, 3) := by decide +kernel
theorem dX10_knot_10 : decode cX10_knot 10 = .ok (.iload_n 1, 1) := by decide +kernel
theorem dX10_knot_11 : decode cX10_knot 11 = .ok (.invokestatic 155, 3) := by decide +kernel
theorem dX10_knot_14 : decode cX10_knot 14 = .ok (.ifCond .ne 6, 3) := by decide +kernel
theorem dX10_knot_17 : decode cX10_knot 17 = .ok (.bipush (-101), 2) := by decide +kernel
theorem dX10_knot_19 : decode cX10_knot 19 = .ok (.ireturn, 1) := by decide +kernel
theorem dX10_knot_20 : decode cX10_knot 20 = .ok (.iload_n 2, 1) := by decide +kernel
theorem dX10_knot_21 : decode cX10_knot 21 = .ok (.tableswitch 79 0 3 #[31, 43, 55, 67], 31) := by decide +kernel
theorem dX10_knot_52 : decode cX10_knot 52 = .ok (.aload_n 0, 1) := by decide +kernel
theorem dX10_knot_53 : decode cX10_knot 53 = .ok (.getfield 19, 3) := by decide +kernel
theorem dX10_knot_56 : decode cX10_knot 56 = .ok (.getfield 158, 3) := by decide +kernel
theorem dX10_knot_59 : decode cX10_knot 59 = .ok (.iload_n 1, 1) := by decide +kernel
theorem dX10_knot_60 : decode cX10_knot 60 = .ok (.invokevirtual 128, 3) := by decide +kernel
theorem dX10_knot_63 : decode cX10_knot 63 = .ok (.ireturn, 1) := by decide +kernel
theorem dX10_knot_64 : decode cX10_knot 64 = .ok (.aload_n 0, 1) := by decide +kernel
theorem dX10_knot_65 : decode cX10_knot 65 = .ok (.getfield 26, 3) := by decide +kernel
theorem dX10_knot_68 : decode cX10_knot 68 = .ok (.getfield 161, 3) := by decide +kernel
theorem dX10_knot_71 : decode cX10_knot 71 = .ok (.iload_n 1, 1) := by decide +kernel
theorem dX10_knot_72 : decode cX10_knot 72 = .ok (.invokevirtual 128, 3) := by decide +kernel
theorem dX10_knot_75 : decode cX10_knot 75 = .ok (.ireturn, 1) := by decide +kernel
theorem dX10_knot_76 : decode cX10_knot 76 = .ok (.aload_n 0, 1) := by decide +kernel
theorem dX10_knot_77 : decode cX10_knot 77 = .ok (.getfield 26, 3) := by decide +kernel
theorem dX10_knot_80 : decode cX10_knot 80 = .ok (.getfield 164, 3) := by decide +kernel
theorem dX10_knot_83 : decode cX10_knot 83 = .ok (.iload_n 1, 1) := by decide +kernel
theorem dX10_knot_84 : decode cX10_knot 84 = .ok (.invokestatic 142, 3) := by decide +kernel
theorem dX10_knot_87 : decode cX10_knot 87 = .ok (.ireturn, 1) := by decide +kernel
theorem dX10_knot_88 : decode cX10_knot 88 = .ok (.aload_n 0, 1) := by decide +kernel
theorem dX10_knot_89 : decode cX10_knot 89 = .ok (.getfield 50, 3) := by decide +kernel
theorem dX10_knot_92 : decode cX10_knot 92 = .ok (.getfield 167, 3) := by decide +kernel
theorem dX10_knot_95 : decode cX10_knot 95 = .ok (.iload_n 1, 1) := by decide +kernel
theorem dX10_knot_96 : decode cX10_knot 96 = .ok (.invokevirtual 128, 3) := by decide +kernel
theorem dX10_knot_99 : decode cX10_knot 99 = .ok (.ireturn, 1) := by decide +kernel
theorem dX10_knot_100 : decode cX10_knot 100 = .ok (.bipush (-102), 2) := by decide +kernel
theorem dX10_knot_102 : decode cX10_knot 102 = .ok (.ireturn, 1) := by decide +kernel
set_option maxRecDepth 20000 in
theorem ggX10_door_X5_hasGallery : GoodIn wsX10_door wsX5_hasGallery := goodIn_r _ [9, 10, 128, 129, 130, 131, 132, 133, 134] (by decide +kernel) (by decide +kernel)
set_option maxRecDepth 20000 in
theorem gX10_door_X5_hasGallery : GoodIn wsX10_door (wsV RX10 120 RX5 yX5_hasGallery wsX5_hasGallery) := goodIn_app (goodIn_of _ (by decide +kernel)) ggX10_door_X5_hasGallery
set_option maxRecDepth 20000 in
theorem ggX10_door_X10_bit : GoodIn wsX10_door wsX10_bit := goodIn_r _ [14] (by decide +kernel) (by decide +kernel)
set_option maxRecDepth 20000 in
theorem gX10_door_X10_bit : GoodIn wsX10_door (va_wsS RX10 142 yX10_bit wsX10_bit) := goodIn_app (goodIn_of _ (by decide +kernel)) ggX10_door_X10_bit
set_option maxRecDepth 20000 in
theorem ggX10_door_X10_windChanges : GoodIn wsX10_door wsX10_windChanges := goodIn_r _ [18, 19, 1, 3, 4, 20, 21, 22, 23, 24, 25, 26, 27, 28, 29, 30, 31, 32, 33, 34, 35, 36, 37, 38, 39, 40, 41, 42, 12, 13, 14, 43, 44, 45, 46, 47, 48, 49, 50, 51, 52, 53, 54, 55, 56, 57, 58, 59, 60, 61, 62, 63, 8, 64, 65, 66, 67, 68, 69, 70, 71, 72, 73, 74, 75, 76, 77, 78, 79, 80, 81, 82, 83, 84, 85, 86, 87, 88, 89, 90, 91, 92, 93, 94, 95, 96, 97, 98, 99, 100, 101, 102, 103, 104, 105, 106, 107, 108, 109, 110, 111, 112, 113, 114, 115, 116, 117, 118, 119, 120, 121, 122, 123, 124, 125, 126, 127, 135, 136, 137, 138, 139, 140, 141, 142, 143, 144, 128, 129, 130, 131, 132, 133, 134, 145, 146] (by decide +kernel) (by decide +kernel)
set_option maxRecDepth 20000 in
theorem gX10_door_X10_windChanges : GoodIn wsX10_door (wsV RX10 114 RX10 yX10_windChanges wsX10_windChanges) := goodIn_app (goodIn_of _ (by decide +kernel)) ggX10_door_X10_windChanges
theorem dX10_door_0 : decode cX10_door 0 = .ok (.aload_n 0, 1) := by decide +kernel
theorem dX10_door_1 : decode cX10_door 1 = .ok (.getfield 19, 3) := by decide +kernel
theorem dX10_door_4 : decode cX10_door 4 = .ok (.iload_n 1, 1) := by decide +kernel
theorem dX10_door_5 : decode cX10_door 5 = .ok (.invokevirtual 120, 3) := by decide +kernel
theorem dX10_door_8 : decode cX10_door 8 = .ok (.ifCond .ne 6, 3) := by decide +kernel
theorem dX10_door_11 : decode cX10_door 11 = .ok (.bipush (-101), 2) := by decide +kernel
theorem dX10_door_13 : decode cX10_door 13 = .ok (.ireturn, 1) := by decide +kernel
theorem dX10_door_14 : decode cX10_door 14 = .ok (.aload_n 0, 1) := by decide +kernel
theorem dX10_door_15 : decode cX10_door 15 = .ok (.getfield 19, 3) := by decide +kernel
theorem dX10_door_18 : decode cX10_door 18 = .ok (.getfield 139, 3) := by decide +kernel
theorem dX10_door_21 : decode cX10_door 21 = .ok (.iload_n 1, 1) := by decide +kernel
theorem dX10_door_22 : decode cX10_door 22 = .ok (.invokestatic 142, 3) := by decide +kernel
theorem dX10_door_25 : decode cX10_door 25 = .ok (.ifCond .ne 6, 3) := by decide +kernel
theorem dX10_door_28 : decode cX10_door 28 = .ok (.bipush (-103), 2) := by decide +kernel
theorem dX10_door_30 : decode cX10_door 30 = .ok (.ireturn, 1) := by decide +kernel
theorem dX10_door_31 : decode cX10_door 31 = .ok (.aload_n 0, 1) := by decide +kernel
theorem dX10_door_32 : decode cX10_door 32 = .ok (.getfield 50, 3) := by decide +kernel
theorem dX10_door_35 : decode cX10_door 35 = .ok (.getfield 146, 3) := by decide +kernel
theorem dX10_door_38 : decode cX10_door 38 = .ok (.iload_n 1, 1) := by decide +kernel
theorem dX10_door_39 : decode cX10_door 39 = .ok (.invokestatic 142, 3) := by decide +kernel
theorem dX10_door_42 : decode cX10_door 42 = .ok (.istore_n 3, 1) := by decide +kernel
theorem dX10_door_43 : decode cX10_door 43 = .ok (.aload_n 0, 1) := by decide +kernel
theorem dX10_door_44 : decode cX10_door 44 = .ok (.getfield 50, 3) := by decide +kernel
theorem dX10_door_47 : decode cX10_door 47 = .ok (.iload_n 2, 1) := by decide +kernel
theorem dX10_door_48 : decode cX10_door 48 = .ok (.ifCond .eq 17, 3) := by decide +kernel
theorem dX10_door_51 : decode cX10_door 51 = .ok (.aload_n 0, 1) := by decide +kernel
theorem dX10_door_52 : decode cX10_door 52 = .ok (.getfield 50, 3) := by decide +kernel
theorem dX10_door_55 : decode cX10_door 55 = .ok (.getfield 146, 3) := by decide +kernel
theorem dX10_door_58 : decode cX10_door 58 = .ok (.iconst 1, 1) := by decide +kernel
theorem dX10_door_59 : decode cX10_door 59 = .ok (.iload_n 1, 1) := by decide +kernel
theorem dX10_door_60 : decode cX10_door 60 = .ok (.ishl, 1) := by decide +kernel
theorem dX10_door_61 : decode cX10_door 61 = .ok (.ior, 1) := by decide +kernel
theorem dX10_door_62 : decode cX10_door 62 = .ok (.goto 16, 3) := by decide +kernel
theorem dX10_door_65 : decode cX10_door 65 = .ok (.aload_n 0, 1) := by decide +kernel
theorem dX10_door_66 : decode cX10_door 66 = .ok (.getfield 50, 3) := by decide +kernel
theorem dX10_door_69 : decode cX10_door 69 = .ok (.getfield 146, 3) := by decide +kernel
theorem dX10_door_72 : decode cX10_door 72 = .ok (.iconst 1, 1) := by decide +kernel
theorem dX10_door_73 : decode cX10_door 73 = .ok (.iload_n 1, 1) := by decide +kernel
theorem dX10_door_74 : decode cX10_door 74 = .ok (.ishl, 1) := by decide +kernel
theorem dX10_door_75 : decode cX10_door 75 = .ok (.iconst (-1), 1) := by decide +kernel
theorem dX10_door_76 : decode cX10_door 76 = .ok (.ixor, 1) := by decide +kernel
theorem dX10_door_77 : decode cX10_door 77 = .ok (.iand, 1) := by decide +kernel
theorem dX10_door_78 : decode cX10_door 78 = .ok (.putfield 146, 3) := by decide +kernel
theorem dX10_door_81 : decode cX10_door 81 = .ok (.aload_n 0, 1) := by decide +kernel
theorem dX10_door_82 : decode cX10_door 82 = .ok (.invokevirtual 114, 3) := by decide +kernel
theorem dX10_door_85 : decode cX10_door 85 = .ok (.iload_n 3, 1) := by decide +kernel
theorem dX10_door_86 : decode cX10_door 86 = .ok (.ireturn, 1) := by decide +kernel
set_option maxRecDepth 20000 in
theorem ggX10_turn_X5_isRead : GoodIn wsX10_turn wsX5_isRead := goodIn_r _ [8, 9, 132, 133, 134, 135, 136, 137, 138] (by decide +kernel) (by decide +kernel)
set_option maxRecDepth 20000 in
theorem gX10_turn_X5_isRead : GoodIn wsX10_turn (wsV RX10 152 RX5 yX5_isRead wsX5_isRead) := goodIn_app (goodIn_of _ (by decide +kernel)) ggX10_turn_X5_isRead
set_option maxRecDepth 20000 in
theorem ggX10_turn_X10_windChanges : GoodIn wsX10_turn wsX10_windChanges := goodIn_r _ [14, 15, 1, 2, 16, 3, 17, 18, 19, 20, 21, 22, 23, 24, 25, 26, 27, 28, 29, 30, 31, 32, 33, 34, 35, 36, 37, 38, 39, 13, 40, 41, 42, 43, 44, 45, 46, 47, 48, 49, 50, 51, 52, 53, 54, 55, 56, 57, 58, 59, 60, 61, 7, 62, 63, 64, 65, 66, 67, 68, 69, 70, 71, 72, 73, 74, 75, 76, 77, 78, 79, 80, 81, 82, 83, 84, 85, 86, 87, 88, 89, 90, 91, 92, 93, 94, 95, 96, 97, 98, 99, 100, 101, 102, 103, 104, 105, 106, 107, 108, 109, 110, 111, 112, 113, 114, 115, 116, 117, 118, 119, 120, 121, 122, 123, 124, 125, 126, 127, 128, 129, 130, 131, 139, 140, 141, 142, 132, 133, 134, 135, 136, 137, 138, 143, 144] (by decide +kernel) (by decide +kernel)
set_option maxRecDepth 20000 in
theorem gX10_turn_X10_windChanges : GoodIn wsX10_turn (wsV RX10 114 RX10 yX10_windChanges wsX10_windChanges) := goodIn_app (goodIn_of _ (by decide +kernel)) ggX10_turn_X10_windChanges
theorem dX10_turn_0 : decode cX10_turn 0 = .ok (.aload_n 0, 1) := by decide +kernel
theorem dX10_turn_1 : decode cX10_turn 1 = .ok (.getfield 19, 3) := by decide +kernel
theorem dX10_turn_4 : decode cX10_turn 4 = .ok (.invokevirtual 152, 3) := by decide +kernel
theorem dX10_turn_7 : decode cX10_turn 7 = .ok (.ifCond .ne 6, 3) := by decide +kernel
theorem dX10_turn_10 : decode cX10_turn 10 = .ok (.bipush (-103), 2) := by decide +kernel
theorem dX10_turn_12 : decode cX10_turn 12 = .ok (.ireturn, 1) := by decide +kernel
theorem dX10_turn_13 : decode cX10_turn 13 = .ok (.aload_n 0, 1) := by decide +kernel
theorem dX10_turn_14 : decode cX10_turn 14 = .ok (.getfield 50, 3) := by decide +kernel
theorem dX10_turn_17 : decode cX10_turn 17 = .ok (.aload_n 0, 1) := by decide +kernel
theorem dX10_turn_18 : decode cX10_turn 18 = .ok (.getfield 50, 3) := by decide +kernel
theorem dX10_turn_21 : decode cX10_turn 21 = .ok (.getfield 170, 3) := by decide +kernel
theorem dX10_turn_24 : decode cX10_turn 24 = .ok (.ifCond .ne 7, 3) := by decide +kernel
theorem dX10_turn_27 : decode cX10_turn 27 = .ok (.iconst 1, 1) := by decide +kernel
theorem dX10_turn_28 : decode cX10_turn 28 = .ok (.goto 4, 3) := by decide +kernel
theorem dX10_turn_31 : decode cX10_turn 31 = .ok (.iconst 0, 1) := by decide +kernel
theorem dX10_turn_32 : decode cX10_turn 32 = .ok (.putfield 170, 3) := by decide +kernel
theorem dX10_turn_35 : decode cX10_turn 35 = .ok (.aload_n 0, 1) := by decide +kernel
theorem dX10_turn_36 : decode cX10_turn 36 = .ok (.invokevirtual 114, 3) := by decide +kernel
theorem dX10_turn_39 : decode cX10_turn 39 = .ok (.aload_n 0, 1) := by decide +kernel
theorem dX10_turn_40 : decode cX10_turn 40 = .ok (.getfield 50, 3) := by decide +kernel
theorem dX10_turn_43 : decode cX10_turn 43 = .ok (.getfield 170, 3) := by decide +kernel
theorem dX10_turn_46 : decode cX10_turn 46 = .ok (.ifCond .eq 7, 3) := by decide +kernel
theorem dX10_turn_49 : decode cX10_turn 49 = .ok (.iconst 1, 1) := by decide +kernel
theorem dX10_turn_50 : decode cX10_turn 50 = .ok (.goto 4, 3) := by decide +kernel
theorem dX10_turn_53 : decode cX10_turn 53 = .ok (.iconst 0, 1) := by decide +kernel
theorem dX10_turn_54 : decode cX10_turn 54 = .ok (.ireturn, 1) := by decide +kernel
set_option maxRecDepth 20000 in
theorem ggX10_man_X5_isRead : GoodIn wsX10_man wsX5_isRead := goodIn_r _ [11, 12, 50, 51, 52, 53, 54, 55, 56] (by decide +kernel) (by decide +kernel)
set_option maxRecDepth 20000 in
theorem gX10_man_X5_isRead : GoodIn wsX10_man (wsV RX10 152 RX5 yX5_isRead wsX5_isRead) := goodIn_app (goodIn_of _ (by decide +kernel)) ggX10_man_X5_isRead
set_option maxRecDepth 20000 in
theorem ggX10_man_X1_isKind : GoodIn wsX10_man wsX1_isKind := goodIn_r _ [16] (by decide +kernel) (by decide +kernel)
set_option maxRecDepth 20000 in
theorem gX10_man_X1_isKind : GoodIn wsX10_man (va_wsS RX10 174 yX1_isKind wsX1_isKind) := goodIn_app (goodIn_of _ (by decide +kernel)) ggX10_man_X1_isKind
set_option maxRecDepth 20000 in
theorem ggX10_man_X10_isKnot : GoodIn wsX10_man wsX10_isKnot := goodIn_r _ [20] (by decide +kernel) (by decide +kernel)
set_option maxRecDepth 20000 in
theorem gX10_man_X10_isKnot : GoodIn wsX10_man (va_wsS RX10 155 yX10_isKnot wsX10_isKnot) := goodIn_app (goodIn_of _ (by decide +kernel)) ggX10_man_X10_isKnot
set_option maxRecDepth 20000 in
theorem ggX10_man_X8_set : GoodIn wsX10_man wsX8_set := goodIn_r _ [25, 26, 57] (by decide +kernel) (by decide +kernel)
set_option maxRecDepth 20000 in
theorem gX10_man_X8_set : GoodIn wsX10_man (wsV RX10 180 RX8 yX8_set wsX8_set) := goodIn_app (goodIn_of _ (by decide +kernel)) ggX10_man_X8_set
theorem dX10_man_0 : decode cX10_man 0 = .ok (.aload_n 0, 1) := by decide +kernel
theorem dX10_man_1 : decode cX10_man 1 = .ok (.getfield 19, 3) := by decide +kernel
theorem dX10_man_4 : decode cX10_man 4 = .ok (.invokevirtual 152, 3) := by decide +kernel
theorem dX10_man_7 : decode cX10_man 7 = .ok (.ifCond .ne 6, 3) := by decide +kernel
theorem dX10_man_10 : decode cX10_man 10 = .ok (.bipush (-103), 2) := by decide +kernel
theorem dX10_man_12 : decode cX10_man 12 = .ok (.ireturn, 1) := by decide +kernel
theorem dX10_man_13 : decode cX10_man 13 = .ok (.iload_n 1, 1) := by decide +kernel
theorem dX10_man_14 : decode cX10_man 14 = .ok (.invokestatic 174, 3) := by decide +kernel
theorem dX10_man_17 : decode cX10_man 17 = .ok (.ifCond .ne 6, 3) := by decide +kernel
theorem dX10_man_20 : decode cX10_man 20 = .ok (.bipush (-102), 2) := by decide +kernel
theorem dX10_man_22 : decode cX10_man 22 = .ok (.ireturn, 1) := by decide +kernel
theorem dX10_man_23 : decode cX10_man 23 = .ok (.iload_n 2, 1) := by decide +kernel
theorem dX10_man_24 : decode cX10_man 24 = .ok (.invokestatic 155, 3) := by decide +kernel
theorem dX10_man_27 : decode cX10_man 27 = .ok (.ifCond .ne 6, 3) := by decide +kernel
theorem dX10_man_30 : decode cX10_man 30 = .ok (.bipush (-101), 2) := by decide +kernel
theorem dX10_man_32 : decode cX10_man 32 = .ok (.ireturn, 1) := by decide +kernel
theorem dX10_man_33 : decode cX10_man 33 = .ok (.aload_n 0, 1) := by decide +kernel
theorem dX10_man_34 : decode cX10_man 34 = .ok (.getfield 43, 3) := by decide +kernel
theorem dX10_man_37 : decode cX10_man 37 = .ok (.getfield 101, 3) := by decide +kernel
theorem dX10_man_40 : decode cX10_man 40 = .ok (.bipush 6, 2) := by decide +kernel
theorem dX10_man_42 : decode cX10_man 42 = .ok (.if_icmp .lt 6, 3) := by decide +kernel
theorem dX10_man_45 : decode cX10_man 45 = .ok (.bipush (-104), 2) := by decide +kernel
theorem dX10_man_47 : decode cX10_man 47 = .ok (.ireturn, 1) := by decide +kernel
theorem dX10_man_48 : decode cX10_man 48 = .ok (.aload_n 0, 1) := by decide +kernel
theorem dX10_man_49 : decode cX10_man 49 = .ok (.getfield 43, 3) := by decide +kernel
theorem dX10_man_52 : decode cX10_man 52 = .ok (.getfield 101, 3) := by decide +kernel
theorem dX10_man_55 : decode cX10_man 55 = .ok (.istore_n 3, 1) := by decide +kernel
theorem dX10_man_56 : decode cX10_man 56 = .ok (.aload_n 0, 1) := by decide +kernel
theorem dX10_man_57 : decode cX10_man 57 = .ok (.getfield 43, 3) := by decide +kernel
theorem dX10_man_60 : decode cX10_man 60 = .ok (.getfield 177, 3) := by decide +kernel
theorem dX10_man_63 : decode cX10_man 63 = .ok (.iload_n 3, 1) := by decide +kernel
theorem dX10_man_64 : decode cX10_man 64 = .ok (.iload_n 1, 1) := by decide +kernel
theorem dX10_man_65 : decode cX10_man 65 = .ok (.invokevirtual 180, 3) := by decide +kernel
theorem dX10_man_68 : decode cX10_man 68 = .ok (.aload_n 0, 1) := by decide +kernel
theorem dX10_man_69 : decode cX10_man 69 = .ok (.getfield 43, 3) := by decide +kernel
theorem dX10_man_72 : decode cX10_man 72 = .ok (.dup, 1) := by decide +kernel
theorem dX10_man_73 : decode cX10_man 73 = .ok (.getfield 101, 3) := by decide +kernel
theorem dX10_man_76 : decode cX10_man 76 = .ok (.iconst 1, 1) := by decide +kernel
theorem dX10_man_77 : decode cX10_man 77 = .ok (.iadd, 1) := by decide +kernel
theorem dX10_man_78 : decode cX10_man 78 = .ok (.putfield 101, 3) := by decide +kernel
theorem dX10_man_81 : decode cX10_man 81 = .ok (.aload_n 0, 1) := by decide +kernel
theorem dX10_man_82 : decode cX10_man 82 = .ok (.getfield 50, 3) := by decide +kernel
theorem dX10_man_85 : decode cX10_man 85 = .ok (.getfield 184, 3) := by decide +kernel
theorem dX10_man_88 : decode cX10_man 88 = .ok (.iload_n 3, 1) := by decide +kernel
theorem dX10_man_89 : decode cX10_man 89 = .ok (.iload_n 2, 1) := by decide +kernel
theorem dX10_man_90 : decode cX10_man 90 = .ok (.invokevirtual 180, 3) := by decide +kernel
theorem dX10_man_93 : decode cX10_man 93 = .ok (.iload_n 3, 1) := by decide +kernel
theorem dX10_man_94 : decode cX10_man 94 = .ok (.ireturn, 1) := by decide +kernel
set_option maxRecDepth 20000 in
theorem ggX10_about_X1_has : GoodIn wsX10_about wsX1_has := goodIn_r _ [10, 11, 43, 44] (by decide +kernel) (by decide +kernel)
set_option maxRecDepth 20000 in
theorem gX10_about_X1_has : GoodIn wsX10_about (wsV RX10 187 RX1 yX1_has wsX1_has) := goodIn_app (goodIn_of _ (by decide +kernel)) ggX10_about_X1_has
set_option maxRecDepth 20000 in
theorem ggX10_about_X8_get : GoodIn wsX10_about wsX8_get := goodIn_r _ [16, 17, 51] (by decide +kernel) (by decide +kernel)
set_option maxRecDepth 20000 in
theorem gX10_about_X8_get : GoodIn wsX10_about (wsV RX10 128 RX8 yX8_get wsX8_get) := goodIn_app (goodIn_of _ (by decide +kernel)) ggX10_about_X8_get
set_option maxRecDepth 20000 in
theorem ggX10_about_X10_bit : GoodIn wsX10_about wsX10_bit := goodIn_r _ [21] (by decide +kernel) (by decide +kernel)
set_option maxRecDepth 20000 in
theorem gX10_about_X10_bit : GoodIn wsX10_about (va_wsS RX10 142 yX10_bit wsX10_bit) := goodIn_app (goodIn_of _ (by decide +kernel)) ggX10_about_X10_bit
set_option maxRecDepth 20000 in
theorem ggX10_about_X1_bears : GoodIn wsX10_about wsX1_bears := goodIn_r _ [25, 26, 27, 13, 14, 15, 16, 17, 43, 44, 51] (by decide +kernel) (by decide +kernel)
set_option maxRecDepth 20000 in
theorem gX10_about_X1_bears : GoodIn wsX10_about (wsV RX10 193 RX1 yX1_bears wsX1_bears) := goodIn_app (goodIn_of _ (by decide +kernel)) ggX10_about_X1_bears
theorem dX10_about_0 : decode cX10_about 0 = .ok (.aload_n 0, 1) := by decide +kernel
theorem dX10_about_1 : decode cX10_about 1 = .ok (.getfield 43, 3) := by decide +kernel
theorem dX10_about_4 : decode cX10_about 4 = .ok (.iload_n 1, 1) := by decide +kernel
theorem dX10_about_5 : decode cX10_about 5 = .ok (.invokevirtual 187, 3) := by decide +kernel
theorem dX10_about_8 : decode cX10_about 8 = .ok (.ifCond .ne 6, 3) := by decide +kernel
theorem dX10_about_11 : decode cX10_about 11 = .ok (.bipush (-101), 2) := by decide +kernel
theorem dX10_about_13 : decode cX10_about 13 = .ok (.ireturn, 1) := by decide +kernel
theorem dX10_about_14 : decode cX10_about 14 = .ok (.iload_n 2, 1) := by decide +kernel
theorem dX10_about_15 : decode cX10_about 15 = .ok (.tableswitch 74 0 3 #[29, 41, 53, 65], 29) := by decide +kernel
theorem dX10_about_44 : decode cX10_about 44 = .ok (.aload_n 0, 1) := by decide +kernel
theorem dX10_about_45 : decode cX10_about 45 = .ok (.getfield 43, 3) := by decide +kernel
theorem dX10_about_48 : decode cX10_about 48 = .ok (.getfield 177, 3) := by decide +kernel
theorem dX10_about_51 : decode cX10_about 51 = .ok (.iload_n 1, 1) := by decide +kernel
theorem dX10_about_52 : decode cX10_about 52 = .ok (.invokevirtual 128, 3) := by decide +kernel
theorem dX10_about_55 : decode cX10_about 55 = .ok (.ireturn, 1) := by decide +kernel
theorem dX10_about_56 : decode cX10_about 56 = .ok (.aload_n 0, 1) := by decide +kernel
theorem dX10_about_57 : decode cX10_about 57 = .ok (.getfield 50, 3) := by decide +kernel
theorem dX10_about_60 : decode cX10_about 60 = .ok (.getfield 184, 3) := by decide +kernel
theorem dX10_about_63 : decode cX10_about 63 = .ok (.iload_n 1, 1) := by decide +kernel
theorem dX10_about_64 : decode cX10_about 64 = .ok (.invokevirtual 128, 3) := by decide +kernel
theorem dX10_about_67 : decode cX10_about 67 = .ok (.ireturn, 1) := by decide +kernel
theorem dX10_about_68 : decode cX10_about 68 = .ok (.aload_n 0, 1) := by decide +kernel
theorem dX10_about_69 : decode cX10_about 69 = .ok (.getfield 50, 3) := by decide +kernel
theorem dX10_about_72 : decode cX10_about 72 = .ok (.getfield 190, 3) := by decide +kernel
theorem dX10_about_75 : decode cX10_about 75 = .ok (.iload_n 1, 1) := by decide +kernel
theorem dX10_about_76 : decode cX10_about 76 = .ok (.invokestatic 142, 3) := by decide +kernel
theorem dX10_about_79 : decode cX10_about 79 = .ok (.ireturn, 1) := by decide +kernel
theorem dX10_about_80 : decode cX10_about 80 = .ok (.aload_n 0, 1) := by decide +kernel
theorem dX10_about_81 : decode cX10_about 81 = .ok (.getfield 43, 3) := by decide +kernel
theorem dX10_about_84 : decode cX10_about 84 = .ok (.iload_n 1, 1) := by decide +kernel
theorem dX10_about_85 : decode cX10_about 85 = .ok (.invokevirtual 193, 3) := by decide +kernel
theorem dX10_about_88 : decode cX10_about 88 = .ok (.ireturn, 1) := by decide +kernel
theorem dX10_about_89 : decode cX10_about 89 = .ok (.bipush (-102), 2) := by decide +kernel
theorem dX10_about_91 : decode cX10_about 91 = .ok (.ireturn, 1) := by decide +kernel
set_option maxRecDepth 20000 in
theorem ggX10_as_X1_has : GoodIn wsX10_as wsX1_has := goodIn_r _ [6, 7, 37, 38] (by decide +kernel) (by decide +kernel)
set_option maxRecDepth 20000 in
theorem gX10_as_X1_has : GoodIn wsX10_as (wsV RX10 187 RX1 yX1_has wsX1_has) := goodIn_app (goodIn_of _ (by decide +kernel)) ggX10_as_X1_has
set_option maxRecDepth 20000 in
theorem ggX10_as_X1_isKind : GoodIn wsX10_as wsX1_isKind := goodIn_r _ [10] (by decide +kernel) (by decide +kernel)
set_option maxRecDepth 20000 in
theorem gX10_as_X1_isKind : GoodIn wsX10_as (va_wsS RX10 174 yX1_isKind wsX1_isKind) := goodIn_app (goodIn_of _ (by decide +kernel)) ggX10_as_X1_isKind
set_option maxRecDepth 20000 in
theorem ggX10_as_X1_isOf : GoodIn wsX10_as wsX1_isOf := goodIn_r _ [14, 15, 16, 17, 18, 19, 20, 21, 37, 38, 39] (by decide +kernel) (by decide +kernel)
set_option maxRecDepth 20000 in
theorem gX10_as_X1_isOf : GoodIn wsX10_as (wsV RX10 196 RX1 yX1_isOf wsX1_isOf) := goodIn_app (goodIn_of _ (by decide +kernel)) ggX10_as_X1_isOf
theorem dX10_as_0 : decode cX10_as 0 = .ok (.aload_n 0, 1) := by decide +kernel
theorem dX10_as_1 : decode cX10_as 1 = .ok (.getfield 43, 3) := by decide +kernel
theorem dX10_as_4 : decode cX10_as 4 = .ok (.iload_n 1, 1) := by decide +kernel
theorem dX10_as_5 : decode cX10_as 5 = .ok (.invokevirtual 187, 3) := by decide +kernel
theorem dX10_as_8 : decode cX10_as 8 = .ok (.ifCond .ne 6, 3) := by decide +kernel
theorem dX10_as_11 : decode cX10_as 11 = .ok (.bipush (-101), 2) := by decide +kernel
theorem dX10_as_13 : decode cX10_as 13 = .ok (.ireturn, 1) := by decide +kernel
theorem dX10_as_14 : decode cX10_as 14 = .ok (.iload_n 2, 1) := by decide +kernel
theorem dX10_as_15 : decode cX10_as 15 = .ok (.invokestatic 174, 3) := by decide +kernel
theorem dX10_as_18 : decode cX10_as 18 = .ok (.ifCond .ne 6, 3) := by decide +kernel
theorem dX10_as_21 : decode cX10_as 21 = .ok (.bipush (-102), 2) := by decide +kernel
theorem dX10_as_23 : decode cX10_as 23 = .ok (.ireturn, 1) := by decide +kernel
theorem dX10_as_24 : decode cX10_as 24 = .ok (.aload_n 0, 1) := by decide +kernel
theorem dX10_as_25 : decode cX10_as 25 = .ok (.getfield 43, 3) := by decide +kernel
theorem dX10_as_28 : decode cX10_as 28 = .ok (.iload_n 1, 1) := by decide +kernel
theorem dX10_as_29 : decode cX10_as 29 = .ok (.iload_n 2, 1) := by decide +kernel
theorem dX10_as_30 : decode cX10_as 30 = .ok (.invokevirtual 196, 3) := by decide +kernel
theorem dX10_as_33 : decode cX10_as 33 = .ok (.ifCond .eq 7, 3) := by decide +kernel
theorem dX10_as_36 : decode cX10_as 36 = .ok (.iload_n 1, 1) := by decide +kernel
theorem dX10_as_37 : decode cX10_as 37 = .ok (.goto 4, 3) := by decide +kernel
theorem dX10_as_40 : decode cX10_as 40 = .ok (.iconst (-1), 1) := by decide +kernel
theorem dX10_as_41 : decode cX10_as 41 = .ok (.ireturn, 1) := by decide +kernel
set_option maxRecDepth 20000 in
theorem ggX10_walk_X1_has : GoodIn wsX10_walk wsX1_has := goodIn_r _ [11, 12, 71, 72] (by decide +kernel) (by decide +kernel)
set_option maxRecDepth 20000 in
theorem gX10_walk_X1_has : GoodIn wsX10_walk (wsV RX10 187 RX1 yX1_has wsX1_has) := goodIn_app (goodIn_of _ (by decide +kernel)) ggX10_walk_X1_has
set_option maxRecDepth 20000 in
theorem ggX10_walk_X5_hasGallery : GoodIn wsX10_walk wsX5_hasGallery := goodIn_r _ [17, 18, 73, 74, 75, 76, 77, 78, 79] (by decide +kernel) (by decide +kernel)
set_option maxRecDepth 20000 in
theorem gX10_walk_X5_hasGallery : GoodIn wsX10_walk (wsV RX10 120 RX5 yX5_hasGallery wsX5_hasGallery) := goodIn_app (goodIn_of _ (by decide +kernel)) ggX10_walk_X5_hasGallery
set_option maxRecDepth 20000 in
theorem ggX10_walk_X8_get : GoodIn wsX10_walk wsX8_get := goodIn_r _ [23, 24, 80] (by decide +kernel) (by decide +kernel)
set_option maxRecDepth 20000 in
theorem gX10_walk_X8_get : GoodIn wsX10_walk (wsV RX10 128 RX8 yX8_get wsX8_get) := goodIn_app (goodIn_of _ (by decide +kernel)) ggX10_walk_X8_get
set_option maxRecDepth 20000 in
theorem ggX10_walk_X10_bit : GoodIn wsX10_walk wsX10_bit := goodIn_r _ [28] (by decide +kernel) (by decide +kernel)
set_option maxRecDepth 20000 in
theorem gX10_walk_X10_bit : GoodIn wsX10_walk (va_wsS RX10 142 yX10_bit wsX10_bit) := goodIn_app (goodIn_of _ (by decide +kernel)) ggX10_walk_X10_bit
set_option maxRecDepth 20000 in
theorem ggX10_walk_X1_isOf : GoodIn wsX10_walk wsX1_isOf := goodIn_r _ [32, 33, 34, 20, 21, 22, 23, 24, 71, 72, 80] (by decide +kernel) (by decide +kernel)
set_option maxRecDepth 20000 in
theorem gX10_walk_X1_isOf : GoodIn wsX10_walk (wsV RX10 196 RX1 yX1_isOf wsX1_isOf) := goodIn_app (goodIn_of _ (by decide +kernel)) ggX10_walk_X1_isOf
set_option maxRecDepth 20000 in
theorem ggX10_walk_X5_isAt : GoodIn wsX10_walk wsX5_isAt := goodIn_r _ [38, 39, 40, 41, 20, 21, 22, 23, 24, 73, 74, 75, 76, 77, 78, 79, 80] (by decide +kernel) (by decide +kernel)
set_option maxRecDepth 20000 in
theorem gX10_walk_X5_isAt : GoodIn wsX10_walk (wsV RX10 200 RX5 yX5_isAt wsX5_isAt) := goodIn_app (goodIn_of _ (by decide +kernel)) ggX10_walk_X5_isAt
set_option maxRecDepth 20000 in
theorem ggX10_walk_X5_otherEnd : GoodIn wsX10_walk wsX5_otherEnd := goodIn_r _ [45, 39, 40, 41, 20, 21, 22, 23, 24, 73, 74, 75, 76, 77, 78, 79, 80] (by decide +kernel) (by decide +kernel)
set_option maxRecDepth 20000 in
theorem gX10_walk_X5_otherEnd : GoodIn wsX10_walk (wsV RX10 203 RX5 yX5_otherEnd wsX5_otherEnd) := goodIn_app (goodIn_of _ (by decide +kernel)) ggX10_walk_X5_otherEnd
set_option maxRecDepth 20000 in
theorem ggX10_walk_X8_set : GoodIn wsX10_walk wsX8_set := goodIn_r _ [49, 24, 80] (by decide +kernel) (by decide +kernel)
set_option maxRecDepth 20000 in
theorem gX10_walk_X8_set : GoodIn wsX10_walk (wsV RX10 180 RX8 yX8_set wsX8_set) := goodIn_app (goodIn_of _ (by decide +kernel)) ggX10_walk_X8_set
theorem dX10_walk_0 : decode cX10_walk 0 = .ok (.aload_n 0, 1) := by decide +kernel
theorem dX10_walk_1 : decode cX10_walk 1 = .ok (.getfield 43, 3) := by decide +kernel
theorem dX10_walk_4 : decode cX10_walk 4 = .ok (.iload_n 1, 1) := by decide +kernel
theorem dX10_walk_5 : decode cX10_walk 5 = .ok (.invokevirtual 187, 3) := by decide +kernel
theorem dX10_walk_8 : decode cX10_walk 8 = .ok (.ifCond .eq 14, 3) := by decide +kernel
theorem dX10_walk_11 : decode cX10_walk 11 = .ok (.aload_n 0, 1) := by decide +kernel
theorem dX10_walk_12 : decode cX10_walk 12 = .ok (.getfield 19, 3) := by decide +kernel
theorem dX10_walk_15 : decode cX10_walk 15 = .ok (.iload_n 2, 1) := by decide +kernel
theorem dX10_walk_16 : decode cX10_walk 16 = .ok (.invokevirtual 120, 3) := by decide +kernel
theorem dX10_walk_19 : decode cX10_walk 19 = .ok (.ifCond .ne 6, 3) := by decide +kernel
theorem dX10_walk_22 : decode cX10_walk 22 = .ok (.bipush (-101), 2) := by decide +kernel
theorem dX10_walk_24 : decode cX10_walk 24 = .ok (.ireturn, 1) := by decide +kernel
theorem dX10_walk_25 : decode cX10_walk 25 = .ok (.aload_n 0, 1) := by decide +kernel
theorem dX10_walk_26 : decode cX10_walk 26 = .ok (.getfield 50, 3) := by decide +kernel
theorem dX10_walk_29 : decode cX10_walk 29 = .ok (.getfield 184, 3) := by decide +kernel
theorem dX10_walk_32 : decode cX10_walk 32 = .ok (.iload_n 1, 1) := by decide +kernel
theorem dX10_walk_33 : decode cX10_walk 33 = .ok (.invokevirtual 128, 3) := by decide +kernel
theorem dX10_walk_36 : decode cX10_walk 36 = .ok (.istore_n 3, 1) := by decide +kernel
theorem dX10_walk_37 : decode cX10_walk 37 = .ok (.aload_n 0, 1) := by decide +kernel
theorem dX10_walk_38 : decode cX10_walk 38 = .ok (.getfield 50, 3) := by decide +kernel
theorem dX10_walk_41 : decode cX10_walk 41 = .ok (.getfield 146, 3) := by decide +kernel
theorem dX10_walk_44 : decode cX10_walk 44 = .ok (.iload_n 2, 1) := by decide +kernel
theorem dX10_walk_45 : decode cX10_walk 45 = .ok (.invokestatic 142, 3) := by decide +kernel
theorem dX10_walk_48 : decode cX10_walk 48 = .ok (.ifCond .ne 19, 3) := by decide +kernel
theorem dX10_walk_51 : decode cX10_walk 51 = .ok (.aload_n 0, 1) := by decide +kernel
theorem dX10_walk_52 : decode cX10_walk 52 = .ok (.getfield 43, 3) := by decide +kernel
theorem dX10_walk_55 : decode cX10_walk 55 = .ok (.iload_n 1, 1) := by decide +kernel
theorem dX10_walk_56 : decode cX10_walk 56 = .ok (.iconst 3, 1) := by decide +kernel
theorem dX10_walk_57 : decode cX10_walk 57 = .ok (.invokevirtual 196, 3) := by decide +kernel
theorem dX10_walk_60 : decode cX10_walk 60 = .ok (.ifCond .ne 7, 3) := by decide +kernel
theorem dX10_walk_63 : decode cX10_walk 63 = .ok (.iconst 1, 1) := by decide +kernel
theorem dX10_walk_64 : decode cX10_walk 64 = .ok (.goto 4, 3) := by decide +kernel
theorem dX10_walk_67 : decode cX10_walk 67 = .ok (.iconst 0, 1) := by decide +kernel
theorem dX10_walk_68 : decode cX10_walk 68 = .ok (.istore 4, 2) := by decide +kernel
theorem dX10_walk_70 : decode cX10_walk 70 = .ok (.aload_n 0, 1) := by decide +kernel
theorem dX10_walk_71 : decode cX10_walk 71 = .ok (.getfield 50, 3) := by decide +kernel
theorem dX10_walk_74 : decode cX10_walk 74 = .ok (.getfield 190, 3) := by decide +kernel
theorem dX10_walk_77 : decode cX10_walk 77 = .ok (.iload_n 1, 1) := by decide +kernel
theorem dX10_walk_78 : decode cX10_walk 78 = .ok (.invokestatic 142, 3) := by decide +kernel
theorem dX10_walk_81 : decode cX10_walk 81 = .ok (.iconst 1, 1) := by decide +kernel
theorem dX10_walk_82 : decode cX10_walk 82 = .ok (.if_icmp .eq 20, 3) := by decide +kernel
theorem dX10_walk_85 : decode cX10_walk 85 = .ok (.aload_n 0, 1) := by decide +kernel
theorem dX10_walk_86 : decode cX10_walk 86 = .ok (.getfield 19, 3) := by decide +kernel
theorem dX10_walk_89 : decode cX10_walk 89 = .ok (.iload_n 2, 1) := by decide +kernel
theorem dX10_walk_90 : decode cX10_walk 90 = .ok (.iload_n 3, 1) := by decide +kernel
theorem dX10_walk_91 : decode cX10_walk 91 = .ok (.invokevirtual 200, 3) := by decide +kernel
theorem dX10_walk_94 : decode cX10_walk 94 = .ok (.ifCond .eq 8, 3) := by decide +kernel
theorem dX10_walk_97 : decode cX10_walk 97 = .ok (.iload 4, 2) := by decide +kernel
theorem dX10_walk_99 : decode cX10_walk 99 = .ok (.ifCond .eq 6, 3) := by decide +kernel
theorem dX10_walk_102 : decode cX10_walk 102 = .ok (.bipush (-103), 2) := by decide +kernel
theorem dX10_walk_104 : decode cX10_walk 104 = .ok (.ireturn, 1) := by decide +kernel
theorem dX10_walk_105 : decode cX10_walk 105 = .ok (.aload_n 0, 1) := by decide +kernel
theorem dX10_walk_106 : decode cX10_walk 106 = .ok (.getfield 19, 3) := by decide +kernel
theorem dX10_walk_109 : decode cX10_walk 109 = .ok (.iload_n 2, 1) := by decide +kernel
theorem dX10_walk_110 : decode cX10_walk 110 = .ok (.iload_n 3, 1) := by decide +kernel
theorem dX10_walk_111 : decode cX10_walk 111 = .ok (.invokevirtual 203, 3) := by decide +kernel
theorem dX10_walk_114 : decode cX10_walk 114 = .ok (.istore 5, 2) := by decide +kernel
theorem dX10_walk_116 : decode cX10_walk 116 = .ok (.aload_n 0, 1) := by decide +kernel
theorem dX10_walk_117 : decode cX10_walk 117 = .ok (.getfield 50, 3) := by decide +kernel
theorem dX10_walk_120 : decode cX10_walk 120 = .ok (.getfield 184, 3) := by decide +kernel
theorem dX10_walk_123 : decode cX10_walk 123 = .ok (.iload_n 1, 1) := by decide +kernel
theorem dX10_walk_124 : decode cX10_walk 124 = .ok (.iload 5, 2) := by decide +kernel
theorem dX10_walk_126 : decode cX10_walk 126 = .ok (.invokevirtual 180, 3) := by decide +kernel
theorem dX10_walk_129 : decode cX10_walk 129 = .ok (.iload 5, 2) := by decide +kernel
theorem dX10_walk_131 : decode cX10_walk 131 = .ok (.ireturn, 1) := by decide +kernel
set_option maxRecDepth 20000 in
theorem ggX10_minutes_X5_isRead : GoodIn wsX10_minutes wsX5_isRead := goodIn_r _ [11, 12, 79, 80, 81, 82, 83, 84, 85] (by decide +kernel) (by decide +kernel)
set_option maxRecDepth 20000 in
theorem gX10_minutes_X5_isRead : GoodIn wsX10_minutes (wsV RX10 152 RX5 yX5_isRead wsX5_isRead) := goodIn_app (goodIn_of _ (by decide +kernel)) ggX10_minutes_X5_isRead
set_option maxRecDepth 20000 in
theorem ggX10_minutes_J6_bitCount_0f7a4 : GoodIn wsX10_minutes wsJ6_bitCount_0f7a4 := goodIn_r _ [16, 17, 18, 19] (by decide +kernel) (by decide +kernel)
set_option maxRecDepth 20000 in
theorem gX10_minutes_J6_bitCount_0f7a4 : GoodIn wsX10_minutes (va_wsS RX10 206 yJ6_bitCount_0f7a4 wsJ6_bitCount_0f7a4) := goodIn_app (goodIn_of _ (by decide +kernel)) ggX10_minutes_J6_bitCount_0f7a4
set_option maxRecDepth 20000 in
theorem ggX10_minutes_X3_passMinute : GoodIn wsX10_minutes wsX3_passMinute := goodIn_r _ [24, 25, 26, 27, 28, 29, 30, 31, 32, 33, 34, 35, 36, 37, 38, 39, 40, 41, 42, 43, 44, 45, 46, 47, 48, 49, 50, 51, 52, 53, 69, 70, 71, 72, 73, 74, 86, 87, 88] (by decide +kernel) (by decide +kernel)
set_option maxRecDepth 20000 in
theorem gX10_minutes_X3_passMinute : GoodIn wsX10_minutes (wsV RX10 211 RX3 yX3_passMinute wsX3_passMinute) := goodIn_app (goodIn_of _ (by decide +kernel)) ggX10_minutes_X3_passMinute
theorem dX10_minutes_0 : decode cX10_minutes 0 = .ok (.iload_n 1, 1) := by decide +kernel
theorem dX10_minutes_1 : decode cX10_minutes 1 = .ok (.iconst 1, 1) := by decide +kernel
theorem dX10_minutes_2 : decode cX10_minutes 2 = .ok (.if_icmp .lt 9, 3) := by decide +kernel
theorem dX10_minutes_5 : decode cX10_minutes 5 = .ok (.iload_n 1, 1) := by decide +kernel
theorem dX10_minutes_6 : decode cX10_minutes 6 = .ok (.bipush 60, 2) := by decide +kernel
theorem dX10_minutes_8 : decode cX10_minutes 8 = .ok (.if_icmp .le 6, 3) := by decide +kernel
theorem dX10_minutes_11 : decode cX10_minutes 11 = .ok (.bipush (-102), 2) := by decide +kernel
theorem dX10_minutes_13 : decode cX10_minutes 13 = .ok (.ireturn, 1) := by decide +kernel
theorem dX10_minutes_14 : decode cX10_minutes 14 = .ok (.aload_n 0, 1) := by decide +kernel
theorem dX10_minutes_15 : decode cX10_minutes 15 = .ok (.getfield 19, 3) := by decide +kernel
theorem dX10_minutes_18 : decode cX10_minutes 18 = .ok (.invokevirtual 152, 3) := by decide +kernel
theorem dX10_minutes_21 : decode cX10_minutes 21 = .ok (.ifCond .ne 6, 3) := by decide +kernel
theorem dX10_minutes_24 : decode cX10_minutes 24 = .ok (.bipush (-103), 2) := by decide +kernel
theorem dX10_minutes_26 : decode cX10_minutes 26 = .ok (.ireturn, 1) := by decide +kernel
theorem dX10_minutes_27 : decode cX10_minutes 27 = .ok (.aload_n 0, 1) := by decide +kernel
theorem dX10_minutes_28 : decode cX10_minutes 28 = .ok (.getfield 50, 3) := by decide +kernel
theorem dX10_minutes_31 : decode cX10_minutes 31 = .ok (.getfield 190, 3) := by decide +kernel
theorem dX10_minutes_34 : decode cX10_minutes 34 = .ok (.invokestatic 206, 3) := by decide +kernel
theorem dX10_minutes_37 : decode cX10_minutes 37 = .ok (.istore_n 2, 1) := by decide +kernel
theorem dX10_minutes_38 : decode cX10_minutes 38 = .ok (.iconst 0, 1) := by decide +kernel
theorem dX10_minutes_39 : decode cX10_minutes 39 = .ok (.istore_n 3, 1) := by decide +kernel
theorem dX10_minutes_40 : decode cX10_minutes 40 = .ok (.iload_n 3, 1) := by decide +kernel
theorem dX10_minutes_41 : decode cX10_minutes 41 = .ok (.iload_n 1, 1) := by decide +kernel
theorem dX10_minutes_42 : decode cX10_minutes 42 = .ok (.if_icmp .ge 27, 3) := by decide +kernel
theorem dX10_minutes_45 : decode cX10_minutes 45 = .ok (.aload_n 0, 1) := by decide +kernel
theorem dX10_minutes_46 : decode cX10_minutes 46 = .ok (.getfield 50, 3) := by decide +kernel
theorem dX10_minutes_49 : decode cX10_minutes 49 = .ok (.aload_n 0, 1) := by decide +kernel
theorem dX10_minutes_50 : decode cX10_minutes 50 = .ok (.getfield 43, 3) := by decide +kernel
theorem dX10_minutes_53 : decode cX10_minutes 53 = .ok (.aload_n 0, 1) := by decide +kernel
theorem dX10_minutes_54 : decode cX10_minutes 54 = .ok (.getfield 26, 3) := by decide +kernel
theorem dX10_minutes_57 : decode cX10_minutes 57 = .ok (.getfield 164, 3) := by decide +kernel
theorem dX10_minutes_60 : decode cX10_minutes 60 = .ok (.invokevirtual 211, 3) := by decide +kernel
theorem dX10_minutes_63 : decode cX10_minutes 63 = .ok (.iinc 3 1, 3) := by decide +kernel
theorem dX10_minutes_66 : decode cX10_minutes 66 = .ok (.goto (-26), 3) := by decide +kernel
theorem dX10_minutes_69 : decode cX10_minutes 69 = .ok (.aload_n 0, 1) := by decide +kernel
theorem dX10_minutes_70 : decode cX10_minutes 70 = .ok (.getfield 50, 3) := by decide +kernel
theorem dX10_minutes_73 : decode cX10_minutes 73 = .ok (.getfield 190, 3) := by decide +kernel
theorem dX10_minutes_76 : decode cX10_minutes 76 = .ok (.invokestatic 206, 3) := by decide +kernel
theorem dX10_minutes_79 : decode cX10_minutes 79 = .ok (.iload_n 2, 1) := by decide +kernel
theorem dX10_minutes_80 : decode cX10_minutes 80 = .ok (.isub, 1) := by decide +kernel
theorem dX10_minutes_81 : decode cX10_minutes 81 = .ok (.ireturn, 1) := by decide +kernel
set_option maxRecDepth 20000 in
theorem ggX10_smelt_X5_isRead : GoodIn wsX10_smelt wsX5_isRead := goodIn_r _ [7, 8, 40, 41, 42, 43, 44, 45, 46] (by decide +kernel) (by decide +kernel)
set_option maxRecDepth 20000 in
theorem gX10_smelt_X5_isRead : GoodIn wsX10_smelt (wsV RX10 152 RX5 yX5_isRead wsX5_isRead) := goodIn_app (goodIn_of _ (by decide +kernel)) ggX10_smelt_X5_isRead
set_option maxRecDepth 20000 in
theorem ggX10_smelt_X10_isKnot : GoodIn wsX10_smelt wsX10_isKnot := goodIn_r _ [12] (by decide +kernel) (by decide +kernel)
set_option maxRecDepth 20000 in
theorem gX10_smelt_X10_isKnot : GoodIn wsX10_smelt (va_wsS RX10 155 yX10_isKnot wsX10_isKnot) := goodIn_app (goodIn_of _ (by decide +kernel)) ggX10_smelt_X10_isKnot
set_option maxRecDepth 20000 in
theorem ggX10_smelt_X9_between : GoodIn wsX10_smelt wsX9_between := goodIn_r _ [17, 18, 19, 20, 21, 22, 23, 24, 47, 48] (by decide +kernel) (by decide +kernel)
set_option maxRecDepth 20000 in
theorem gX10_smelt_X9_between : GoodIn wsX10_smelt (wsV RX10 215 RX9 yX9_between wsX9_between) := goodIn_app (goodIn_of _ (by decide +kernel)) ggX10_smelt_X9_between
theorem dX10_smelt_0 : decode cX10_smelt 0 = .ok (.aload_n 0, 1) := by decide +kernel
theorem dX10_smelt_1 : decode cX10_smelt 1 = .ok (.getfield 19, 3) := by decide +kernel
theorem dX10_smelt_4 : decode cX10_smelt 4 = .ok (.invokevirtual 152, 3) := by decide +kernel
theorem dX10_smelt_7 : decode cX10_smelt 7 = .ok (.ifCond .ne 6, 3) := by decide +kernel
theorem dX10_smelt_10 : decode cX10_smelt 10 = .ok (.bipush (-103), 2) := by decide +kernel
theorem dX10_smelt_12 : decode cX10_smelt 12 = .ok (.ireturn, 1) := by decide +kernel
theorem dX10_smelt_13 : decode cX10_smelt 13 = .ok (.iload_n 1, 1) := by decide +kernel
theorem dX10_smelt_14 : decode cX10_smelt 14 = .ok (.invokestatic 155, 3) := by decide +kernel
theorem dX10_smelt_17 : decode cX10_smelt 17 = .ok (.ifCond .eq 10, 3) := by decide +kernel
theorem dX10_smelt_20 : decode cX10_smelt 20 = .ok (.iload_n 2, 1) := by decide +kernel
theorem dX10_smelt_21 : decode cX10_smelt 21 = .ok (.invokestatic 155, 3) := by decide +kernel
theorem dX10_smelt_24 : decode cX10_smelt 24 = .ok (.ifCond .ne 6, 3) := by decide +kernel
theorem dX10_smelt_27 : decode cX10_smelt 27 = .ok (.bipush (-101), 2) := by decide +kernel
theorem dX10_smelt_29 : decode cX10_smelt 29 = .ok (.ireturn, 1) := by decide +kernel
theorem dX10_smelt_30 : decode cX10_smelt 30 = .ok (.aload_n 0, 1) := by decide +kernel
theorem dX10_smelt_31 : decode cX10_smelt 31 = .ok (.getfield 36, 3) := by decide +kernel
theorem dX10_smelt_34 : decode cX10_smelt 34 = .ok (.iload_n 1, 1) := by decide +kernel
theorem dX10_smelt_35 : decode cX10_smelt 35 = .ok (.iload_n 2, 1) := by decide +kernel
theorem dX10_smelt_36 : decode cX10_smelt 36 = .ok (.invokevirtual 215, 3) := by decide +kernel
theorem dX10_smelt_39 : decode cX10_smelt 39 = .ok (.ireturn, 1) := by decide +kernel
set_option maxRecDepth 20000 in
theorem ggX10_wayOut_X5_isRead : GoodIn wsX10_wayOut wsX5_isRead := goodIn_r _ [7, 8, 55, 56, 57, 58, 59, 60, 61] (by decide +kernel) (by decide +kernel)
set_option maxRecDepth 20000 in
theorem gX10_wayOut_X5_isRead : GoodIn wsX10_wayOut (wsV RX10 152 RX5 yX5_isRead wsX5_isRead) := goodIn_app (goodIn_of _ (by decide +kernel)) ggX10_wayOut_X5_isRead
set_option maxRecDepth 20000 in
theorem ggX10_wayOut_X10_isKnot : GoodIn wsX10_wayOut wsX10_isKnot := goodIn_r _ [12] (by decide +kernel) (by decide +kernel)
set_option maxRecDepth 20000 in
theorem gX10_wayOut_X10_isKnot : GoodIn wsX10_wayOut (va_wsS RX10 155 yX10_isKnot wsX10_isKnot) := goodIn_app (goodIn_of _ (by decide +kernel)) ggX10_wayOut_X10_isKnot
set_option maxRecDepth 20000 in
theorem ggX10_wayOut_X5_isShaft : GoodIn wsX10_wayOut wsX5_isShaft := goodIn_r _ [16, 17, 18, 11, 19, 55, 56, 57, 58, 59, 60, 61] (by decide +kernel) (by decide +kernel)
set_option maxRecDepth 20000 in
theorem gX10_wayOut_X5_isShaft : GoodIn wsX10_wayOut (wsV RX10 227 RX5 yX5_isShaft wsX5_isShaft) := goodIn_app (goodIn_of _ (by decide +kernel)) ggX10_wayOut_X5_isShaft
set_option maxRecDepth 20000 in
theorem ggX10_wayOut_X0_firstInto : GoodIn wsX10_wayOut wsX0_firstInto := goodIn_r _ [24, 25, 26, 27, 28, 29, 30, 31, 32, 55, 56, 57, 58, 59, 60, 61, 62, 63, 64, 65, 66] (by decide +kernel) (by decide +kernel)
set_option maxRecDepth 20000 in
theorem gX10_wayOut_X0_firstInto : GoodIn wsX10_wayOut (wsV RX10 230 RX0 yX0_firstInto wsX0_firstInto) := goodIn_app (goodIn_of _ (by decide +kernel)) ggX10_wayOut_X0_firstInto
set_option maxRecDepth 20000 in
theorem ggX10_wayOut_X5_otherEnd : GoodIn wsX10_wayOut wsX5_otherEnd := goodIn_r _ [36, 37, 38, 39, 28, 29, 30, 31, 32, 55, 56, 57, 58, 59, 60, 61, 66] (by decide +kernel) (by decide +kernel)
set_option maxRecDepth 20000 in
theorem gX10_wayOut_X5_otherEnd : GoodIn wsX10_wayOut (wsV RX10 203 RX5 yX5_otherEnd wsX5_otherEnd) := goodIn_app (goodIn_of _ (by decide +kernel)) ggX10_wayOut_X5_otherEnd
theorem dX10_wayOut_0 : decode cX10_wayOut 0 = .ok (.aload_n 0, 1) := by decide +kernel
theorem dX10_wayOut_1 : decode cX10_wayOut 1 = .ok (.getfield 19, 3) := by decide +kernel
theorem dX10_wayOut_4 : decode cX10_wayOut 4 = .ok (.invokevirtual 152, 3) := by decide +kernel
theorem dX10_wayOut_7 : decode cX10_wayOut 7 = .ok (.ifCond .ne 6, 3) := by decide +kernel
theorem dX10_wayOut_10 : decode cX10_wayOut 10 = .ok (.bipush (-103), 2) := by decide +kernel
theorem dX10_wayOut_12 : decode cX10_wayOut 12 = .ok (.ireturn, 1) := by decide +kernel
theorem dX10_wayOut_13 : decode cX10_wayOut 13 = .ok (.iload_n 1, 1) := by decide +kernel
theorem dX10_wayOut_14 : decode cX10_wayOut 14 = .ok (.invokestatic 155, 3) := by decide +kernel
theorem dX10_wayOut_17 : decode cX10_wayOut 17 = .ok (.ifCond .ne 6, 3) := by decide +kernel
theorem dX10_wayOut_20 : decode cX10_wayOut 20 = .ok (.bipush (-101), 2) := by decide +kernel
theorem dX10_wayOut_22 : decode cX10_wayOut 22 = .ok (.ireturn, 1) := by decide +kernel
theorem dX10_wayOut_23 : decode cX10_wayOut 23 = .ok (.iload_n 1, 1) := by decide +kernel
theorem dX10_wayOut_24 : decode cX10_wayOut 24 = .ok (.istore_n 2, 1) := by decide +kernel
theorem dX10_wayOut_25 : decode cX10_wayOut 25 = .ok (.iconst 0, 1) := by decide +kernel
theorem dX10_wayOut_26 : decode cX10_wayOut 26 = .ok (.istore_n 3, 1) := by decide +kernel
theorem dX10_wayOut_27 : decode cX10_wayOut 27 = .ok (.iload_n 3, 1) := by decide +kernel
theorem dX10_wayOut_28 : decode cX10_wayOut 28 = .ok (.bipush 7, 2) := by decide +kernel
theorem dX10_wayOut_30 : decode cX10_wayOut 30 = .ok (.if_icmp .ge 55, 3) := by decide +kernel
theorem dX10_wayOut_33 : decode cX10_wayOut 33 = .ok (.aload_n 0, 1) := by decide +kernel
theorem dX10_wayOut_34 : decode cX10_wayOut 34 = .ok (.getfield 19, 3) := by decide +kernel
theorem dX10_wayOut_37 : decode cX10_wayOut 37 = .ok (.iload_n 2, 1) := by decide +kernel
theorem dX10_wayOut_38 : decode cX10_wayOut 38 = .ok (.invokevirtual 227, 3) := by decide +kernel
theorem dX10_wayOut_41 : decode cX10_wayOut 41 = .ok (.ifCond .eq 5, 3) := by decide +kernel
theorem dX10_wayOut_44 : decode cX10_wayOut 44 = .ok (.iload_n 3, 1) := by decide +kernel
theorem dX10_wayOut_45 : decode cX10_wayOut 45 = .ok (.ireturn, 1) := by decide +kernel
theorem dX10_wayOut_46 : decode cX10_wayOut 46 = .ok (.aload_n 0, 1) := by decide +kernel
theorem dX10_wayOut_47 : decode cX10_wayOut 47 = .ok (.getfield 26, 3) := by decide +kernel
theorem dX10_wayOut_50 : decode cX10_wayOut 50 = .ok (.aload_n 0, 1) := by decide +kernel
theorem dX10_wayOut_51 : decode cX10_wayOut 51 = .ok (.getfield 19, 3) := by decide +kernel
theorem dX10_wayOut_54 : decode cX10_wayOut 54 = .ok (.iload_n 2, 1) := by decide +kernel
theorem dX10_wayOut_55 : decode cX10_wayOut 55 = .ok (.invokevirtual 230, 3) := by decide +kernel
theorem dX10_wayOut_58 : decode cX10_wayOut 58 = .ok (.istore 4, 2) := by decide +kernel
theorem dX10_wayOut_60 : decode cX10_wayOut 60 = .ok (.iload 4, 2) := by decide +kernel
theorem dX10_wayOut_62 : decode cX10_wayOut 62 = .ok (.iconst (-1), 1) := by decide +kernel
theorem dX10_wayOut_63 : decode cX10_wayOut 63 = .ok (.if_icmp .ne 5, 3) := by decide +kernel
theorem dX10_wayOut_66 : decode cX10_wayOut 66 = .ok (.iconst (-1), 1) := by decide +kernel
theorem dX10_wayOut_67 : decode cX10_wayOut 67 = .ok (.ireturn, 1) := by decide +kernel
theorem dX10_wayOut_68 : decode cX10_wayOut 68 = .ok (.aload_n 0, 1) := by decide +kernel
theorem dX10_wayOut_69 : decode cX10_wayOut 69 = .ok (.getfield 19, 3) := by decide +kernel
theorem dX10_wayOut_72 : decode cX10_wayOut 72 = .ok (.iload 4, 2) := by decide +kernel
theorem dX10_wayOut_74 : decode cX10_wayOut 74 = .ok (.iload_n 2, 1) := by decide +kernel
theorem dX10_wayOut_75 : decode cX10_wayOut 75 = .ok (.invokevirtual 203, 3) := by decide +kernel
theorem dX10_wayOut_78 : decode cX10_wayOut 78 = .ok (.istore_n 2, 1) := by decide +kernel
theorem dX10_wayOut_79 : decode cX10_wayOut 79 = .ok (.iinc 3 1, 3) := by decide +kernel
theorem dX10_wayOut_82 : decode cX10_wayOut 82 = .ok (.goto (-55), 3) := by decide +kernel
theorem dX10_wayOut_85 : decode cX10_wayOut 85 = .ok (.iconst (-1), 1) := by decide +kernel
theorem dX10_wayOut_86 : decode cX10_wayOut 86 = .ok (.ireturn, 1) := by decide +kernel
set_option maxRecDepth 20000 in
theorem ggX10_walks_X5_isRead : GoodIn wsX10_walks wsX5_isRead := goodIn_r _ [16, 17, 146, 147, 148, 149, 150, 151, 152] (by decide +kernel) (by decide +kernel)
set_option maxRecDepth 20000 in
theorem gX10_walks_X5_isRead : GoodIn wsX10_walks (wsV RX10 152 RX5 yX5_isRead wsX5_isRead) := goodIn_app (goodIn_of _ (by decide +kernel)) ggX10_walks_X5_isRead
set_option maxRecDepth 20000 in
theorem ggX10_walks_X3_copyFrom : GoodIn wsX10_walks wsX3_copyFrom := goodIn_r _ [22, 23, 24, 25, 26, 27, 28, 29, 30, 31, 32, 33, 34, 35, 36, 37, 38, 140, 141, 142, 143, 144, 145, 153] (by decide +kernel) (by decide +kernel)
set_option maxRecDepth 20000 in
theorem gX10_walks_X3_copyFrom : GoodIn wsX10_walks (wsV RX10 258 RX3 yX3_copyFrom wsX3_copyFrom) := goodIn_app (goodIn_of _ (by decide +kernel)) ggX10_walks_X3_copyFrom
set_option maxRecDepth 20000 in
theorem ggX10_walks_X10_dreamWalk : GoodIn wsX10_walks wsX10_dreamWalk := goodIn_r _ [43, 6, 44, 4, 2, 9, 10, 1, 45, 46, 47, 48, 49, 50, 51, 52, 53, 54, 55, 56, 57, 42, 58, 59, 36, 37, 32, 38, 34, 60, 61, 62, 15, 63, 17, 64, 65, 66, 67, 68, 69, 70, 71, 72, 73, 74, 75, 76, 77, 78, 79, 80, 81, 82, 83, 84, 85, 86, 87, 88, 89, 90, 91, 92, 120, 121, 122, 123, 124, 125, 126, 127, 128, 129, 130, 131, 132, 133, 134, 154, 155, 140, 141, 142, 143, 144, 145, 135, 153, 146, 147, 148, 149, 150, 151, 152] (by decide +kernel) (by decide +kernel)
set_option maxRecDepth 20000 in
theorem gX10_walks_X10_dreamWalk : GoodIn wsX10_walks (wsV RX10 265 RX10 yX10_dreamWalk wsX10_dreamWalk) := goodIn_app (goodIn_of _ (by decide +kernel)) ggX10_walks_X10_dreamWalk
set_option maxRecDepth 20000 in
theorem ggX10_walks_X3_passMinute : GoodIn wsX10_walks wsX3_passMinute := goodIn_r _ [96, 25, 97, 98, 99, 100, 101, 26, 27, 28, 57, 42, 58, 102, 36, 37, 32, 38, 34, 103, 90, 91, 92, 104, 105, 106, 107, 108, 109, 110, 140, 141, 142, 143, 144, 145, 154, 155, 153] (by decide +kernel) (by decide +kernel)
set_option maxRecDepth 20000 in
theorem gX10_walks_X3_passMinute : GoodIn wsX10_walks (wsV RX10 211 RX3 yX3_passMinute wsX3_passMinute) := goodIn_app (goodIn_of _ (by decide +kernel)) ggX10_walks_X3_passMinute
set_option maxRecDepth 20000 in
theorem ggX10_walks_J6_bitCount_0f7a4 : GoodIn wsX10_walks wsJ6_bitCount_0f7a4 := goodIn_r _ [74, 75, 76, 77] (by decide +kernel) (by decide +kernel)
set_option maxRecDepth 20000 in
theorem gX10_walks_J6_bitCount_0f7a4 : GoodIn wsX10_walks (va_wsS RX10 206 yJ6_bitCount_0f7a4 wsJ6_bitCount_0f7a4) := goodIn_app (goodIn_of _ (by decide +kernel)) ggX10_walks_J6_bitCount_0f7a4
set_option maxRecDepth 20000 in
theorem ggX10_walks_X1_has : GoodIn wsX10_walks wsX1_has := goodIn_r _ [114, 115, 154, 155] (by decide +kernel) (by decide +kernel)
set_option maxRecDepth 20000 in
theorem gX10_walks_X1_has : GoodIn wsX10_walks (wsV RX10 187 RX1 yX1_has wsX1_has) := goodIn_app (goodIn_of _ (by decide +kernel)) ggX10_walks_X1_has
set_option maxRecDepth 20000 in
theorem ggX10_walks_X8_get : GoodIn wsX10_walks wsX8_get := goodIn_r _ [38, 34, 153] (by decide +kernel) (by decide +kernel)
set_option maxRecDepth 20000 in
theorem gX10_walks_X8_get : GoodIn wsX10_walks (wsV RX10 128 RX8 yX8_get wsX8_get) := goodIn_app (goodIn_of _ (by decide +kernel)) ggX10_walks_X8_get
set_option maxRecDepth 20000 in
theorem ggX10_walks_X8_sum : GoodIn wsX10_walks wsX8_sum := goodIn_r _ [119, 34, 153] (by decide +kernel) (by decide +kernel)
set_option maxRecDepth 20000 in
theorem gX10_walks_X8_sum : GoodIn wsX10_walks (wsV RX10 268 RX8 yX8_sum wsX8_sum) := goodIn_app (goodIn_of _ (by decide +kernel)) ggX10_walks_X8_sum
theorem dX10_walks_0 : decode cX10_walks 0 = .ok (.aload_n 0, 1) := by decide +kernel
theorem dX10_walks_1 : decode cX10_walks 1 = .ok (.getfield 19, 3) := by decide +kernel
theorem dX10_walks_4 : decode cX10_walks 4 = .ok (.invokevirtual 152, 3) := by decide +kernel
theorem dX10_walks_7 : decode cX10_walks 7 = .ok (.ifCond .ne 6, 3) := by decide +kernel
theorem dX10_walks_10 : decode cX10_walks 10 = .ok (.bipush (-103), 2) := by decide +kernel
theorem dX10_walks_12 : decode cX10_walks 12 = .ok (.ireturn, 1) := by decide +kernel
theorem dX10_walks_13 : decode cX10_walks 13 = .ok (.iload_n 1, 1) := by decide +kernel
theorem dX10_walks_14 : decode cX10_walks 14 = .ok (.iconst 1, 1) := by decide +kernel
theorem dX10_walks_15 : decode cX10_walks 15 = .ok (.if_icmp .lt 22, 3) := by decide +kernel
theorem dX10_walks_18 : decode cX10_walks 18 = .ok (.iload_n 1, 1) := by decide +kernel
theorem dX10_walks_19 : decode cX10_walks 19 = .ok (.bipush 60, 2) := by decide +kernel
theorem dX10_walks_21 : decode cX10_walks 21 = .ok (.if_icmp .gt 16, 3) := by decide +kernel
theorem dX10_walks_24 : decode cX10_walks 24 = .ok (.iload_n 2, 1) := by decide +kernel
theorem dX10_walks_25 : decode cX10_walks 25 = .ok (.ifCond .lt 12, 3) := by decide +kernel
theorem dX10_walks_28 : decode cX10_walks 28 = .ok (.iload_n 3, 1) := by decide +kernel
theorem dX10_walks_29 : decode cX10_walks 29 = .ok (.ifCond .lt 8, 3) := by decide +kernel
theorem dX10_walks_32 : decode cX10_walks 32 = .ok (.iload_n 3, 1) := by decide +kernel
theorem dX10_walks_33 : decode cX10_walks 33 = .ok (.iconst 3, 1) := by decide +kernel
theorem dX10_walks_34 : decode cX10_walks 34 = .ok (.if_icmp .le 6, 3) := by decide +kernel
theorem dX10_walks_37 : decode cX10_walks 37 = .ok (.bipush (-102), 2) := by decide +kernel
theorem dX10_walks_39 : decode cX10_walks 39 = .ok (.ireturn, 1) := by decide +kernel
theorem dX10_walks_40 : decode cX10_walks 40 = .ok (.aload_n 0, 1) := by decide +kernel
theorem dX10_walks_41 : decode cX10_walks 41 = .ok (.getfield 57, 3) := by decide +kernel
theorem dX10_walks_44 : decode cX10_walks 44 = .ok (.aload_n 0, 1) := by decide +kernel
theorem dX10_walks_45 : decode cX10_walks 45 = .ok (.getfield 50, 3) := by decide +kernel
theorem dX10_walks_48 : decode cX10_walks 48 = .ok (.invokevirtual 258, 3) := by decide +kernel
theorem dX10_walks_51 : decode cX10_walks 51 = .ok (.aload_n 0, 1) := by decide +kernel
theorem dX10_walks_52 : decode cX10_walks 52 = .ok (.getfield 63, 3) := by decide +kernel
theorem dX10_walks_55 : decode cX10_walks 55 = .ok (.iload_n 2, 1) := by decide +kernel
theorem dX10_walks_56 : decode cX10_walks 56 = .ok (.putfield 262, 3) := by decide +kernel
theorem dX10_walks_59 : decode cX10_walks 59 = .ok (.iconst 0, 1) := by decide +kernel
theorem dX10_walks_60 : decode cX10_walks 60 = .ok (.istore 4, 2) := by decide +kernel
theorem dX10_walks_62 : decode cX10_walks 62 = .ok (.iload 4, 2) := by decide +kernel
theorem dX10_walks_64 : decode cX10_walks 64 = .ok (.iload_n 1, 1) := by decide +kernel
theorem dX10_walks_65 : decode cX10_walks 65 = .ok (.if_icmp .ge 31, 3) := by decide +kernel
theorem dX10_walks_68 : decode cX10_walks 68 = .ok (.aload_n 0, 1) := by decide +kernel
theorem dX10_walks_69 : decode cX10_walks 69 = .ok (.invokevirtual 265, 3) := by decide +kernel
theorem dX10_walks_72 : decode cX10_walks 72 = .ok (.aload_n 0, 1) := by decide +kernel
theorem dX10_walks_73 : decode cX10_walks 73 = .ok (.getfield 57, 3) := by decide +kernel
theorem dX10_walks_76 : decode cX10_walks 76 = .ok (.aload_n 0, 1) := by decide +kernel
theorem dX10_walks_77 : decode cX10_walks 77 = .ok (.getfield 43, 3) := by decide +kernel
theorem dX10_walks_80 : decode cX10_walks 80 = .ok (.aload_n 0, 1) := by decide +kernel
theorem dX10_walks_81 : decode cX10_walks 81 = .ok (.getfield 26, 3) := by decide +kernel
theorem dX10_walks_84 : decode cX10_walks 84 = .ok (.getfield 164, 3) := by decide +kernel
theorem dX10_walks_87 : decode cX10_walks 87 = .ok (.invokevirtual 211, 3) := by decide +kernel
theorem dX10_walks_90 : decode cX10_walks 90 = .ok (.iinc 4 1, 3) := by decide +kernel
theorem dX10_walks_93 : decode cX10_walks 93 = .ok (.goto (-31), 3) := by decide +kernel
theorem dX10_walks_96 : decode cX10_walks 96 = .ok (.iload_n 3, 1) := by decide +kernel
theorem dX10_walks_97 : decode cX10_walks 97 = .ok (.tableswitch 76 0 2 #[27, 38, 65], 27) := by decide +kernel
theorem dX10_walks_124 : decode cX10_walks 124 = .ok (.aload_n 0, 1) := by decide +kernel
theorem dX10_walks_125 : decode cX10_walks 125 = .ok (.getfield 57, 3) := by decide +kernel
theorem dX10_walks_128 : decode cX10_walks 128 = .ok (.getfield 190, 3) := by decide +kernel
